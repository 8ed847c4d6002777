def lB (l : Launch) (J : mJt) (R : Room) (g : mG) (b len : Nat) (xs : Nat → Int32) : Prop :=
  ∃ (p : Program) (e : Env) (s : State) (m : MethodId) (args : Array Value) (below : List Frame) (meth : Method) (c : Code) (A : Nat → Prop) (Q : State → Prop),
    (J = mJ p l e R s m args below meth c g A Q ∧ p.tables.exec = Jvm.exec ∧ c.code = c_Lw_law ∧ c.maxLocals = 7 ∧ s.vm.findClass R_Lw = some m.cls ∧ (∀ w ∈ mWS, w.before args s = true) ∧ mK g s ∧ (∀ q, s.heap.size ≤ q → A q)) ∧ xT A s s.heap ∧ va_X b len xs s s.heap ∧ b < s.heap.size ∧ ¬ A b
def lK (J : mJt) (ad : Nat → Nat) (g : mG) (c9 s9 : Nat) : sJt := fun pc L st z => ∀ h : mHp, sH ad g z h → J pc L st h c9 s9
section LB
variable {l : Launch} {J : mJt} {R : Room} {g : mG} {b len : Nat} {xs : Nat → Int32} {pc : Nat} {L : List (Option Value)} {st : List Value} {h : mHp} {cs sl : Nat}
theorem lB.t (hB : lB l J R g b len xs) : mBT l J c_Lw_law R_Lw 7 R g := by
  obtain ⟨p, e, s, m, args, below, meth, c, A, Q, h1, h2, -⟩ := hB
  exact ⟨p, e, s, m, args, below, meth, c, A, Q, h1, h2⟩
theorem lB.ld (hB : lB l J R g b len xs) {x : Int32} {j : Nat} (hd : decode c_Lw_law pc = .ok (.iaload, 1)) (hx : x = nI j) (hj : j < len) (hn : len < 2 ^ 31) (K : J (pc + 1) L (.int (xs j) :: st) h cs sl) : J pc L (.int x :: .ref b :: st) h cs sl := by
  obtain ⟨p, e, s, m, args, below, meth, c, A, Q, ⟨rfl, h1, h2, h3, h4, h5, h6, h7⟩, hT, hX, hb, hA⟩ := hB
  intro H locs ls hP hS hl
  refine va_sld h1 h2 hX hb hA hS (sIn hx hj hn) hd ?_
  rw [sCl hx hj hn]
  exact K H locs ls hP hS hl
theorem lB.ln (hB : lB l J R g b len xs) (hd : decode c_Lw_law pc = .ok (.arraylength, 1)) (K : J (pc + 1) L (.int (nI len) :: st) h cs sl) : J pc L (.ref b :: st) h cs sl := by
  obtain ⟨p, e, s, m, args, below, meth, c, A, Q, ⟨rfl, h1, h2, h3, h4, h5, h6, h7⟩, hT, hX, hb, hA⟩ := hB
  intro H locs ls hP hS hl
  exact va_slen h1 h2 hX hb hA hS hd (K H locs ls hP hS hl)
variable {ad : Nat → Nat} {c9 s9 : Nat} {z : sT}
theorem lB.sb (hB : lB l J R g b len xs) (hj : sJn ad) (hc : c9 ≤ R.cells) (hs : s9 ≤ R.slots) : sB l (lK J ad g c9 s9) c_Lw_law R_Lw 7 R g ad := ⟨J, c9, s9, rfl, hB.t.b, hj, hc, hs⟩
theorem lB.ldK (hB : lB l J R g b len xs) {x : Int32} {j : Nat} (hd : decode c_Lw_law pc = .ok (.iaload, 1)) (hx : x = nI j) (hj : j < len) (hn : len < 2 ^ 31) (K : lK J ad g c9 s9 (pc + 1) L (.int (xs j) :: st) z) : lK J ad g c9 s9 pc L (.int x :: .ref b :: st) z := fun h hh => hB.ld hd hx hj hn (K h hh)
theorem lB.lenK (hB : lB l J R g b len xs) (hd : decode c_Lw_law pc = .ok (.arraylength, 1)) (K : lK J ad g c9 s9 (pc + 1) L (.int (nI len) :: st) z) : lK J ad g c9 s9 pc L (.ref b :: st) z := fun h hh => hB.ln hd (K h hh)
theorem lB.callK (hB : lB l J R g b len xs) (hj : sJn ad) {y : MethodName} {cy : ByteArray} {nY n idx : Nat} {ry : Option FieldType} {hy : List (Nat × Nat × Nat × Nat)} {rest As : List Value} {Post : Option Value → sT → Prop} (lk : mLkS R_Lw idx y As.length) (hcd : Cond.codeWith y cy nY ry hy ∈ mWS) (hM : hS l y cy nY ry hy n g ad As z Post) (hd : decode c_Lw_law pc = .ok (.invokestatic idx, 3)) (hst : st = As.reverse ++ rest) (hLn : L.length = 7) (hrm : n + 1 ≤ R.frames ∧ 8 + (nY + 11) + 32 * n ≤ R.locals) (hw : (rest.map fun v => v.category).sum ≤ 8) (hf : c9 + 1 ≤ R.cells ∧ s9 + 6 ≤ R.slots) (K : ∀ (r : Option Value) (w : sT), Post r w → lK J ad g (c9 + 1) (s9 + 6) (pc + 3) L (r.toList ++ rest) w) : lK J ad g c9 s9 pc L st z := by
  intro h hh
  exact hB.t.callH lk hcd (hM hj h hh) hd hst hLn hrm hw hf (fun r h2 q => by obtain ⟨w, q1, q2⟩ := q; exact K r w q1 h2 q2)
end LB
theorem clA.frL {z w : sT} {S : gS} (h : clA z S) (hf : frL z w) : clA w S := by
  obtain ⟨f1, f2⟩ := hf
  have e1 : w.2.1 = z.2.1 := by rw [f1]
  obtain ⟨h1, ⟨p1, p2, p3, p4⟩, h3, h4, h5, ⟨d1, d2, d3⟩, h7, ⟨r1, r2, r3⟩, ⟨s1, s2, s3⟩, ⟨t1, t2, t3⟩, h11, h12, h13, h14, h15, h16, h17⟩ := h
  have hp : z.2.1 0 4 = 8 ∨ z.2.1 0 4 = 11 := by omega
  have hb := pb_in hp
  have r6 := r3
  unfold clA
  rw [e1]
  refine ⟨h1, ⟨by rw [f2 _ (by omega)]; exact p1, by rw [f2 _ (by omega)]; exact p2, fun j hj i hi => by rw [f2 _ (by omega)]; exact p3 j hj i hi, fun s x hs => by rw [f2 _ (by omega)]; exact p4 s x hs⟩, h3, by rw [f2 _ (by omega)]; exact h4, by rw [f2 _ (by omega)]; exact h5, ⟨by rw [f2 _ (by omega)]; exact d1, d2, fun i hi => by rw [f2 _ (by omega)]; exact d3 i hi⟩, by rw [f2 _ (by omega)]; exact h7, ⟨fun j hj => by rw [e1]; exact r1 j hj, fun i j hi hj => by rw [e1]; exact r2 i j hi hj, fun j hj => by rw [e1]; exact r3 j hj⟩, ⟨by rw [f2 _ (by omega)]; exact s1, s2, fun i R hi => ?_⟩, ⟨by rw [f2 _ (by omega)]; exact t1, t2, fun i R hi => ?_⟩, by rw [f2 _ (by omega)]; exact h11, by rw [f2 _ (by omega)]; exact h12, by rw [f2 _ (by omega)]; exact h13, by rw [f2 _ (by omega)]; exact h14, by rw [f2 _ (by omega)]; exact h15, by rw [f2 _ (by omega)]; exact h16, by rw [f2 _ (by omega)]; exact h17⟩
  · have hl := ix_lt hi
    rw [e1]
    have h9 := r1 i (by omega)
    exact (s3 i R hi).fr (f2 _ (by show z.2.1 4 i < 126; omega)) (f2 _ (by show z.2.1 4 i + 48 < 126; omega))
  · have hl := ix_lt hi
    rw [e1]
    have h9 := r3 i (by omega)
    exact (t3 i R hi).fr (f2 _ (by show z.2.1 6 i < 126; omega)) (f2 _ (by show z.2.1 6 i + 48 < 126; omega))
theorem mdA.frC {z w : sT} {S : gS} {E : Nat} (h : mdA z S E) (hf : frC z w) : mdA w S E := by
  have e : ∀ a, 126 ≤ a → w.1 a = z.1 a := hf
  obtain ⟨⟨t1, t2, t3⟩, ⟨p1, p2, p3, p4, p5, p6⟩, ⟨r1, r2⟩, ⟨m1, m2⟩, f1, f2, f3, f4, f5, f6, f7⟩ := h
  refine ⟨⟨by rw [e 126 (by decide)]; exact t1, fun i hi => by rw [e 127 (by decide)]; exact t2 i hi, by rw [e 126 (by decide)]; exact t3⟩, ⟨by rw [e 126 (by decide)]; exact p1, by rw [e 126 (by decide)]; exact p2, fun s x hs => by rw [e 134 (by decide)]; exact p3 s x hs, fun j hj => ?_, by rw [e 126 (by decide)]; exact p5, by rw [e 126 (by decide)]; exact p6⟩, ⟨by rw [e 126 (by decide)]; exact r1, fun i R hi => (r2 i R hi).row (fun c c1 _ => e c (by omega))⟩, ⟨by rw [e 126 (by decide)]; exact m1, fun i R hi => (m2 i R hi).row (e 142 (by decide)) (e 143 (by decide))⟩, f1, by rw [e 126 (by decide)]; exact f2, by rw [e 126 (by decide)]; exact f3, by rw [e 126 (by decide)]; exact f4, by rw [e 126 (by decide)]; exact f5, by rw [e 126 (by decide)]; exact f6, by rw [e 126 (by decide)]; exact f7⟩
  unfold mdE
  rw [e 128 (by decide), e 129 (by decide), e 130 (by decide), e 131 (by decide), e 132 (by decide), e 133 (by decide)]
  exact p4 j hj
theorem frL_code {z : sT} {v : Int32} : frL z (sI z 126 0 v) := ⟨rfl, fun a ha => sI_row (by omega)⟩
def wld (z : sT) (S : gS) (E : Nat) : Prop := clA z S ∧ mdA z S E ∧ gOk S E ∧ ((gPt S).2.1 0).2.2.2.2.1 = 0
theorem gOk.ty {S : gS} {E q : Nat} (h : gOk S E) : gOk (gTy S q) E := by
  unfold gTy
  split
  · rename_i hq
    obtain ⟨⟨h1, h2⟩, h3⟩ := h
    refine ⟨⟨by show gN S + 1 ≤ 40; omega, fun i hi => ?_⟩, h3⟩
    have hi2 : i < gN S + 1 := hi
    show ∃ q9 : Nat, 33 ≤ q9 ∧ q9 ≤ 126 ∧ upd (gTx S) (gN S) (nI q) i = nI q9
    unfold upd
    by_cases hin : i = gN S
    · rw [if_pos hin]
      exact ⟨q, hq.1, hq.2.1, rfl⟩
    · rw [if_neg hin]
      exact h2 i (by omega)
  · exact h
theorem gTy_pt {S : gS} {q : Nat} : gPt (gTy S q) = gPt S := by
  unfold gTy
  split <;> rfl
theorem gOk.wipe {S : gS} {E : Nat} (h : gOk S E) : gOk (gTx S, 0, S.2.2) E := ⟨⟨Nat.zero_le _, fun i hi => absurd hi (Nat.not_lt_zero i)⟩, h.2⟩
theorem gOk.no {S : gS} {E : Nat} (h : gOk S E) : gOk (gNo S) E := h
theorem gOk.ld {S : gS} {E : Nat} (h : gOk S E) (hok : (cRd (gTx S) (gN S)).1 = true) (h8 : (gPt (gLd S)).1 ≤ 8) : gOk (gLd S) 0 := by
  obtain ⟨w1, w2⟩ := cRd_w h.1.2 hok
  exact ⟨h.1, h8, w1, cRd_k, fun q => by
    have q2 : (cRd (gTx S) (gN S)).2.2.1 = 0 := q
    omega, ⟨Nat.zero_le _, fun R hR => (by cases hR)⟩, Nat.zero_le _, fun R hR => (by cases hR)⟩
def S0 : gS := (fun _ => 0, 0, -1, (0, fun _ => pE0, 0, 0), [], [], (0, 0, 0, 0, 0, 0))
theorem cl_0 : clA z0 S0 := by
  refine ⟨Or.inl ⟨rfl, rfl⟩, ⟨rfl, rfl, fun j hj => absurd hj (Nat.not_lt_zero j), fun s x hs => by cases hs⟩, by decide, rfl, rfl, ⟨rfl, by decide, fun i hi => absurd hi (Nat.not_lt_zero i)⟩, rfl, ⟨fun j hj => ?_, fun i j _ _ hij => ?_, fun j _ => rfl⟩, ⟨rfl, by decide, fun i R hi => (by cases hi)⟩, ⟨rfl, by decide, fun i R hi => (by cases hi)⟩, rfl, rfl, rfl, rfl, rfl, rfl, rfl⟩
  · show 30 ≤ 30 + j ∧ 30 + j < 54
    omega
  · have h9 : 30 + i = 30 + j := hij
    omega
theorem md_0 : mdA z0 S0 0 := ⟨⟨rfl, fun i hi => absurd hi (Nat.not_lt_zero i), rfl⟩, ⟨rfl, rfl, fun s x hs => (by cases hs), fun j hj => absurd hj (Nat.not_lt_zero j), rfl, rfl⟩, ⟨rfl, fun i R hi => (by cases hi)⟩, ⟨rfl, fun i R hi => (by cases hi)⟩, rfl, rfl, rfl, rfl, rfl, rfl, rfl⟩
theorem wld_0 : wld z0 S0 0 := ⟨cl_0, md_0, ⟨⟨by decide, fun i hi => absurd hi (Nat.not_lt_zero i)⟩, by decide, ⟨fun j hj => absurd hj (Nat.not_lt_zero j), fun q => absurd q (by decide)⟩, Or.inl rfl, fun _ => rfl, ⟨by decide, fun R hR => (by cases hR)⟩, by decide, fun R hR => (by cases hR)⟩, rfl⟩
theorem i2c_q (x : Int32) : ∃ q : Nat, q < 65536 ∧ (x.toUInt32 % 65536).toInt32 = nI q := by
  refine ⟨(x.toUInt32 % 65536).toNat, ?_, ?_⟩
  · rw [UInt32.toNat_mod]
    exact Nat.mod_lt _ (by decide)
  · have h : (x.toUInt32 % 65536).toNat < 2 ^ 31 := by
      rw [UInt32.toNat_mod]
      exact Nat.lt_trans (Nat.mod_lt _ (by decide)) (by decide)
    generalize x.toUInt32 % 65536 = u at h
    apply Int32.toInt_inj.mp
    rw [nI_toInt h]
    show u.toBitVec.toInt = (u.toNat : Int)
    exact BitVec.toInt_eq_toNat_of_lt (by show 2 * u.toNat < 2 ^ 32; omega)
theorem nw.sH {g : mG} {f : Nat → Nat} {h hc : mHp} (n : nw g (fun i => i < 145) f h hc) : ∃ h2 : mHp, sH f g z0 h2 ∧ sJn f ∧ (∀ (a : Nat) (e2 : va_E), h2 a = some e2 → ∃ e, hc a = some e ∧ eqE e e2) := by
  have hj : sJn f := fun i j hi hj hij => n.2.2 i j hi hj hij
  have hx : ∀ a : Nat, ∃ o : Option va_E, (∀ i, i < 145 → f i = a → o = some (sCell f g z0 i (sK i))) ∧ (∀ e, o = some e → ∃ i, i < 145 ∧ f i = a ∧ e = sCell f g z0 i (sK i)) := by
    intro a
    by_cases h9 : ∃ i, i < 145 ∧ f i = a
    · obtain ⟨i, hi, hia⟩ := h9
      exact ⟨some (sCell f g z0 i (sK i)), fun j hj2 hja => by rw [hj i j hi hj2 (hia.trans hja.symm)], fun e he => ⟨i, hi, hia, (Option.some.inj he).symm⟩⟩
    · exact ⟨none, fun i hi hia => absurd ⟨i, hi, hia⟩ h9, fun e he => by cases he⟩
  refine ⟨fun a => Classical.choose (hx a), fun i hi => (Classical.choose_spec (hx (f i))).1 i hi rfl, hj, fun a e2 he => ?_⟩
  obtain ⟨i, hi, hia, rfl⟩ := (Classical.choose_spec (hx a)).2 e2 he
  obtain ⟨e, q1, q2⟩ := n.2.1 i hi
  exact ⟨e, by rw [← hia]; exact q1, q2⟩
