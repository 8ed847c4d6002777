theorem sC_pt {f : Nat → Nat} {g : mG} {q : Nat} (hq : q = 8 ∨ q = 11) : sCell f g z0 q (sK q) = mO 4 [.ref (f (q + 1)), .ref (f (q + 2)), .int 0, .int 0, .int 0, .int 0] := by
  rcases hq with rfl | rfl <;> rfl
theorem sC_pe {f : Nat → Nat} {g : mG} {q eb : Nat} (hq : (q = 8 ∧ eb = 14) ∨ (q = 11 ∧ eb = 22)) : sCell f g z0 (q + 1) (sK (q + 1)) = mAR g 5 8 (fun j => some (f (eb + j))) := by
  rcases hq with ⟨rfl, rfl⟩ | ⟨rfl, rfl⟩ <;> rfl
theorem sC_ps {f : Nat → Nat} {g : mG} {q : Nat} (hq : q = 8 ∨ q = 11) : sCell f g z0 (q + 2) (sK (q + 2)) = mAI g 0 8 (fun _ => 0) := by
  rcases hq with rfl | rfl <;> rfl
def dEl (eb j : Nat) : Nat → Prop := fun i => eb ≤ i ∧ i < eb + j
theorem ch_e {eb : Nat} (hb : eb = 14 ∨ eb = 22) {i j c : Nat} (hj : j ≤ 8) (hi : dEl eb j i) (hc : c ∈ chL i) : False := by
  unfold dEl at hi
  rw [ch_el i (by omega) (by omega)] at hc
  cases hc
set_option maxHeartbeats 1000000 in
theorem n_Pt (l : Launch) (g : mG) (a q eb : Nat) (h : mHp) (hq : (q = 8 ∧ eb = 14) ∨ (q = 11 ∧ eb = 22)) (ha : h a = some (mO 4 [.null, .null, .int 0, .int 0, .int 0, .int 0])) : mC l y_Pt_init c_Pt_init 2 none 2 10 64 g [.ref a] h (inQ g (fun i => (i = q + 1 ∨ i = q + 2 ∨ dEl eb 8 i) ∨ i = q) q a h) := by
  have hb : eb = 14 ∨ eb = 22 := by omega
  have hq2 : q = 8 ∨ q = 11 := by omega
  have hna : h a ≠ none := by rw [ha]; intro q; cases q
  refine mC.intro (by decide) (by simp [Value.category]) (Nat.le_of_ble_eq_true rfl) (fun J hJ hE => ?_)
  show J 0 [some (.ref a), none] [] h 0 0
  refine hJ.aload_n d_Pt_init_0 rfl ?_
  refine hJ.objInit oi_Pt oi_i oi_c rfl d_Pt_init_1 (by decide) (by decide) ?_
  refine hJ.aload_n d_Pt_init_4 rfl ?_
  refine hJ.bipush d_Pt_init_5 (v := 8) rfl ?_
  refine hJ.newA5 cl_Pt_9 d_Pt_init_7 (by decide) (N := 8) rfl (by decide) (by decide) (by decide) (fun w hw => ?_)
  have haw := ne_of ha hw
  refine hJ.putF fa_Pt_11 rfl d_Pt_init_10 (kp_new hw _ _ ha) rfl rfl (by decide) rfl ?_
  refine hJ.iconst d_Pt_init_13 (v := 0) rfl ?_
  refine hJ.istore_n d_Pt_init_14 (Nat.le_of_ble_eq_true rfl) ?_
  show J 15 [some (.ref a), some (.int (nI 0))] [] (mU (mU h w (mAR g 5 8 (fun _ => none))) a (mO 4 [.ref w, .null, .int 0, .int 0, .int 0, .int 0])) 1 8
  generalize h1e : mU (mU h w (mAR g 5 8 (fun _ => none))) a (mO 4 [.ref w, .null, .int 0, .int 0, .int 0, .int 0]) = h1
  have h1a : h1 a = some (mO 4 [.ref w, .null, .int 0, .int 0, .int 0, .int 0]) := by rw [← h1e, mU_self]
  have h1w : h1 w = some (mAR g 5 8 (fun _ => none)) := by rw [← h1e, mU_ne (Ne.symm haw), mU_self]
  have h1n : ∀ x, h1 x = none → h x = none := fun x hx => by
    rw [← h1e] at hx
    by_cases p1 : x = a
    · subst p1; rw [mU_self] at hx; cases hx
    · rw [mU_ne p1] at hx
      by_cases p2 : x = w
      · rw [p2]; exact hw
      · rw [mU_ne p2] at hx; exact hx
  have h1k : ∀ (x : Nat) (e : va_E), x ≠ a → h x = some e → h1 x = some e := fun x e hx he => by rw [← h1e, mU_ne hx]; exact kp_new hw _ _ he
  have h1an : h1 a ≠ none := by rw [h1a]; intro q; cases q
  have h15 : ∀ (n j : Nat) (hc : mHp) (f : Nat → Nat) (fn : Nat → Option Nat) (cs sl : Nat), j + n = 8 → cs = 1 + j → sl = 8 + 6 * j → nw g (dEl eb j) f h1 hc → hc a = some (mO 4 [.ref w, .null, .int 0, .int 0, .int 0, .int 0]) → hc w = some (mAR g 5 8 fn) → (∀ k, k < j → fn k = some (f (eb + k))) → (∀ x, hc x = none → h1 x = none) → (∀ (x : Nat) (e : va_E), x ≠ w → h1 x = some e → hc x = some e) → J 15 [some (.ref a), some (.int (nI j))] [] hc cs sl := by
    intro n
    induction n with
    | zero =>
      intro j hc f fn cs sl hj hcs hsl hn hca hcw hfn hdn hkp
      have hj24 : j = 8 := hj
      subst hj24
      refine hJ.iload_n d_Pt_init_15 rfl ?_
      refine hJ.bipush d_Pt_init_16 (v := 8) rfl ?_
      refine hJ.icmp_ge d_Pt_init_18 (tgt := 40) rfl (fun _ => ?_) (fun p => absurd (nI_le (a := 8) (Nat.le_refl _) (by decide)) p)
      refine hJ.aload_n d_Pt_init_40 rfl ?_
      refine hJ.bipush d_Pt_init_41 (v := 8) rfl ?_
      refine hJ.newI ac_int d_Pt_init_43 (by decide) (N := 8) rfl (by decide) (by rw [hcs]; decide) (by rw [hsl]; decide) (fun v hv => ?_)
      have hav := ne_of hca hv
      have hwv := ne_of hcw hv
      refine hJ.putF fa_Pt_18 rfl d_Pt_init_45 (kp_new hv _ _ hca) rfl rfl (Nat.le_of_ble_eq_true rfl) (fs2 := [.ref w, .ref v, .int 0, .int 0, .int 0, .int 0]) rfl ?_
      refine hE.2.2 _ _ _ _ _ d_Pt_init_48 rfl ?_ (by rw [hcs]; decide) (by rw [hsl]; decide)
      have hfv : ∀ k, dEl eb 8 k → f k ≠ v := fun k hk p => by
        obtain ⟨e9, p1, -⟩ := hn.2.1 k hk
        rw [p, hv] at p1
        cases p1
      have hfw : ∀ k, dEl eb 8 k → f k ≠ w := fun k hk p => by
        have := hn.1 k hk
        rw [p, h1w] at this
        cases this
      have n1 : nw g (dEl eb 8) f h1 (mU (mU hc v (mAI g 0 8 (fun _ => 0))) a (mO 4 [.ref w, .ref v, .int 0, .int 0, .int 0, .int 0])) := by
        refine nw.put ⟨hn.1, fun i hi => ?_, hn.2.2⟩ h1an
        obtain ⟨e9, p1, p2⟩ := hn.2.1 i hi
        exact ⟨e9, by rw [mU_ne (hfv i hi)]; exact p1, p2⟩
      obtain ⟨f2, e2, e3, n2⟩ := (n1.base h1n).cell (i := q + 1) hw (by rw [mU_ne (Ne.symm haw), mU_ne hwv]; exact hcw) (fun f2 k1 k2 => by rw [sC_pe hq]; exact Or.inr ⟨_, _, _, _, rfl, rfl, fun k hk => by rw [hfn k hk, k1 (eb + k) (by unfold dEl; omega)]⟩) (fun p => by unfold dEl at p; omega) hfw (fun k hk c hc => (ch_e hb (Nat.le_refl _) hk hc).elim)
      have hne : ∀ c ∈ chL (q + 1), eb ≤ c ∧ c < eb + 8 := by rcases hq with ⟨rfl, rfl⟩ | ⟨rfl, rfl⟩ <;> decide
      obtain ⟨f3, e4, e5, n3⟩ := n2.cell (i := q + 2) (h1n v (hdn v hv)) (by rw [mU_ne (Ne.symm hav), mU_self]) (fun f2 k1 k2 => Or.inl (sC_ps hq2).symm) (fun p => by unfold dEl at p; omega) (fun k hk p => by
        rcases hk with r | r
        · rw [e2 k r] at p; exact hfv k r p
        · rw [r, e3] at p; exact hwv p) (fun k hk c hc p => by
        rcases hk with r | r
        · exact ch_e hb (Nat.le_refl _) r hc
        · rw [r] at hc
          have := hne c hc
          omega)
      refine n3.done hna (fun p => by unfold dEl at p; omega) (fun k hk c hc p => ?_) mU_self (fun f4 k1 k2 => Or.inl ?_) (fun x e hx he => ?_) (fun k hk => ?_)
      · rcases hk with (r | r) | r
        · exact ch_e hb (Nat.le_refl _) r hc
        · rw [r] at hc
          have := hne c hc
          omega
        · have h9 : chL (q + 2) = [] := by rcases hq2 with rfl | rfl <;> rfl
          rw [r, h9] at hc
          cases hc
      · rw [sC_pt hq2, k1 (q + 1) (Or.inl (Or.inr rfl)), k1 (q + 2) (Or.inr rfl), e5, e4 (q + 1) (Or.inr rfl), e3]
      · rw [mU_ne hx]
        exact kp_new hv _ _ (hkp x e (ne_of he hw) (h1k x e hx he))
      · rcases hk with (p | p | p) | p
        · exact Or.inl (Or.inl (Or.inr p))
        · exact Or.inl (Or.inr p)
        · exact Or.inl (Or.inl (Or.inl p))
        · exact Or.inr p
    | succ n ih =>
      intro j hc f fn cs sl hj hcs hsl hn hca hcw hfn hdn hkp
      refine hJ.iload_n d_Pt_init_15 rfl ?_
      refine hJ.bipush d_Pt_init_16 (v := 8) rfl ?_
      refine hJ.icmp_ge d_Pt_init_18 (tgt := 40) rfl (fun p => absurd p (nI_ge (b := 8) (by omega) (by decide))) (fun _ => ?_)
      refine hJ.aload_n d_Pt_init_21 rfl ?_
      refine hJ.getf fa_Pt_11 d_Pt_init_22 hca rfl ?_
      refine hJ.iload_n d_Pt_init_25 rfl ?_
      refine hJ.new nl_Pt_9 d_Pt_init_26 (by show cs + 1 ≤ 10; omega) (by show sl + 6 ≤ 64; omega) (fun r hr => ?_)
      refine hJ.dup d_Pt_init_29 rfl ?_
      refine hJ.callIN (As := []) (rest := [.ref r, .int (nI j), .ref w]) lk_Pt_17 cd_El_init (n_El l g r (eb + j) _ (by omega) (by omega) mU_self) d_Pt_init_30 rfl rfl (by decide) (by simp [Value.category]) ⟨by show cs + 1 + 0 ≤ 10; omega, by show sl + 6 + 0 ≤ 64; omega⟩ (fun r9 h2 hp => ?_)
      obtain ⟨rfl, f2, e2, n2, k2⟩ := inQ.nw (D := fun j9 => j9 = eb + j) hr rfl hp
      obtain ⟨e9, q1, q2⟩ := n2.2.1 (eb + j) rfl
      rw [sC_el (by omega) (by omega)] at q2
      rw [e2, q2.obj] at q1
      refine hJ.aast5 d_Pt_init_33 (k2 _ _ hcw) (ci := 5) rfl rfl q1 (vp_in_nI (by omega) (by decide)) ?_
      rw [nI_clamp (by omega)]
      refine hJ.iinc d_Pt_init_34 rfl (v := nI (j + 1)) (nI_succ j).symm ?_
      refine hJ.goto d_Pt_init_37 (tgt := 15) rfl ?_
      obtain ⟨f3, e31, e32, n3⟩ := hn.merge n2 k2 hdn (fun i hi p => by unfold dEl at hi; omega) (fun i hi c hc p => ch_e hb (by omega) hi hc) (fun i hi c hc => by
        rw [hi, ch_el _ (by omega) (by omega)] at hc
        cases hc)
      have h1wn : h1 w ≠ none := by rw [h1w]; intro q; cases q
      refine ih (j + 1) _ f3 _ _ _ (by omega) (by omega) (by show sl + 6 + 0 = _; omega) ((n3.put h1wn).iff (fun i hi => ?_)) (by rw [mU_ne haw]; exact k2 _ _ hca) mU_self (fun k hk => ?_) (fun x hx => ?_) (fun x e hx he => by rw [mU_ne hx]; exact k2 _ _ (hkp x e hx he))
      · unfold dEl at hi ⊢
        omega
      · unfold va_up
        by_cases hkj : k = j
        · rw [if_pos hkj, hkj, e32 (eb + j) rfl, e2]
        · rw [if_neg hkj, hfn k (by omega), e31 (eb + k) (by unfold dEl; omega)]
      · by_cases p : x = w
        · rw [p, mU_self] at hx; cases hx
        · rw [mU_ne p] at hx
          cases hx2 : hc x with
          | none => exact hdn x hx2
          | some e => rw [k2 _ _ hx2] at hx; cases hx
  exact h15 8 0 h1 (fun _ => 0) (fun _ => none) 1 8 rfl rfl rfl ⟨fun i hi => by unfold dEl at hi; omega, fun i hi => by unfold dEl at hi; omega, fun i j hi => by unfold dEl at hi; omega⟩ h1a h1w (fun k hk => absurd hk (Nat.not_lt_zero k)) (fun x hx => hx) (fun x e _ he => he)
theorem nwStep {g : mG} {f : Nat → Nat} {h hc : mHp} {k q a t N : Nat} {e2 : va_E} (n : nw g (fun i => 127 ≤ i ∧ i < 127 + k) f h hc) (hq : hc q = none) (hdn : ∀ x, hc x = none → h x = none) (hkp : ∀ (x : Nat) (e : va_E), x ≠ a → h x = some e → hc x = some e) (ha : h a ≠ none) (hk : k < 17) (hs : ∀ f2 : Nat → Nat, sCell f2 g z0 (127 + k) (sK (127 + k)) = mAI g t N (fun _ => 0)) :
    ∃ f2 : Nat → Nat, (∀ i, 127 ≤ i → i < 127 + k → f2 i = f i) ∧ f2 (127 + k) = q ∧ nw g (fun i => 127 ≤ i ∧ i < 127 + (k + 1)) f2 h (mU (mU hc q (mAI g t N (fun _ => 0))) a e2) ∧ (∀ x, mU (mU hc q (mAI g t N (fun _ => 0))) a e2 x = none → h x = none) ∧ (∀ (x : Nat) (e : va_E), x ≠ a → h x = some e → mU (mU hc q (mAI g t N (fun _ => 0))) a e2 x = some e) := by
  have hfq : ∀ i, 127 ≤ i ∧ i < 127 + k → f i ≠ q := fun i hi p => by
    obtain ⟨e9, p1, -⟩ := n.2.1 i hi
    rw [p, hq] at p1
    cases p1
  have n1 : nw g (fun i => 127 ≤ i ∧ i < 127 + k) f h (mU hc q (mAI g t N (fun _ => 0))) := by
    refine ⟨n.1, fun i hi => ?_, n.2.2⟩
    obtain ⟨e9, p1, p2⟩ := n.2.1 i hi
    exact ⟨e9, by rw [mU_ne (hfq i hi)]; exact p1, p2⟩
  obtain ⟨f2, k1, k2, n2⟩ := n1.cell (i := 127 + k) (hdn q hq) mU_self (fun f2 _ _ => Or.inl (hs f2).symm) (fun p => by omega) hfq (fun j hj c hc => by
    rw [ch_md j (by omega) hj.1] at hc
    cases hc)
  refine ⟨f2, fun i a b => k1 i ⟨a, b⟩, k2, (n2.put ha).iff (fun i hi => ?_), fun x hx => ?_, fun x e hx he => ?_⟩
  · by_cases hik : i = 127 + k
    · exact Or.inr hik
    · exact Or.inl ⟨hi.1, by omega⟩
  · by_cases p : x = a
    · rw [p, mU_self] at hx; cases hx
    · rw [mU_ne p] at hx
      by_cases p2 : x = q
      · rw [p2]; exact hdn q hq
      · rw [mU_ne p2] at hx; exact hdn x hx
  · rw [mU_ne hx]
    exact kp_new hq _ _ (hkp x e hx he)
set_option maxRecDepth 100000 in
set_option maxHeartbeats 4000000 in
theorem n_Md (l : Launch) (g : mG) (a : Nat) (h : mHp) (ha : h a = some (mO 7 [.int 0, .int 0, .null, .int 0, .int 0, .int 0, .null, .null, .null, .null, .null, .null, .int 0, .int 0, .int 0, .int 0, .int 0, .null, .int 0, .int 0, .null, .null, .null, .null, .int 0, .int 0, .int 0, .null, .null, .null, .int 0, .null, .null, .int 0, .int 0, .int 0, .int 0])) : mC l y_Md_init c_Md_init 1 none 1 17 4824 g [.ref a] h (inQ g (fun i => i < 145 ∧ grp i = 7) 126 a h) := by
  have hna : h a ≠ none := by rw [ha]; intro q; cases q
  refine mC.intro (by decide) (by simp [Value.category]) (Nat.le_of_ble_eq_true rfl) (fun J hJ hE => ?_)
  show J 0 [some (.ref a)] [] h 0 0
  have s17 : ∀ (hc : mHp) (f : Nat → Nat), nw g (fun i => 127 ≤ i ∧ i < 127 + 17) f h hc → hc a = some (mO 7 [.int 0, .int 0, .ref (f 127), .int (-1), .int 0, .int 0, .ref (f 128), .ref (f 129), .ref (f 130), .ref (f 131), .ref (f 132), .ref (f 133), .int 0, .int 0, .int 0, .int 0, .int 0, .ref (f 134), .int 0, .int 0, .ref (f 135), .ref (f 136), .ref (f 137), .ref (f 138), .int 0, .int 0, .int 0, .ref (f 139), .ref (f 140), .ref (f 141), .int 0, .ref (f 142), .ref (f 143), .int 0, .int 0, .int 0, .int 0]) → (∀ x, hc x = none → h x = none) → (∀ (x : Nat) (e : va_E), x ≠ a → h x = some e → hc x = some e) → J 151 [some (.ref a)] [] hc 17 4824 := by
    intro hc f hn hca hdn hkp
    refine hE.2.2 _ _ _ _ _ d_Md_init_151 rfl ?_ (by decide) (by decide)
    refine hn.done hna (fun p => by omega) (fun i hi c hc => by
      rw [ch_md i (by omega) hi.1] at hc
      cases hc) hca (fun f2 k1 _ => Or.inl ?_) hkp (fun i hi => (g_7 i hi.1 hi.2).elim (fun p => Or.inl ⟨p.1, by omega⟩) Or.inr)
    rw [← k1 127 ⟨by decide, by decide⟩, ← k1 128 ⟨by decide, by decide⟩, ← k1 129 ⟨by decide, by decide⟩, ← k1 130 ⟨by decide, by decide⟩, ← k1 131 ⟨by decide, by decide⟩, ← k1 132 ⟨by decide, by decide⟩, ← k1 133 ⟨by decide, by decide⟩, ← k1 134 ⟨by decide, by decide⟩, ← k1 135 ⟨by decide, by decide⟩, ← k1 136 ⟨by decide, by decide⟩, ← k1 137 ⟨by decide, by decide⟩, ← k1 138 ⟨by decide, by decide⟩, ← k1 139 ⟨by decide, by decide⟩, ← k1 140 ⟨by decide, by decide⟩, ← k1 141 ⟨by decide, by decide⟩, ← k1 142 ⟨by decide, by decide⟩, ← k1 143 ⟨by decide, by decide⟩]
    rfl
  have s16 : ∀ (hc : mHp) (f : Nat → Nat), nw g (fun i => 127 ≤ i ∧ i < 127 + 16) f h hc → hc a = some (mO 7 [.int 0, .int 0, .ref (f 127), .int (-1), .int 0, .int 0, .ref (f 128), .ref (f 129), .ref (f 130), .ref (f 131), .ref (f 132), .ref (f 133), .int 0, .int 0, .int 0, .int 0, .int 0, .ref (f 134), .int 0, .int 0, .ref (f 135), .ref (f 136), .ref (f 137), .ref (f 138), .int 0, .int 0, .int 0, .ref (f 139), .ref (f 140), .ref (f 141), .int 0, .ref (f 142), .null, .int 0, .int 0, .int 0, .int 0]) → (∀ x, hc x = none → h x = none) → (∀ (x : Nat) (e : va_E), x ≠ a → h x = some e → hc x = some e) → J 142 [some (.ref a)] [] hc 16 4200 := by
    intro hc f hn hca hdn hkp
    refine hJ.aload_n d_Md_init_142 rfl ?_
    refine hJ.sipush d_Md_init_143 (v := 624) rfl ?_
    refine hJ.newI ac_int d_Md_init_146 (by decide) (N := 624) rfl (by decide) (by decide) (by decide) (fun q hq => ?_)
    refine hJ.putF fa_Md_64 rfl d_Md_init_148 (kp_new hq _ _ hca) rfl rfl (Nat.le_of_ble_eq_true rfl) (fs2 := [.int 0, .int 0, .ref (f 127), .int (-1), .int 0, .int 0, .ref (f 128), .ref (f 129), .ref (f 130), .ref (f 131), .ref (f 132), .ref (f 133), .int 0, .int 0, .int 0, .int 0, .int 0, .ref (f 134), .int 0, .int 0, .ref (f 135), .ref (f 136), .ref (f 137), .ref (f 138), .int 0, .int 0, .int 0, .ref (f 139), .ref (f 140), .ref (f 141), .int 0, .ref (f 142), .ref q, .int 0, .int 0, .int 0, .int 0]) rfl ?_
    obtain ⟨f2, k1, k2, n2, dn2, kp2⟩ := nwStep (k := 16) (t := 0) (N := 624) (e2 := mO 7 [.int 0, .int 0, .ref (f 127), .int (-1), .int 0, .int 0, .ref (f 128), .ref (f 129), .ref (f 130), .ref (f 131), .ref (f 132), .ref (f 133), .int 0, .int 0, .int 0, .int 0, .int 0, .ref (f 134), .int 0, .int 0, .ref (f 135), .ref (f 136), .ref (f 137), .ref (f 138), .int 0, .int 0, .int 0, .ref (f 139), .ref (f 140), .ref (f 141), .int 0, .ref (f 142), .ref q, .int 0, .int 0, .int 0, .int 0]) hn hq hdn hkp hna (by decide) (fun _ => rfl)
    refine s17 _ f2 n2 ?_ dn2 kp2
    rw [mU_self, k1 127 (by decide) (by decide), k1 128 (by decide) (by decide), k1 129 (by decide) (by decide), k1 130 (by decide) (by decide), k1 131 (by decide) (by decide), k1 132 (by decide) (by decide), k1 133 (by decide) (by decide), k1 134 (by decide) (by decide), k1 135 (by decide) (by decide), k1 136 (by decide) (by decide), k1 137 (by decide) (by decide), k1 138 (by decide) (by decide), k1 139 (by decide) (by decide), k1 140 (by decide) (by decide), k1 141 (by decide) (by decide), k1 142 (by decide) (by decide), show f2 143 = q from k2]
  have s15 : ∀ (hc : mHp) (f : Nat → Nat), nw g (fun i => 127 ≤ i ∧ i < 127 + 15) f h hc → hc a = some (mO 7 [.int 0, .int 0, .ref (f 127), .int (-1), .int 0, .int 0, .ref (f 128), .ref (f 129), .ref (f 130), .ref (f 131), .ref (f 132), .ref (f 133), .int 0, .int 0, .int 0, .int 0, .int 0, .ref (f 134), .int 0, .int 0, .ref (f 135), .ref (f 136), .ref (f 137), .ref (f 138), .int 0, .int 0, .int 0, .ref (f 139), .ref (f 140), .ref (f 141), .int 0, .null, .null, .int 0, .int 0, .int 0, .int 0]) → (∀ x, hc x = none → h x = none) → (∀ (x : Nat) (e : va_E), x ≠ a → h x = some e → hc x = some e) → J 134 [some (.ref a)] [] hc 15 4174 := by
    intro hc f hn hca hdn hkp
    refine hJ.aload_n d_Md_init_134 rfl ?_
    refine hJ.bipush d_Md_init_135 (v := 26) rfl ?_
    refine hJ.newI ac_int d_Md_init_137 (by decide) (N := 26) rfl (by decide) (by decide) (by decide) (fun q hq => ?_)
    refine hJ.putF fa_Md_61 rfl d_Md_init_139 (kp_new hq _ _ hca) rfl rfl (Nat.le_of_ble_eq_true rfl) (fs2 := [.int 0, .int 0, .ref (f 127), .int (-1), .int 0, .int 0, .ref (f 128), .ref (f 129), .ref (f 130), .ref (f 131), .ref (f 132), .ref (f 133), .int 0, .int 0, .int 0, .int 0, .int 0, .ref (f 134), .int 0, .int 0, .ref (f 135), .ref (f 136), .ref (f 137), .ref (f 138), .int 0, .int 0, .int 0, .ref (f 139), .ref (f 140), .ref (f 141), .int 0, .ref q, .null, .int 0, .int 0, .int 0, .int 0]) rfl ?_
    obtain ⟨f2, k1, k2, n2, dn2, kp2⟩ := nwStep (k := 15) (t := 0) (N := 26) (e2 := mO 7 [.int 0, .int 0, .ref (f 127), .int (-1), .int 0, .int 0, .ref (f 128), .ref (f 129), .ref (f 130), .ref (f 131), .ref (f 132), .ref (f 133), .int 0, .int 0, .int 0, .int 0, .int 0, .ref (f 134), .int 0, .int 0, .ref (f 135), .ref (f 136), .ref (f 137), .ref (f 138), .int 0, .int 0, .int 0, .ref (f 139), .ref (f 140), .ref (f 141), .int 0, .ref q, .null, .int 0, .int 0, .int 0, .int 0]) hn hq hdn hkp hna (by decide) (fun _ => rfl)
    refine s16 _ f2 n2 ?_ dn2 kp2
    rw [mU_self, k1 127 (by decide) (by decide), k1 128 (by decide) (by decide), k1 129 (by decide) (by decide), k1 130 (by decide) (by decide), k1 131 (by decide) (by decide), k1 132 (by decide) (by decide), k1 133 (by decide) (by decide), k1 134 (by decide) (by decide), k1 135 (by decide) (by decide), k1 136 (by decide) (by decide), k1 137 (by decide) (by decide), k1 138 (by decide) (by decide), k1 139 (by decide) (by decide), k1 140 (by decide) (by decide), k1 141 (by decide) (by decide), show f2 142 = q from k2]
  have s14 : ∀ (hc : mHp) (f : Nat → Nat), nw g (fun i => 127 ≤ i ∧ i < 127 + 14) f h hc → hc a = some (mO 7 [.int 0, .int 0, .ref (f 127), .int (-1), .int 0, .int 0, .ref (f 128), .ref (f 129), .ref (f 130), .ref (f 131), .ref (f 132), .ref (f 133), .int 0, .int 0, .int 0, .int 0, .int 0, .ref (f 134), .int 0, .int 0, .ref (f 135), .ref (f 136), .ref (f 137), .ref (f 138), .int 0, .int 0, .int 0, .ref (f 139), .ref (f 140), .null, .int 0, .null, .null, .int 0, .int 0, .int 0, .int 0]) → (∀ x, hc x = none → h x = none) → (∀ (x : Nat) (e : va_E), x ≠ a → h x = some e → hc x = some e) → J 125 [some (.ref a)] [] hc 14 2374 := by
    intro hc f hn hca hdn hkp
    refine hJ.aload_n d_Md_init_125 rfl ?_
    refine hJ.sipush d_Md_init_126 (v := 1800) rfl ?_
    refine hJ.newI ac_int d_Md_init_129 (by decide) (N := 1800) rfl (by decide) (by decide) (by decide) (fun q hq => ?_)
    refine hJ.putF fa_Md_58 rfl d_Md_init_131 (kp_new hq _ _ hca) rfl rfl (Nat.le_of_ble_eq_true rfl) (fs2 := [.int 0, .int 0, .ref (f 127), .int (-1), .int 0, .int 0, .ref (f 128), .ref (f 129), .ref (f 130), .ref (f 131), .ref (f 132), .ref (f 133), .int 0, .int 0, .int 0, .int 0, .int 0, .ref (f 134), .int 0, .int 0, .ref (f 135), .ref (f 136), .ref (f 137), .ref (f 138), .int 0, .int 0, .int 0, .ref (f 139), .ref (f 140), .ref q, .int 0, .null, .null, .int 0, .int 0, .int 0, .int 0]) rfl ?_
    obtain ⟨f2, k1, k2, n2, dn2, kp2⟩ := nwStep (k := 14) (t := 0) (N := 1800) (e2 := mO 7 [.int 0, .int 0, .ref (f 127), .int (-1), .int 0, .int 0, .ref (f 128), .ref (f 129), .ref (f 130), .ref (f 131), .ref (f 132), .ref (f 133), .int 0, .int 0, .int 0, .int 0, .int 0, .ref (f 134), .int 0, .int 0, .ref (f 135), .ref (f 136), .ref (f 137), .ref (f 138), .int 0, .int 0, .int 0, .ref (f 139), .ref (f 140), .ref q, .int 0, .null, .null, .int 0, .int 0, .int 0, .int 0]) hn hq hdn hkp hna (by decide) (fun _ => rfl)
    refine s15 _ f2 n2 ?_ dn2 kp2
    rw [mU_self, k1 127 (by decide) (by decide), k1 128 (by decide) (by decide), k1 129 (by decide) (by decide), k1 130 (by decide) (by decide), k1 131 (by decide) (by decide), k1 132 (by decide) (by decide), k1 133 (by decide) (by decide), k1 134 (by decide) (by decide), k1 135 (by decide) (by decide), k1 136 (by decide) (by decide), k1 137 (by decide) (by decide), k1 138 (by decide) (by decide), k1 139 (by decide) (by decide), k1 140 (by decide) (by decide), show f2 141 = q from k2]
  have s13 : ∀ (hc : mHp) (f : Nat → Nat), nw g (fun i => 127 ≤ i ∧ i < 127 + 13) f h hc → hc a = some (mO 7 [.int 0, .int 0, .ref (f 127), .int (-1), .int 0, .int 0, .ref (f 128), .ref (f 129), .ref (f 130), .ref (f 131), .ref (f 132), .ref (f 133), .int 0, .int 0, .int 0, .int 0, .int 0, .ref (f 134), .int 0, .int 0, .ref (f 135), .ref (f 136), .ref (f 137), .ref (f 138), .int 0, .int 0, .int 0, .ref (f 139), .null, .null, .int 0, .null, .null, .int 0, .int 0, .int 0, .int 0]) → (∀ x, hc x = none → h x = none) → (∀ (x : Nat) (e : va_E), x ≠ a → h x = some e → hc x = some e) → J 117 [some (.ref a)] [] hc 13 2299 := by
    intro hc f hn hca hdn hkp
    refine hJ.aload_n d_Md_init_117 rfl ?_
    refine hJ.bipush d_Md_init_118 (v := 75) rfl ?_
    refine hJ.newI ac_int d_Md_init_120 (by decide) (N := 75) rfl (by decide) (by decide) (by decide) (fun q hq => ?_)
    refine hJ.putF fa_Md_55 rfl d_Md_init_122 (kp_new hq _ _ hca) rfl rfl (Nat.le_of_ble_eq_true rfl) (fs2 := [.int 0, .int 0, .ref (f 127), .int (-1), .int 0, .int 0, .ref (f 128), .ref (f 129), .ref (f 130), .ref (f 131), .ref (f 132), .ref (f 133), .int 0, .int 0, .int 0, .int 0, .int 0, .ref (f 134), .int 0, .int 0, .ref (f 135), .ref (f 136), .ref (f 137), .ref (f 138), .int 0, .int 0, .int 0, .ref (f 139), .ref q, .null, .int 0, .null, .null, .int 0, .int 0, .int 0, .int 0]) rfl ?_
    obtain ⟨f2, k1, k2, n2, dn2, kp2⟩ := nwStep (k := 13) (t := 0) (N := 75) (e2 := mO 7 [.int 0, .int 0, .ref (f 127), .int (-1), .int 0, .int 0, .ref (f 128), .ref (f 129), .ref (f 130), .ref (f 131), .ref (f 132), .ref (f 133), .int 0, .int 0, .int 0, .int 0, .int 0, .ref (f 134), .int 0, .int 0, .ref (f 135), .ref (f 136), .ref (f 137), .ref (f 138), .int 0, .int 0, .int 0, .ref (f 139), .ref q, .null, .int 0, .null, .null, .int 0, .int 0, .int 0, .int 0]) hn hq hdn hkp hna (by decide) (fun _ => rfl)
    refine s14 _ f2 n2 ?_ dn2 kp2
    rw [mU_self, k1 127 (by decide) (by decide), k1 128 (by decide) (by decide), k1 129 (by decide) (by decide), k1 130 (by decide) (by decide), k1 131 (by decide) (by decide), k1 132 (by decide) (by decide), k1 133 (by decide) (by decide), k1 134 (by decide) (by decide), k1 135 (by decide) (by decide), k1 136 (by decide) (by decide), k1 137 (by decide) (by decide), k1 138 (by decide) (by decide), k1 139 (by decide) (by decide), show f2 140 = q from k2]
  have s12 : ∀ (hc : mHp) (f : Nat → Nat), nw g (fun i => 127 ≤ i ∧ i < 127 + 12) f h hc → hc a = some (mO 7 [.int 0, .int 0, .ref (f 127), .int (-1), .int 0, .int 0, .ref (f 128), .ref (f 129), .ref (f 130), .ref (f 131), .ref (f 132), .ref (f 133), .int 0, .int 0, .int 0, .int 0, .int 0, .ref (f 134), .int 0, .int 0, .ref (f 135), .ref (f 136), .ref (f 137), .ref (f 138), .int 0, .int 0, .int 0, .null, .null, .null, .int 0, .null, .null, .int 0, .int 0, .int 0, .int 0]) → (∀ x, hc x = none → h x = none) → (∀ (x : Nat) (e : va_E), x ≠ a → h x = some e → hc x = some e) → J 109 [some (.ref a)] [] hc 12 2224 := by
    intro hc f hn hca hdn hkp
    refine hJ.aload_n d_Md_init_109 rfl ?_
    refine hJ.bipush d_Md_init_110 (v := 75) rfl ?_
    refine hJ.newI ac_int d_Md_init_112 (by decide) (N := 75) rfl (by decide) (by decide) (by decide) (fun q hq => ?_)
    refine hJ.putF fa_Md_52 rfl d_Md_init_114 (kp_new hq _ _ hca) rfl rfl (Nat.le_of_ble_eq_true rfl) (fs2 := [.int 0, .int 0, .ref (f 127), .int (-1), .int 0, .int 0, .ref (f 128), .ref (f 129), .ref (f 130), .ref (f 131), .ref (f 132), .ref (f 133), .int 0, .int 0, .int 0, .int 0, .int 0, .ref (f 134), .int 0, .int 0, .ref (f 135), .ref (f 136), .ref (f 137), .ref (f 138), .int 0, .int 0, .int 0, .ref q, .null, .null, .int 0, .null, .null, .int 0, .int 0, .int 0, .int 0]) rfl ?_
    obtain ⟨f2, k1, k2, n2, dn2, kp2⟩ := nwStep (k := 12) (t := 0) (N := 75) (e2 := mO 7 [.int 0, .int 0, .ref (f 127), .int (-1), .int 0, .int 0, .ref (f 128), .ref (f 129), .ref (f 130), .ref (f 131), .ref (f 132), .ref (f 133), .int 0, .int 0, .int 0, .int 0, .int 0, .ref (f 134), .int 0, .int 0, .ref (f 135), .ref (f 136), .ref (f 137), .ref (f 138), .int 0, .int 0, .int 0, .ref q, .null, .null, .int 0, .null, .null, .int 0, .int 0, .int 0, .int 0]) hn hq hdn hkp hna (by decide) (fun _ => rfl)
    refine s13 _ f2 n2 ?_ dn2 kp2
    rw [mU_self, k1 127 (by decide) (by decide), k1 128 (by decide) (by decide), k1 129 (by decide) (by decide), k1 130 (by decide) (by decide), k1 131 (by decide) (by decide), k1 132 (by decide) (by decide), k1 133 (by decide) (by decide), k1 134 (by decide) (by decide), k1 135 (by decide) (by decide), k1 136 (by decide) (by decide), k1 137 (by decide) (by decide), k1 138 (by decide) (by decide), show f2 139 = q from k2]
  have s11 : ∀ (hc : mHp) (f : Nat → Nat), nw g (fun i => 127 ≤ i ∧ i < 127 + 11) f h hc → hc a = some (mO 7 [.int 0, .int 0, .ref (f 127), .int (-1), .int 0, .int 0, .ref (f 128), .ref (f 129), .ref (f 130), .ref (f 131), .ref (f 132), .ref (f 133), .int 0, .int 0, .int 0, .int 0, .int 0, .ref (f 134), .int 0, .int 0, .ref (f 135), .ref (f 136), .ref (f 137), .null, .int 0, .int 0, .int 0, .null, .null, .null, .int 0, .null, .null, .int 0, .int 0, .int 0, .int 0]) → (∀ x, hc x = none → h x = none) → (∀ (x : Nat) (e : va_E), x ≠ a → h x = some e → hc x = some e) → J 100 [some (.ref a)] [] hc 11 1704 := by
    intro hc f hn hca hdn hkp
    refine hJ.aload_n d_Md_init_100 rfl ?_
    refine hJ.sipush d_Md_init_101 (v := 520) rfl ?_
    refine hJ.newI ac_int d_Md_init_104 (by decide) (N := 520) rfl (by decide) (by decide) (by decide) (fun q hq => ?_)
    refine hJ.putF fa_Md_49 rfl d_Md_init_106 (kp_new hq _ _ hca) rfl rfl (Nat.le_of_ble_eq_true rfl) (fs2 := [.int 0, .int 0, .ref (f 127), .int (-1), .int 0, .int 0, .ref (f 128), .ref (f 129), .ref (f 130), .ref (f 131), .ref (f 132), .ref (f 133), .int 0, .int 0, .int 0, .int 0, .int 0, .ref (f 134), .int 0, .int 0, .ref (f 135), .ref (f 136), .ref (f 137), .ref q, .int 0, .int 0, .int 0, .null, .null, .null, .int 0, .null, .null, .int 0, .int 0, .int 0, .int 0]) rfl ?_
    obtain ⟨f2, k1, k2, n2, dn2, kp2⟩ := nwStep (k := 11) (t := 0) (N := 520) (e2 := mO 7 [.int 0, .int 0, .ref (f 127), .int (-1), .int 0, .int 0, .ref (f 128), .ref (f 129), .ref (f 130), .ref (f 131), .ref (f 132), .ref (f 133), .int 0, .int 0, .int 0, .int 0, .int 0, .ref (f 134), .int 0, .int 0, .ref (f 135), .ref (f 136), .ref (f 137), .ref q, .int 0, .int 0, .int 0, .null, .null, .null, .int 0, .null, .null, .int 0, .int 0, .int 0, .int 0]) hn hq hdn hkp hna (by decide) (fun _ => rfl)
    refine s12 _ f2 n2 ?_ dn2 kp2
    rw [mU_self, k1 127 (by decide) (by decide), k1 128 (by decide) (by decide), k1 129 (by decide) (by decide), k1 130 (by decide) (by decide), k1 131 (by decide) (by decide), k1 132 (by decide) (by decide), k1 133 (by decide) (by decide), k1 134 (by decide) (by decide), k1 135 (by decide) (by decide), k1 136 (by decide) (by decide), k1 137 (by decide) (by decide), show f2 138 = q from k2]
  have s10 : ∀ (hc : mHp) (f : Nat → Nat), nw g (fun i => 127 ≤ i ∧ i < 127 + 10) f h hc → hc a = some (mO 7 [.int 0, .int 0, .ref (f 127), .int (-1), .int 0, .int 0, .ref (f 128), .ref (f 129), .ref (f 130), .ref (f 131), .ref (f 132), .ref (f 133), .int 0, .int 0, .int 0, .int 0, .int 0, .ref (f 134), .int 0, .int 0, .ref (f 135), .ref (f 136), .null, .null, .int 0, .int 0, .int 0, .null, .null, .null, .int 0, .null, .null, .int 0, .int 0, .int 0, .int 0]) → (∀ x, hc x = none → h x = none) → (∀ (x : Nat) (e : va_E), x ≠ a → h x = some e → hc x = some e) → J 91 [some (.ref a)] [] hc 10 1184 := by
    intro hc f hn hca hdn hkp
    refine hJ.aload_n d_Md_init_91 rfl ?_
    refine hJ.sipush d_Md_init_92 (v := 520) rfl ?_
    refine hJ.newI ac_int d_Md_init_95 (by decide) (N := 520) rfl (by decide) (by decide) (by decide) (fun q hq => ?_)
    refine hJ.putF fa_Md_46 rfl d_Md_init_97 (kp_new hq _ _ hca) rfl rfl (Nat.le_of_ble_eq_true rfl) (fs2 := [.int 0, .int 0, .ref (f 127), .int (-1), .int 0, .int 0, .ref (f 128), .ref (f 129), .ref (f 130), .ref (f 131), .ref (f 132), .ref (f 133), .int 0, .int 0, .int 0, .int 0, .int 0, .ref (f 134), .int 0, .int 0, .ref (f 135), .ref (f 136), .ref q, .null, .int 0, .int 0, .int 0, .null, .null, .null, .int 0, .null, .null, .int 0, .int 0, .int 0, .int 0]) rfl ?_
    obtain ⟨f2, k1, k2, n2, dn2, kp2⟩ := nwStep (k := 10) (t := 0) (N := 520) (e2 := mO 7 [.int 0, .int 0, .ref (f 127), .int (-1), .int 0, .int 0, .ref (f 128), .ref (f 129), .ref (f 130), .ref (f 131), .ref (f 132), .ref (f 133), .int 0, .int 0, .int 0, .int 0, .int 0, .ref (f 134), .int 0, .int 0, .ref (f 135), .ref (f 136), .ref q, .null, .int 0, .int 0, .int 0, .null, .null, .null, .int 0, .null, .null, .int 0, .int 0, .int 0, .int 0]) hn hq hdn hkp hna (by decide) (fun _ => rfl)
    refine s11 _ f2 n2 ?_ dn2 kp2
    rw [mU_self, k1 127 (by decide) (by decide), k1 128 (by decide) (by decide), k1 129 (by decide) (by decide), k1 130 (by decide) (by decide), k1 131 (by decide) (by decide), k1 132 (by decide) (by decide), k1 133 (by decide) (by decide), k1 134 (by decide) (by decide), k1 135 (by decide) (by decide), k1 136 (by decide) (by decide), show f2 137 = q from k2]
  have s9 : ∀ (hc : mHp) (f : Nat → Nat), nw g (fun i => 127 ≤ i ∧ i < 127 + 9) f h hc → hc a = some (mO 7 [.int 0, .int 0, .ref (f 127), .int (-1), .int 0, .int 0, .ref (f 128), .ref (f 129), .ref (f 130), .ref (f 131), .ref (f 132), .ref (f 133), .int 0, .int 0, .int 0, .int 0, .int 0, .ref (f 134), .int 0, .int 0, .ref (f 135), .null, .null, .null, .int 0, .int 0, .int 0, .null, .null, .null, .int 0, .null, .null, .int 0, .int 0, .int 0, .int 0]) → (∀ x, hc x = none → h x = none) → (∀ (x : Nat) (e : va_E), x ≠ a → h x = some e → hc x = some e) → J 82 [some (.ref a)] [] hc 9 664 := by
    intro hc f hn hca hdn hkp
    refine hJ.aload_n d_Md_init_82 rfl ?_
    refine hJ.sipush d_Md_init_83 (v := 520) rfl ?_
    refine hJ.newI ac_int d_Md_init_86 (by decide) (N := 520) rfl (by decide) (by decide) (by decide) (fun q hq => ?_)
    refine hJ.putF fa_Md_43 rfl d_Md_init_88 (kp_new hq _ _ hca) rfl rfl (Nat.le_of_ble_eq_true rfl) (fs2 := [.int 0, .int 0, .ref (f 127), .int (-1), .int 0, .int 0, .ref (f 128), .ref (f 129), .ref (f 130), .ref (f 131), .ref (f 132), .ref (f 133), .int 0, .int 0, .int 0, .int 0, .int 0, .ref (f 134), .int 0, .int 0, .ref (f 135), .ref q, .null, .null, .int 0, .int 0, .int 0, .null, .null, .null, .int 0, .null, .null, .int 0, .int 0, .int 0, .int 0]) rfl ?_
    obtain ⟨f2, k1, k2, n2, dn2, kp2⟩ := nwStep (k := 9) (t := 0) (N := 520) (e2 := mO 7 [.int 0, .int 0, .ref (f 127), .int (-1), .int 0, .int 0, .ref (f 128), .ref (f 129), .ref (f 130), .ref (f 131), .ref (f 132), .ref (f 133), .int 0, .int 0, .int 0, .int 0, .int 0, .ref (f 134), .int 0, .int 0, .ref (f 135), .ref q, .null, .null, .int 0, .int 0, .int 0, .null, .null, .null, .int 0, .null, .null, .int 0, .int 0, .int 0, .int 0]) hn hq hdn hkp hna (by decide) (fun _ => rfl)
    refine s10 _ f2 n2 ?_ dn2 kp2
    rw [mU_self, k1 127 (by decide) (by decide), k1 128 (by decide) (by decide), k1 129 (by decide) (by decide), k1 130 (by decide) (by decide), k1 131 (by decide) (by decide), k1 132 (by decide) (by decide), k1 133 (by decide) (by decide), k1 134 (by decide) (by decide), k1 135 (by decide) (by decide), show f2 136 = q from k2]
  have s8 : ∀ (hc : mHp) (f : Nat → Nat), nw g (fun i => 127 ≤ i ∧ i < 127 + 8) f h hc → hc a = some (mO 7 [.int 0, .int 0, .ref (f 127), .int (-1), .int 0, .int 0, .ref (f 128), .ref (f 129), .ref (f 130), .ref (f 131), .ref (f 132), .ref (f 133), .int 0, .int 0, .int 0, .int 0, .int 0, .ref (f 134), .int 0, .int 0, .null, .null, .null, .null, .int 0, .int 0, .int 0, .null, .null, .null, .int 0, .null, .null, .int 0, .int 0, .int 0, .int 0]) → (∀ x, hc x = none → h x = none) → (∀ (x : Nat) (e : va_E), x ≠ a → h x = some e → hc x = some e) → J 73 [some (.ref a)] [] hc 8 144 := by
    intro hc f hn hca hdn hkp
    refine hJ.aload_n d_Md_init_73 rfl ?_
    refine hJ.sipush d_Md_init_74 (v := 520) rfl ?_
    refine hJ.newC ac_char d_Md_init_77 (by decide) (N := 520) rfl (by decide) (by decide) (by decide) (fun q hq => ?_)
    refine hJ.putF fa_Md_40 rfl d_Md_init_79 (kp_new hq _ _ hca) rfl rfl (Nat.le_of_ble_eq_true rfl) (fs2 := [.int 0, .int 0, .ref (f 127), .int (-1), .int 0, .int 0, .ref (f 128), .ref (f 129), .ref (f 130), .ref (f 131), .ref (f 132), .ref (f 133), .int 0, .int 0, .int 0, .int 0, .int 0, .ref (f 134), .int 0, .int 0, .ref q, .null, .null, .null, .int 0, .int 0, .int 0, .null, .null, .null, .int 0, .null, .null, .int 0, .int 0, .int 0, .int 0]) rfl ?_
    obtain ⟨f2, k1, k2, n2, dn2, kp2⟩ := nwStep (k := 8) (t := 2) (N := 520) (e2 := mO 7 [.int 0, .int 0, .ref (f 127), .int (-1), .int 0, .int 0, .ref (f 128), .ref (f 129), .ref (f 130), .ref (f 131), .ref (f 132), .ref (f 133), .int 0, .int 0, .int 0, .int 0, .int 0, .ref (f 134), .int 0, .int 0, .ref q, .null, .null, .null, .int 0, .int 0, .int 0, .null, .null, .null, .int 0, .null, .null, .int 0, .int 0, .int 0, .int 0]) hn hq hdn hkp hna (by decide) (fun _ => rfl)
    refine s9 _ f2 n2 ?_ dn2 kp2
    rw [mU_self, k1 127 (by decide) (by decide), k1 128 (by decide) (by decide), k1 129 (by decide) (by decide), k1 130 (by decide) (by decide), k1 131 (by decide) (by decide), k1 132 (by decide) (by decide), k1 133 (by decide) (by decide), k1 134 (by decide) (by decide), show f2 135 = q from k2]
  have s7 : ∀ (hc : mHp) (f : Nat → Nat), nw g (fun i => 127 ≤ i ∧ i < 127 + 7) f h hc → hc a = some (mO 7 [.int 0, .int 0, .ref (f 127), .int (-1), .int 0, .int 0, .ref (f 128), .ref (f 129), .ref (f 130), .ref (f 131), .ref (f 132), .ref (f 133), .int 0, .int 0, .int 0, .int 0, .int 0, .null, .int 0, .int 0, .null, .null, .null, .null, .int 0, .int 0, .int 0, .null, .null, .null, .int 0, .null, .null, .int 0, .int 0, .int 0, .int 0]) → (∀ x, hc x = none → h x = none) → (∀ (x : Nat) (e : va_E), x ≠ a → h x = some e → hc x = some e) → J 65 [some (.ref a)] [] hc 7 136 := by
    intro hc f hn hca hdn hkp
    refine hJ.aload_n d_Md_init_65 rfl ?_
    refine hJ.bipush d_Md_init_66 (v := 8) rfl ?_
    refine hJ.newI ac_int d_Md_init_68 (by decide) (N := 8) rfl (by decide) (by decide) (by decide) (fun q hq => ?_)
    refine hJ.putF fa_Md_37 rfl d_Md_init_70 (kp_new hq _ _ hca) rfl rfl (Nat.le_of_ble_eq_true rfl) (fs2 := [.int 0, .int 0, .ref (f 127), .int (-1), .int 0, .int 0, .ref (f 128), .ref (f 129), .ref (f 130), .ref (f 131), .ref (f 132), .ref (f 133), .int 0, .int 0, .int 0, .int 0, .int 0, .ref q, .int 0, .int 0, .null, .null, .null, .null, .int 0, .int 0, .int 0, .null, .null, .null, .int 0, .null, .null, .int 0, .int 0, .int 0, .int 0]) rfl ?_
    obtain ⟨f2, k1, k2, n2, dn2, kp2⟩ := nwStep (k := 7) (t := 0) (N := 8) (e2 := mO 7 [.int 0, .int 0, .ref (f 127), .int (-1), .int 0, .int 0, .ref (f 128), .ref (f 129), .ref (f 130), .ref (f 131), .ref (f 132), .ref (f 133), .int 0, .int 0, .int 0, .int 0, .int 0, .ref q, .int 0, .int 0, .null, .null, .null, .null, .int 0, .int 0, .int 0, .null, .null, .null, .int 0, .null, .null, .int 0, .int 0, .int 0, .int 0]) hn hq hdn hkp hna (by decide) (fun _ => rfl)
    refine s8 _ f2 n2 ?_ dn2 kp2
    rw [mU_self, k1 127 (by decide) (by decide), k1 128 (by decide) (by decide), k1 129 (by decide) (by decide), k1 130 (by decide) (by decide), k1 131 (by decide) (by decide), k1 132 (by decide) (by decide), k1 133 (by decide) (by decide), show f2 134 = q from k2]
  have s6 : ∀ (hc : mHp) (f : Nat → Nat), nw g (fun i => 127 ≤ i ∧ i < 127 + 6) f h hc → hc a = some (mO 7 [.int 0, .int 0, .ref (f 127), .int (-1), .int 0, .int 0, .ref (f 128), .ref (f 129), .ref (f 130), .ref (f 131), .ref (f 132), .null, .int 0, .int 0, .int 0, .int 0, .int 0, .null, .int 0, .int 0, .null, .null, .null, .null, .int 0, .int 0, .int 0, .null, .null, .null, .int 0, .null, .null, .int 0, .int 0, .int 0, .int 0]) → (∀ x, hc x = none → h x = none) → (∀ (x : Nat) (e : va_E), x ≠ a → h x = some e → hc x = some e) → J 57 [some (.ref a)] [] hc 6 120 := by
    intro hc f hn hca hdn hkp
    refine hJ.aload_n d_Md_init_57 rfl ?_
    refine hJ.bipush d_Md_init_58 (v := 16) rfl ?_
    refine hJ.newI ac_int d_Md_init_60 (by decide) (N := 16) rfl (by decide) (by decide) (by decide) (fun q hq => ?_)
    refine hJ.putF fa_Md_34 rfl d_Md_init_62 (kp_new hq _ _ hca) rfl rfl (Nat.le_of_ble_eq_true rfl) (fs2 := [.int 0, .int 0, .ref (f 127), .int (-1), .int 0, .int 0, .ref (f 128), .ref (f 129), .ref (f 130), .ref (f 131), .ref (f 132), .ref q, .int 0, .int 0, .int 0, .int 0, .int 0, .null, .int 0, .int 0, .null, .null, .null, .null, .int 0, .int 0, .int 0, .null, .null, .null, .int 0, .null, .null, .int 0, .int 0, .int 0, .int 0]) rfl ?_
    obtain ⟨f2, k1, k2, n2, dn2, kp2⟩ := nwStep (k := 6) (t := 0) (N := 16) (e2 := mO 7 [.int 0, .int 0, .ref (f 127), .int (-1), .int 0, .int 0, .ref (f 128), .ref (f 129), .ref (f 130), .ref (f 131), .ref (f 132), .ref q, .int 0, .int 0, .int 0, .int 0, .int 0, .null, .int 0, .int 0, .null, .null, .null, .null, .int 0, .int 0, .int 0, .null, .null, .null, .int 0, .null, .null, .int 0, .int 0, .int 0, .int 0]) hn hq hdn hkp hna (by decide) (fun _ => rfl)
    refine s7 _ f2 n2 ?_ dn2 kp2
    rw [mU_self, k1 127 (by decide) (by decide), k1 128 (by decide) (by decide), k1 129 (by decide) (by decide), k1 130 (by decide) (by decide), k1 131 (by decide) (by decide), k1 132 (by decide) (by decide), show f2 133 = q from k2]
  have s5 : ∀ (hc : mHp) (f : Nat → Nat), nw g (fun i => 127 ≤ i ∧ i < 127 + 5) f h hc → hc a = some (mO 7 [.int 0, .int 0, .ref (f 127), .int (-1), .int 0, .int 0, .ref (f 128), .ref (f 129), .ref (f 130), .ref (f 131), .null, .null, .int 0, .int 0, .int 0, .int 0, .int 0, .null, .int 0, .int 0, .null, .null, .null, .null, .int 0, .int 0, .int 0, .null, .null, .null, .int 0, .null, .null, .int 0, .int 0, .int 0, .int 0]) → (∀ x, hc x = none → h x = none) → (∀ (x : Nat) (e : va_E), x ≠ a → h x = some e → hc x = some e) → J 49 [some (.ref a)] [] hc 5 104 := by
    intro hc f hn hca hdn hkp
    refine hJ.aload_n d_Md_init_49 rfl ?_
    refine hJ.bipush d_Md_init_50 (v := 16) rfl ?_
    refine hJ.newZ ac_boolean d_Md_init_52 (by decide) (N := 16) rfl (by decide) (by decide) (by decide) (fun q hq => ?_)
    refine hJ.putF fa_Md_31 rfl d_Md_init_54 (kp_new hq _ _ hca) rfl rfl (Nat.le_of_ble_eq_true rfl) (fs2 := [.int 0, .int 0, .ref (f 127), .int (-1), .int 0, .int 0, .ref (f 128), .ref (f 129), .ref (f 130), .ref (f 131), .ref q, .null, .int 0, .int 0, .int 0, .int 0, .int 0, .null, .int 0, .int 0, .null, .null, .null, .null, .int 0, .int 0, .int 0, .null, .null, .null, .int 0, .null, .null, .int 0, .int 0, .int 0, .int 0]) rfl ?_
    obtain ⟨f2, k1, k2, n2, dn2, kp2⟩ := nwStep (k := 5) (t := 3) (N := 16) (e2 := mO 7 [.int 0, .int 0, .ref (f 127), .int (-1), .int 0, .int 0, .ref (f 128), .ref (f 129), .ref (f 130), .ref (f 131), .ref q, .null, .int 0, .int 0, .int 0, .int 0, .int 0, .null, .int 0, .int 0, .null, .null, .null, .null, .int 0, .int 0, .int 0, .null, .null, .null, .int 0, .null, .null, .int 0, .int 0, .int 0, .int 0]) hn hq hdn hkp hna (by decide) (fun _ => rfl)
    refine s6 _ f2 n2 ?_ dn2 kp2
    rw [mU_self, k1 127 (by decide) (by decide), k1 128 (by decide) (by decide), k1 129 (by decide) (by decide), k1 130 (by decide) (by decide), k1 131 (by decide) (by decide), show f2 132 = q from k2]
  have s4 : ∀ (hc : mHp) (f : Nat → Nat), nw g (fun i => 127 ≤ i ∧ i < 127 + 4) f h hc → hc a = some (mO 7 [.int 0, .int 0, .ref (f 127), .int (-1), .int 0, .int 0, .ref (f 128), .ref (f 129), .ref (f 130), .null, .null, .null, .int 0, .int 0, .int 0, .int 0, .int 0, .null, .int 0, .int 0, .null, .null, .null, .null, .int 0, .int 0, .int 0, .null, .null, .null, .int 0, .null, .null, .int 0, .int 0, .int 0, .int 0]) → (∀ x, hc x = none → h x = none) → (∀ (x : Nat) (e : va_E), x ≠ a → h x = some e → hc x = some e) → J 41 [some (.ref a)] [] hc 4 88 := by
    intro hc f hn hca hdn hkp
    refine hJ.aload_n d_Md_init_41 rfl ?_
    refine hJ.bipush d_Md_init_42 (v := 16) rfl ?_
    refine hJ.newI ac_int d_Md_init_44 (by decide) (N := 16) rfl (by decide) (by decide) (by decide) (fun q hq => ?_)
    refine hJ.putF fa_Md_27 rfl d_Md_init_46 (kp_new hq _ _ hca) rfl rfl (Nat.le_of_ble_eq_true rfl) (fs2 := [.int 0, .int 0, .ref (f 127), .int (-1), .int 0, .int 0, .ref (f 128), .ref (f 129), .ref (f 130), .ref q, .null, .null, .int 0, .int 0, .int 0, .int 0, .int 0, .null, .int 0, .int 0, .null, .null, .null, .null, .int 0, .int 0, .int 0, .null, .null, .null, .int 0, .null, .null, .int 0, .int 0, .int 0, .int 0]) rfl ?_
    obtain ⟨f2, k1, k2, n2, dn2, kp2⟩ := nwStep (k := 4) (t := 0) (N := 16) (e2 := mO 7 [.int 0, .int 0, .ref (f 127), .int (-1), .int 0, .int 0, .ref (f 128), .ref (f 129), .ref (f 130), .ref q, .null, .null, .int 0, .int 0, .int 0, .int 0, .int 0, .null, .int 0, .int 0, .null, .null, .null, .null, .int 0, .int 0, .int 0, .null, .null, .null, .int 0, .null, .null, .int 0, .int 0, .int 0, .int 0]) hn hq hdn hkp hna (by decide) (fun _ => rfl)
    refine s5 _ f2 n2 ?_ dn2 kp2
    rw [mU_self, k1 127 (by decide) (by decide), k1 128 (by decide) (by decide), k1 129 (by decide) (by decide), k1 130 (by decide) (by decide), show f2 131 = q from k2]
  have s3 : ∀ (hc : mHp) (f : Nat → Nat), nw g (fun i => 127 ≤ i ∧ i < 127 + 3) f h hc → hc a = some (mO 7 [.int 0, .int 0, .ref (f 127), .int (-1), .int 0, .int 0, .ref (f 128), .ref (f 129), .null, .null, .null, .null, .int 0, .int 0, .int 0, .int 0, .int 0, .null, .int 0, .int 0, .null, .null, .null, .null, .int 0, .int 0, .int 0, .null, .null, .null, .int 0, .null, .null, .int 0, .int 0, .int 0, .int 0]) → (∀ x, hc x = none → h x = none) → (∀ (x : Nat) (e : va_E), x ≠ a → h x = some e → hc x = some e) → J 33 [some (.ref a)] [] hc 3 72 := by
    intro hc f hn hca hdn hkp
    refine hJ.aload_n d_Md_init_33 rfl ?_
    refine hJ.bipush d_Md_init_34 (v := 16) rfl ?_
    refine hJ.newZ ac_boolean d_Md_init_36 (by decide) (N := 16) rfl (by decide) (by decide) (by decide) (fun q hq => ?_)
    refine hJ.putF fa_Md_24 rfl d_Md_init_38 (kp_new hq _ _ hca) rfl rfl (Nat.le_of_ble_eq_true rfl) (fs2 := [.int 0, .int 0, .ref (f 127), .int (-1), .int 0, .int 0, .ref (f 128), .ref (f 129), .ref q, .null, .null, .null, .int 0, .int 0, .int 0, .int 0, .int 0, .null, .int 0, .int 0, .null, .null, .null, .null, .int 0, .int 0, .int 0, .null, .null, .null, .int 0, .null, .null, .int 0, .int 0, .int 0, .int 0]) rfl ?_
    obtain ⟨f2, k1, k2, n2, dn2, kp2⟩ := nwStep (k := 3) (t := 3) (N := 16) (e2 := mO 7 [.int 0, .int 0, .ref (f 127), .int (-1), .int 0, .int 0, .ref (f 128), .ref (f 129), .ref q, .null, .null, .null, .int 0, .int 0, .int 0, .int 0, .int 0, .null, .int 0, .int 0, .null, .null, .null, .null, .int 0, .int 0, .int 0, .null, .null, .null, .int 0, .null, .null, .int 0, .int 0, .int 0, .int 0]) hn hq hdn hkp hna (by decide) (fun _ => rfl)
    refine s4 _ f2 n2 ?_ dn2 kp2
    rw [mU_self, k1 127 (by decide) (by decide), k1 128 (by decide) (by decide), k1 129 (by decide) (by decide), show f2 130 = q from k2]
  have s2 : ∀ (hc : mHp) (f : Nat → Nat), nw g (fun i => 127 ≤ i ∧ i < 127 + 2) f h hc → hc a = some (mO 7 [.int 0, .int 0, .ref (f 127), .int (-1), .int 0, .int 0, .ref (f 128), .null, .null, .null, .null, .null, .int 0, .int 0, .int 0, .int 0, .int 0, .null, .int 0, .int 0, .null, .null, .null, .null, .int 0, .int 0, .int 0, .null, .null, .null, .int 0, .null, .null, .int 0, .int 0, .int 0, .int 0]) → (∀ x, hc x = none → h x = none) → (∀ (x : Nat) (e : va_E), x ≠ a → h x = some e → hc x = some e) → J 25 [some (.ref a)] [] hc 2 56 := by
    intro hc f hn hca hdn hkp
    refine hJ.aload_n d_Md_init_25 rfl ?_
    refine hJ.bipush d_Md_init_26 (v := 16) rfl ?_
    refine hJ.newZ ac_boolean d_Md_init_28 (by decide) (N := 16) rfl (by decide) (by decide) (by decide) (fun q hq => ?_)
    refine hJ.putF fa_Md_20 rfl d_Md_init_30 (kp_new hq _ _ hca) rfl rfl (Nat.le_of_ble_eq_true rfl) (fs2 := [.int 0, .int 0, .ref (f 127), .int (-1), .int 0, .int 0, .ref (f 128), .ref q, .null, .null, .null, .null, .int 0, .int 0, .int 0, .int 0, .int 0, .null, .int 0, .int 0, .null, .null, .null, .null, .int 0, .int 0, .int 0, .null, .null, .null, .int 0, .null, .null, .int 0, .int 0, .int 0, .int 0]) rfl ?_
    obtain ⟨f2, k1, k2, n2, dn2, kp2⟩ := nwStep (k := 2) (t := 3) (N := 16) (e2 := mO 7 [.int 0, .int 0, .ref (f 127), .int (-1), .int 0, .int 0, .ref (f 128), .ref q, .null, .null, .null, .null, .int 0, .int 0, .int 0, .int 0, .int 0, .null, .int 0, .int 0, .null, .null, .null, .null, .int 0, .int 0, .int 0, .null, .null, .null, .int 0, .null, .null, .int 0, .int 0, .int 0, .int 0]) hn hq hdn hkp hna (by decide) (fun _ => rfl)
    refine s3 _ f2 n2 ?_ dn2 kp2
    rw [mU_self, k1 127 (by decide) (by decide), k1 128 (by decide) (by decide), show f2 129 = q from k2]
  have s1 : ∀ (hc : mHp) (f : Nat → Nat), nw g (fun i => 127 ≤ i ∧ i < 127 + 1) f h hc → hc a = some (mO 7 [.int 0, .int 0, .ref (f 127), .int (-1), .int 0, .int 0, .null, .null, .null, .null, .null, .null, .int 0, .int 0, .int 0, .int 0, .int 0, .null, .int 0, .int 0, .null, .null, .null, .null, .int 0, .int 0, .int 0, .null, .null, .null, .int 0, .null, .null, .int 0, .int 0, .int 0, .int 0]) → (∀ x, hc x = none → h x = none) → (∀ (x : Nat) (e : va_E), x ≠ a → h x = some e → hc x = some e) → J 17 [some (.ref a)] [] hc 1 40 := by
    intro hc f hn hca hdn hkp
    refine hJ.aload_n d_Md_init_17 rfl ?_
    refine hJ.bipush d_Md_init_18 (v := 16) rfl ?_
    refine hJ.newC ac_char d_Md_init_20 (by decide) (N := 16) rfl (by decide) (by decide) (by decide) (fun q hq => ?_)
    refine hJ.putF fa_Md_17 rfl d_Md_init_22 (kp_new hq _ _ hca) rfl rfl (Nat.le_of_ble_eq_true rfl) (fs2 := [.int 0, .int 0, .ref (f 127), .int (-1), .int 0, .int 0, .ref q, .null, .null, .null, .null, .null, .int 0, .int 0, .int 0, .int 0, .int 0, .null, .int 0, .int 0, .null, .null, .null, .null, .int 0, .int 0, .int 0, .null, .null, .null, .int 0, .null, .null, .int 0, .int 0, .int 0, .int 0]) rfl ?_
    obtain ⟨f2, k1, k2, n2, dn2, kp2⟩ := nwStep (k := 1) (t := 2) (N := 16) (e2 := mO 7 [.int 0, .int 0, .ref (f 127), .int (-1), .int 0, .int 0, .ref q, .null, .null, .null, .null, .null, .int 0, .int 0, .int 0, .int 0, .int 0, .null, .int 0, .int 0, .null, .null, .null, .null, .int 0, .int 0, .int 0, .null, .null, .null, .int 0, .null, .null, .int 0, .int 0, .int 0, .int 0]) hn hq hdn hkp hna (by decide) (fun _ => rfl)
    refine s2 _ f2 n2 ?_ dn2 kp2
    rw [mU_self, k1 127 (by decide) (by decide), show f2 128 = q from k2]
  have s0 : ∀ (hc : mHp) (f : Nat → Nat), nw g (fun i => 127 ≤ i ∧ i < 127 + 0) f h hc → hc a = some (mO 7 [.int 0, .int 0, .null, .int 0, .int 0, .int 0, .null, .null, .null, .null, .null, .null, .int 0, .int 0, .int 0, .int 0, .int 0, .null, .int 0, .int 0, .null, .null, .null, .null, .int 0, .int 0, .int 0, .null, .null, .null, .int 0, .null, .null, .int 0, .int 0, .int 0, .int 0]) → (∀ x, hc x = none → h x = none) → (∀ (x : Nat) (e : va_E), x ≠ a → h x = some e → hc x = some e) → J 4 [some (.ref a)] [] hc 0 0 := by
    intro hc f hn hca hdn hkp
    refine hJ.aload_n d_Md_init_4 rfl ?_
    refine hJ.bipush d_Md_init_5 (v := 40) rfl ?_
    refine hJ.newC ac_char d_Md_init_7 (by decide) (N := 40) rfl (by decide) (by decide) (by decide) (fun q hq => ?_)
    refine hJ.putF fa_Md_7 rfl d_Md_init_9 (kp_new hq _ _ hca) rfl rfl (Nat.le_of_ble_eq_true rfl) (fs2 := [.int 0, .int 0, .ref q, .int 0, .int 0, .int 0, .null, .null, .null, .null, .null, .null, .int 0, .int 0, .int 0, .int 0, .int 0, .null, .int 0, .int 0, .null, .null, .null, .null, .int 0, .int 0, .int 0, .null, .null, .null, .int 0, .null, .null, .int 0, .int 0, .int 0, .int 0]) rfl ?_
    refine hJ.aload_n d_Md_init_12 rfl ?_
    refine hJ.iconst d_Md_init_13 (v := -1) rfl ?_
    refine hJ.putf fa_Md_13 d_Md_init_14 mU_self rfl rfl (Nat.le_of_ble_eq_true rfl) (fs2 := [.int 0, .int 0, .ref q, .int (-1), .int 0, .int 0, .null, .null, .null, .null, .null, .null, .int 0, .int 0, .int 0, .int 0, .int 0, .null, .int 0, .int 0, .null, .null, .null, .null, .int 0, .int 0, .int 0, .null, .null, .null, .int 0, .null, .null, .int 0, .int 0, .int 0, .int 0]) rfl ?_
    rw [mU_mU]
    obtain ⟨f2, k1, k2, n2, dn2, kp2⟩ := nwStep (k := 0) (t := 2) (N := 40) (e2 := mO 7 [.int 0, .int 0, .ref q, .int (-1), .int 0, .int 0, .null, .null, .null, .null, .null, .null, .int 0, .int 0, .int 0, .int 0, .int 0, .null, .int 0, .int 0, .null, .null, .null, .null, .int 0, .int 0, .int 0, .null, .null, .null, .int 0, .null, .null, .int 0, .int 0, .int 0, .int 0]) hn hq hdn hkp hna (by decide) (fun _ => rfl)
    refine s1 _ f2 n2 ?_ dn2 kp2
    rw [mU_self, show f2 127 = q from k2]
  refine hJ.aload_n d_Md_init_0 rfl ?_
  refine hJ.objInit oi_Md oi_i oi_c rfl d_Md_init_1 (by decide) (by decide) ?_
  exact s0 h (fun _ => 0) ⟨fun i hi => by omega, fun i hi => by omega, fun i j hi => by omega⟩ ha (fun x hx => hx) (fun x e _ he => he)
