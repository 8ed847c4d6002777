def z0 : sT := (fun a => if a = 0 then (fun b => if b = 6 then -1 else 0) else if a = 126 then (fun b => if b = 3 then -1 else 0) else (fun _ => 0), fun a b => if a = 0 then (if b = 4 then 8 else 11) else if a = 4 then 30 + b else 54 + b, fun _ => 0)
def eqE (e e2 : va_E) : Prop := e = e2 ∨ ∃ (c : ClassId) (n : Nat) (f f2 : Nat → Option Nat), e = .inl (c, n, .inr (.inr (.inr (.inr f)))) ∧ e2 = .inl (c, n, .inr (.inr (.inr (.inr f2)))) ∧ ∀ j, j < n → f j = f2 j
theorem eqE.trans {a b c : va_E} (h : eqE a b) (h2 : eqE b c) : eqE a c := by
  rcases h with rfl | ⟨k, n, f, f2, rfl, rfl, h⟩
  · exact h2
  · rcases h2 with rfl | ⟨k2, n2, f3, f4, q1, rfl, h3⟩
    · exact Or.inr ⟨k, n, f, f2, rfl, rfl, h⟩
    · cases q1
      exact Or.inr ⟨k, n, f, f4, rfl, rfl, fun j hj => (h j hj).trans (h3 j hj)⟩
theorem eqE.obj {e : va_E} {o : Nat × List Value} (h : eqE e (.inr o)) : e = .inr o := by
  rcases h with rfl | ⟨k, n, f, f2, rfl, q, -⟩
  · rfl
  · cases q
theorem arrV_eq {c : ClassId} {n : Nat} {f f2 : Nat → Value} (h : ∀ j, j < n → f j = f2 j) : arrV c n f = arrV c n f2 := by
  unfold arrV
  congr 1
  apply Array.ext
  · simp
  · intro i h1 h2
    simp at h1
    simp [h i h1]
theorem eqE.va {D : va_G} {cl : List vw_C} {q : Nat} {e e2 : va_E} {H : Heap} (h : eqE e e2) (hv : va_at D cl (q, e) H) : va_at D cl (q, e2) H := by
  rcases h with rfl | ⟨k, n, f, f2, rfl, rfl, h⟩
  · exact hv
  · have hv2 : H[q]? = some (arrV k n (fun j => va_rf (f j))) := hv
    show H[q]? = some (arrV k n (fun j => va_rf (f2 j)))
    rw [hv2, arrV_eq (fun j hj => by rw [h j hj])]
def chL (i : Nat) : List Nat := if (sK i).1 = 0 then (List.range (sK i).2.2.length).filterMap (fun j => if (sK i).2.2.getD j 0 = 0 then none else if (sK i).2.2.getD j 0 = 1 then some (z0.2.1 i j) else some ((sK i).2.2.getD j 0 - 2)) else if (sK i).1 = 2 then (List.range ((sK i).2.2.getD 0 0)).map (fun j => sRf z0 i ((sK i).2.2.getD 1 0) j) else []
theorem sCell_ag {g : mG} {f f2 : Nat → Nat} {i : Nat} (h : ∀ c ∈ chL i, f c = f2 c) : eqE (sCell f g z0 i (sK i)) (sCell f2 g z0 i (sK i)) := by
  unfold chL at h
  unfold sCell
  by_cases h0 : (sK i).1 = 0
  · rw [if_pos h0] at h
    rw [if_pos h0, if_pos h0]
    refine Or.inl ?_
    have e : sFs f z0 i (sK i).2.2 = sFs f2 z0 i (sK i).2.2 := by
      unfold sFs
      refine List.map_congr_left (fun j hj => ?_)
      unfold sV
      by_cases k0 : (sK i).2.2.getD j 0 = 0
      · rw [if_pos k0, if_pos k0]
      · rw [if_neg k0, if_neg k0]
        by_cases k1 : (sK i).2.2.getD j 0 = 1
        · rw [if_pos k1, if_pos k1, h (z0.2.1 i j) (List.mem_filterMap.mpr ⟨j, hj, by rw [if_neg k0, if_pos k1]⟩)]
        · rw [if_neg k1, if_neg k1, h ((sK i).2.2.getD j 0 - 2) (List.mem_filterMap.mpr ⟨j, hj, by rw [if_neg k0, if_neg k1]⟩)]
    rw [e]
  · rw [if_neg h0] at h
    rw [if_neg h0, if_neg h0]
    by_cases h1 : (sK i).1 = 1
    · rw [if_pos h1, if_pos h1]
      exact Or.inl rfl
    · rw [if_neg h1, if_neg h1]
      by_cases h2 : (sK i).1 = 2
      · rw [if_pos h2] at h
        rw [if_pos h2, if_pos h2]
        exact Or.inr ⟨_, _, _, _, rfl, rfl, fun j hj => by rw [h (sRf z0 i ((sK i).2.2.getD 1 0) j) (List.mem_map.mpr ⟨j, List.mem_range.mpr hj, rfl⟩)]⟩
      · rw [if_neg h2, if_neg h2]
        exact Or.inl rfl
def nw (g : mG) (D : Nat → Prop) (f : Nat → Nat) (h h2 : mHp) : Prop := (∀ i, D i → h (f i) = none) ∧ (∀ i, D i → ∃ e, h2 (f i) = some e ∧ eqE e (sCell f g z0 i (sK i))) ∧ (∀ i j, D i → D j → f i = f j → i = j)
def kp (h h2 : mHp) : Prop := ∀ (x : Nat) (e : va_E), h x = some e → h2 x = some e
theorem nw.iff {g : mG} {D D2 : Nat → Prop} {f : Nat → Nat} {h h2 : mHp} (n : nw g D f h h2) (hd : ∀ i, D2 i → D i) : nw g D2 f h h2 := ⟨fun i hi => n.1 i (hd i hi), fun i hi => n.2.1 i (hd i hi), fun i j hi hj => n.2.2 i j (hd i hi) (hd j hj)⟩
theorem nw.no {g : mG} {f : Nat → Nat} {h h2 : mHp} : nw g (fun _ => False) f h h2 := ⟨fun _ q => q.elim, fun _ q => q.elim, fun _ _ q => q.elim⟩
theorem nw.base {g : mG} {D : Nat → Prop} {f : Nat → Nat} {h h1 h2 : mHp} (n : nw g D f h1 h2) (hb : ∀ x, h1 x = none → h x = none) : nw g D f h h2 := ⟨fun i hi => hb _ (n.1 i hi), n.2⟩
theorem nw.put {g : mG} {D : Nat → Prop} {f : Nat → Nat} {h h2 : mHp} {a : Nat} {e : va_E} (n : nw g D f h h2) (ha : h a ≠ none) : nw g D f h (mU h2 a e) := by
  refine ⟨n.1, fun i hi => ?_, n.2.2⟩
  obtain ⟨e9, q1, q2⟩ := n.2.1 i hi
  exact ⟨e9, by rw [mU_ne (fun q => ha (by rw [← q]; exact n.1 i hi))]; exact q1, q2⟩
theorem nw.merge {g : mG} {D1 D2 : Nat → Prop} {f1 f2 : Nat → Nat} {h hc h2 : mHp} (n1 : nw g D1 f1 h hc) (n2 : nw g D2 f2 hc h2) (hk : kp hc h2) (hd : ∀ x, hc x = none → h x = none) (hx : ∀ i, D1 i → ¬ D2 i) (c1 : ∀ i, D1 i → ∀ c ∈ chL i, ¬ D2 c) (c2 : ∀ i, D2 i → ∀ c ∈ chL i, D2 c) :
    ∃ f, (∀ i, D1 i → f i = f1 i) ∧ (∀ i, D2 i → f i = f2 i) ∧ nw g (fun i => D1 i ∨ D2 i) f h h2 := by
  have e1 : ∀ i, ¬ D2 i → (@ite Nat (D2 i) (Classical.propDecidable (D2 i)) (f2 i) (f1 i)) = f1 i := fun i q => if_neg q
  have e2 : ∀ i, D2 i → (@ite Nat (D2 i) (Classical.propDecidable (D2 i)) (f2 i) (f1 i)) = f2 i := fun i q => if_pos q
  generalize hf : (fun i => (@ite Nat (D2 i) (Classical.propDecidable (D2 i)) (f2 i) (f1 i))) = f
  have e1 : ∀ i, ¬ D2 i → f i = f1 i := fun i q => by rw [← hf]; exact e1 i q
  have e2 : ∀ i, D2 i → f i = f2 i := fun i q => by rw [← hf]; exact e2 i q
  have fr : ∀ i, D2 i → h (f2 i) = none := fun i q => hd _ (n2.1 i q)
  refine ⟨f, fun i q => e1 i (hx i q), e2, fun i hi => ?_, fun i hi => ?_, fun i j hi hj hij => ?_⟩
  · rcases hi with q | q
    · rw [e1 i (hx i q)]; exact n1.1 i q
    · rw [e2 i q]; exact fr i q
  · rcases hi with q | q
    · obtain ⟨e, a, b⟩ := n1.2.1 i q
      refine ⟨e, by rw [e1 i (hx i q)]; exact hk _ _ a, b.trans (sCell_ag (fun c hc => (e1 c (c1 i q c hc)).symm))⟩
    · obtain ⟨e, a, b⟩ := n2.2.1 i q
      refine ⟨e, by rw [e2 i q]; exact a, b.trans (sCell_ag (fun c hc => (e2 c (c2 i q c hc)).symm))⟩
  · rcases hi with qi | qi
    · rcases hj with qj | qj
      · rw [e1 i (hx i qi), e1 j (hx j qj)] at hij
        exact n1.2.2 i j qi qj hij
      · rw [e1 i (hx i qi), e2 j qj] at hij
        obtain ⟨e, a, -⟩ := n1.2.1 i qi
        rw [hij, n2.1 j qj] at a
        cases a
    · rcases hj with qj | qj
      · rw [e2 i qi, e1 j (hx j qj)] at hij
        obtain ⟨e, a, -⟩ := n1.2.1 j qj
        rw [← hij, n2.1 i qi] at a
        cases a
      · rw [e2 i qi, e2 j qj] at hij
        exact n2.2.2 i j qi qj hij
theorem nw.cell {g : mG} {D : Nat → Prop} {f : Nat → Nat} {h h2 : mHp} {i q : Nat} {e : va_E} (n : nw g D f h h2) (hq : h q = none) (h2q : h2 q = some e) (hE : ∀ f2, (∀ j, D j → f2 j = f j) → f2 i = q → eqE e (sCell f2 g z0 i (sK i))) (hi : ¬ D i) (hr : ∀ j, D j → f j ≠ q) (c1 : ∀ j, D j → ∀ c ∈ chL j, c ≠ i) :
    ∃ f2, (∀ j, D j → f2 j = f j) ∧ f2 i = q ∧ nw g (fun j => D j ∨ j = i) f2 h h2 := by
  have e1 : ∀ j, j ≠ i → (fun j => if j = i then q else f j) j = f j := fun j hj => if_neg hj
  have e2 : (fun j => if j = i then q else f j) i = q := if_pos rfl
  generalize (fun j => if j = i then q else f j) = f2 at e1 e2
  have e3 : ∀ j, D j → f2 j = f j := fun j hj => e1 j (fun q => hi (by rw [← q]; exact hj))
  refine ⟨f2, e3, e2, fun j hj => ?_, fun j hj => ?_, fun j k hj hk hjk => ?_⟩
  · rcases hj with p | p
    · rw [e3 j p]; exact n.1 j p
    · rw [p, e2]; exact hq
  · rcases hj with p | p
    · obtain ⟨e9, a, b⟩ := n.2.1 j p
      exact ⟨e9, by rw [e3 j p]; exact a, b.trans (sCell_ag (fun c hc => (e1 c (c1 j p c hc)).symm))⟩
    · subst p
      exact ⟨e, by rw [e2]; exact h2q, hE f2 e3 e2⟩
  · rcases hj with p | p
    · rcases hk with r | r
      · rw [e3 j p, e3 k r] at hjk
        exact n.2.2 j k p r hjk
      · subst r
        rw [e3 j p, e2] at hjk
        exact absurd hjk (hr j p)
    · rcases hk with r | r
      · subst p
        rw [e2, e3 k r] at hjk
        exact absurd hjk.symm (hr k r)
      · rw [p, r]
def inQ (g : mG) (D : Nat → Prop) (q a : Nat) (h : mHp) : Option Value → mHp → Prop := fun r h2 => r = none ∧ ∃ f : Nat → Nat, f q = a ∧ (∀ i, D i → i ≠ q → h (f i) = none) ∧ (∀ i, D i → ∃ e, h2 (f i) = some e ∧ eqE e (sCell f g z0 i (sK i))) ∧ (∀ i j, D i → D j → f i = f j → i = j) ∧ (∀ (x : Nat) (e : va_E), x ≠ a → h x = some e → h2 x = some e)
theorem inQ.nw {g : mG} {D : Nat → Prop} {q a : Nat} {h h2 : mHp} {e0 : va_E} {r : Option Value} (hf : h a = none) (hD : D q) (hi : inQ g D q a (mU h a e0) r h2) : r = none ∧ ∃ f, f q = a ∧ nw g D f h h2 ∧ kp h h2 := by
  obtain ⟨r1, f, f1, f2, f3, f4, f5⟩ := hi
  refine ⟨r1, f, f1, ⟨fun i hDi => ?_, f3, f4⟩, fun x e hx => f5 x e (fun q => by rw [q, hf] at hx; cases hx) (by rw [mU_ne (fun q => by rw [q, hf] at hx; cases hx)]; exact hx)⟩
  by_cases hq : i = q
  · rw [hq, f1]; exact hf
  · have h1 := f2 i hDi hq
    by_cases h3 : f i = a
    · rw [h3]; exact hf
    · rw [mU_ne h3] at h1
      exact h1
theorem nw.done {g : mG} {D D2 : Nat → Prop} {f : Nat → Nat} {h h2 : mHp} {q a : Nat} {e : va_E} (n : nw g D f h h2) (ha : h a ≠ none) (hq : ¬ D q) (c1 : ∀ i, D i → ∀ c ∈ chL i, c ≠ q) (he : h2 a = some e) (hE : ∀ f2, (∀ j, D j → f2 j = f j) → f2 q = a → eqE e (sCell f2 g z0 q (sK q))) (hk : ∀ (x : Nat) (e : va_E), x ≠ a → h x = some e → h2 x = some e) (hD : ∀ i, D2 i → D i ∨ i = q) : inQ g D2 q a h none h2 := by
  have e1 : ∀ j, j ≠ q → (fun j => if j = q then a else f j) j = f j := fun j hj => if_neg hj
  have e2 : (fun j => if j = q then a else f j) q = a := if_pos rfl
  generalize (fun j => if j = q then a else f j) = f2 at e1 e2
  have e3 : ∀ j, D j → f2 j = f j := fun j hj => e1 j (fun p => hq (by rw [← p]; exact hj))
  have hr : ∀ j, D j → f j ≠ a := fun j hj p => ha (by rw [← p]; exact n.1 j hj)
  refine ⟨rfl, f2, e2, fun i hi hiq => ?_, fun i hi => ?_, fun i j hi hj hij => ?_, hk⟩
  · rcases hD i hi with p | p
    · rw [e3 i p]; exact n.1 i p
    · exact absurd p hiq
  · rcases hD i hi with p | p
    · obtain ⟨e9, a9, b9⟩ := n.2.1 i p
      exact ⟨e9, by rw [e3 i p]; exact a9, b9.trans (sCell_ag (fun c hc => (e1 c (c1 i p c hc)).symm))⟩
    · subst p
      exact ⟨e, by rw [e2]; exact he, hE f2 e3 e2⟩
  · rcases hD i hi with p | p
    · rcases hD j hj with r | r
      · rw [e3 i p, e3 j r] at hij
        exact n.2.2 i j p r hij
      · subst r
        rw [e3 i p, e2] at hij
        exact absurd hij (hr i p)
    · rcases hD j hj with r | r
      · subst p
        rw [e2, e3 j r] at hij
        exact absurd hij.symm (hr j r)
      · rw [p, r]
def grp (i : Nat) : Nat := if i = 0 then 0 else if i ≤ 2 then 1 else if i ≤ 4 then 2 else if i ≤ 6 then 3 else if i = 7 then 4 else if i ≤ 10 then 5 else if i ≤ 13 then 6 else if i < 22 then 5 else if i < 30 then 6 else if i < 54 then 2 else if i < 78 then 3 else if i < 102 then 2 else if i < 126 then 3 else if i < 144 then 7 else 8
theorem g_1 : ∀ i, i < 145 → grp i = 1 → i = 2 ∨ i = 1 := by decide +kernel
theorem g_2 : ∀ i, i < 145 → grp i = 2 → (i = 4 ∨ (30 ≤ i ∧ i < 54) ∨ (78 ≤ i ∧ i < 102)) ∨ i = 3 := by decide +kernel
theorem g_3 : ∀ i, i < 145 → grp i = 3 → (i = 6 ∨ (54 ≤ i ∧ i < 78) ∨ (102 ≤ i ∧ i < 126)) ∨ i = 5 := by decide +kernel
theorem g_4 : ∀ i, i < 145 → grp i = 4 → i = 7 := by decide +kernel
theorem g_5 : ∀ i, i < 145 → grp i = 5 → (i = 9 ∨ i = 10 ∨ (14 ≤ i ∧ i < 22)) ∨ i = 8 := by decide +kernel
theorem g_6 : ∀ i, i < 145 → grp i = 6 → (i = 12 ∨ i = 13 ∨ (22 ≤ i ∧ i < 30)) ∨ i = 11 := by decide +kernel
theorem g_7 : ∀ i, i < 145 → grp i = 7 → (127 ≤ i ∧ i < 144) ∨ i = 126 := by decide +kernel
theorem g_ch : ∀ i, i < 145 → ∀ c ∈ chL i, c < 145 ∧ (i ≠ 0 → grp c = grp i) := by decide +kernel
theorem ch_el : ∀ i, i < 30 → 14 ≤ i → chL i = [] := by decide +kernel
theorem ch_run : ∀ i, i < 78 → 30 ≤ i → chL i = [i + 48] := by decide +kernel
theorem ch_tk : ∀ i, i < 126 → 78 ≤ i → chL i = [] := by decide +kernel
theorem ch_md : ∀ i, i < 145 → 127 ≤ i → chL i = [] := by decide +kernel
theorem mJ.alt {l : Launch} {J : mJt} {cc : ByteArray} {own : String} {nL : Nat} {ini : Bool} {R : Room} {g : mG} {pc : Nat} {L : List (Option Value)} {st : List Value} {h h2 : mHp} {cs sl : Nat} (hJ : mB l J cc own nL ini R g) (hh : ∀ (a : Nat) (e2 : va_E), h2 a = some e2 → ∃ e, h a = some e ∧ eqE e e2) (K : J pc L st h2 cs sl) : J pc L st h cs sl := by
  obtain ⟨p, e, s, m, args, below, meth, c, A, Q, rfl, hx, hb, hml, hown, hts, hK, hini, hA⟩ := hJ
  intro H locs ls hP hS hl
  refine K H locs ls (fun a e2 he => ?_) hS hl
  obtain ⟨e1, q1, q2⟩ := hh a e2 he
  exact ⟨q2.va (hP a e1 q1).1, (hP a e1 q1).2⟩
