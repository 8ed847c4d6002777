abbrev eC : Type := (Nat → pE) × Nat × Int32 × Int32 × Int32 × Int32 × Int32 × Int32 × Int32
def xEl (C : eC) : Nat → pE := C.1
def xK (C : eC) : Nat := C.2.1
def xKy (C : eC) : Int32 := C.2.2.1
def xWn (C : eC) : Int32 := C.2.2.2.1
def xNu (C : eC) : Int32 := C.2.2.2.2.1
def xKd (C : eC) : Int32 := C.2.2.2.2.2.1
def xKe (C : eC) : Int32 := C.2.2.2.2.2.2.1
def xVa (C : eC) : Int32 := C.2.2.2.2.2.2.2.1
def xTi (C : eC) : Int32 := C.2.2.2.2.2.2.2.2
def xSl (C : eC) : List Nat := stO (xEl C) (xK C)
def evC (z : sT) (pt : Nat) (C : eC) : Prop := z.2.1 0 4 = pt ∧ (pt = 8 ∨ pt = 11) ∧ ptA z pt (xK C) (xEl C) ∧ xK C ≤ 8 ∧ z.1 pt 4 = xKy C ∧ z.1 pt 5 = xWn C ∧ z.1 7 0 = xNu C ∧ z.1 7 1 = xKd C ∧ z.1 7 2 = xKe C ∧ z.1 7 3 = xVa C ∧ z.1 7 4 = xTi C
def frE (z w : sT) : Prop := w.2.1 0 = z.2.1 0 ∧ (∀ a, a ≠ 0 → a ≠ 3 → a ≠ 5 → ¬ (30 ≤ a ∧ a < 126) → w.1 a = z.1 a)
theorem evC.fr {z w : sT} {pt : Nat} {C : eC} (h : evC z pt C) (hf : frE z w) : evC w pt C := by
  obtain ⟨h1, h2, ⟨p1, p2, p3, p4⟩, h4, h5, h6, h7, h8, h9, h10, h11⟩ := h
  have hpb := pb_in h2
  have e1 : w.1 pt = z.1 pt := hf.2 pt (by omega) (by omega) (by omega) (by omega)
  have e2 : w.1 (pt + 2) = z.1 (pt + 2) := hf.2 _ (by omega) (by omega) (by omega) (by omega)
  have e3 : w.1 7 = z.1 7 := hf.2 7 (by omega) (by omega) (by omega) (by omega)
  refine ⟨by rw [hf.1]; exact h1, h2, ⟨by rw [e1]; exact p1, by rw [e1]; exact p2, fun j hj i hi => ?_, fun s x hs => by rw [e2]; exact p4 s x hs⟩, h4, by rw [e1]; exact h5, by rw [e1]; exact h6, by rw [e3]; exact h7, by rw [e3]; exact h8, by rw [e3]; exact h9, by rw [e3]; exact h10, by rw [e3]; exact h11⟩
  rw [hf.2 _ (by omega) (by omega) (by omega) (by omega)]
  exact p3 j hj i hi
theorem stO_in {els : Nat → pE} {k s x : Nat} (h : (stO els k)[s]? = some x) : x < k := by
  have := List.mem_of_getElem? h
  unfold stO at this
  exact List.mem_range.mp (List.mem_filter.mp this).1
theorem stO_mono {els : Nat → pE} {k s t x y : Nat} (h : (stO els k)[s]? = some x) (h2 : (stO els k)[t]? = some y) (hst : s < t) : x < y := by
  have hp : (stO els k).Pairwise (· < ·) := List.Pairwise.filter _ List.pairwise_lt_range
  obtain ⟨l1, e1⟩ := List.getElem?_eq_some_iff.mp h
  obtain ⟨l2, e2⟩ := List.getElem?_eq_some_iff.mp h2
  have := (List.pairwise_iff_getElem.mp hp) s t l1 l2 hst
  rw [e1, e2] at this
  exact this
theorem elA_of {z : sT} {b k j : Nat} {els : Nat → pE} (h : elA z b els k) (hj : j < k) : elOf z (b + j) = els j := by
  have h0 := h j hj 0 (by omega)
  have h1 := h j hj 1 (by omega)
  have h2 := h j hj 2 (by omega)
  have h3 := h j hj 3 (by omega)
  have h4 := h j hj 4 (by omega)
  have h5 := h j hj 5 (by omega)
  unfold elOf
  rw [h0, h1, h2, h3, h4, h5]
  rfl
def aFit (C : eC) (E : pE) (R : rR) : Bool := rAd E (xKd C) (xVa C) R.2.2.2.2.2 && (decide (xKy C = 0) || decide (xKe C = R.2.2.2.1))
def aBar (C : eC) (R : rR) : Nat → Nat → Bool
  | 0, _ => false
  | f + 1, j => aFit C (xEl C j) R || aBar C R f (j + 1)
def aX (C : eC) (R : rR) : Nat := (xSl C).getD R.1 0
def aY (C : eC) (R : rR) : Nat := (xSl C).getD (R.1 + 1) 0
def aGo (C : eC) (R : rR) : Bool := aFit C (xEl C (aY C R)) R
def aSt (C : eC) (R : rR) : Bool := decide (¬ (xEl C (aX C R)).2.2.1 = 0) && (decide (R.2.1 < 12) && aFit C (xEl C (aX C R)) R)
def aCm (C : eC) (R : rR) : Bool := aGo C R && decide (R.1 + 1 + 1 = (xSl C).length)
def aLt (C : eC) (R : rR) : Bool := decide (xWn C < xTi C - R.2.2.2.2.1)
def aBr (C : eC) (R : rR) : Bool := aBar C R (aY C R - (aX C R + 1)) (aX C R + 1)
def aTk (C : eC) (R : rR) (s : Nat) : rR := rTk R (xNu C) (xVa C) s
def aAp (C : eC) (R : rR) : Bool := aGo C R && (aSt C R && !aCm C R)
def rOk (C : eC) (R : rR) : Prop := R.1 + 1 < (xSl C).length ∧ R.2.1 ≤ 12 + R.1
def aKp (C : eC) (R : rR) : Option rR := if aLt C R then none else if aBr C R then none else if aSt C R then some (aTk C R R.1) else if aGo C R then (if aCm C R then none else some (aTk C R (R.1 + 1))) else some R
def aMt (C : eC) (R : rR) : Option rR := if aLt C R then none else if aBr C R then none else if aCm C R then some (aTk C R (R.1 + 1)) else none
def aPt (C : eC) (room : Bool) (R : rR) : Option rR := if aLt C R then none else if aBr C R then none else if aAp C R && room then some (aTk C R (R.1 + 1)) else none
def aDr (C : eC) (room : Bool) (R : rR) : Int32 := if aLt C R then 0 else if aBr C R then 0 else if aAp C R && !room then 1 else 0
def aLa (C : eC) (R : rR) : Int32 := if aLt C R then 1 else 0
def aBa (C : eC) (R : rR) : Int32 := if aLt C R then 0 else if aBr C R then 1 else 0
def rwA (z : sT) : Prop := (∀ j, j < 24 → 30 ≤ z.2.1 4 j ∧ z.2.1 4 j < 54) ∧ (∀ i j, i < 24 → j < 24 → z.2.1 4 i = z.2.1 4 j → i = j) ∧ (∀ j, j < 24 → z.2.1 6 j = 54 + j)
def lsA (z : sT) (q : Nat) (rs : List rR) : Prop := z.1 q 1 = nI rs.length ∧ rs.length ≤ 24 ∧ ∀ i R, rs[i]? = some R → RunA z (z.2.1 (q + 1) i) R
theorem lsA.fr {z w : sT} {q : Nat} {rs : List rR} (h : lsA z q rs) (h2 : w.2.1 = z.2.1) (hq : w.1 q 1 = z.1 q 1) (hr : ∀ i, i < rs.length → w.1 (z.2.1 (q + 1) i) = z.1 (z.2.1 (q + 1) i) ∧ w.1 (z.2.1 (q + 1) i + 48) = z.1 (z.2.1 (q + 1) i + 48)) : lsA w q rs := by
  refine ⟨by rw [hq]; exact h.1, h.2.1, fun i R hi => ?_⟩
  have hl := (List.getElem?_eq_some_iff.mp hi).1
  rw [h2]
  exact (h.2.2 i R hi).fr (hr i hl).1 (hr i hl).2
theorem lsA.put {z w : sT} {q i : Nat} {rs : List rR} {R : rR} (h : lsA z q rs) (h2 : w.2.1 = z.2.1) (hq : w.1 q 1 = z.1 q 1) (hi : i < rs.length) (hR : RunA w (z.2.1 (q + 1) i) R) (hr : ∀ j, j < rs.length → j ≠ i → w.1 (z.2.1 (q + 1) j) = z.1 (z.2.1 (q + 1) j) ∧ w.1 (z.2.1 (q + 1) j + 48) = z.1 (z.2.1 (q + 1) j + 48)) : lsA w q (rs.set i R) := by
  refine ⟨by rw [hq, List.length_set]; exact h.1, by rw [List.length_set]; exact h.2.1, fun j R2 hj => ?_⟩
  rw [h2]
  by_cases hji : j = i
  · subst hji
    rw [List.getElem?_set_self hi] at hj
    cases hj
    exact hR
  · rw [List.getElem?_set_ne (Ne.symm hji)] at hj
    have hl := (List.getElem?_eq_some_iff.mp hj).1
    exact (h.2.2 j R2 hj).fr (hr j hl hji).1 (hr j hl hji).2
theorem lsA.add {z w : sT} {q : Nat} {rs : List rR} {R : rR} (h : lsA z q rs) (h24 : rs.length < 24) (h2 : w.2.1 = z.2.1) (hq : w.1 q 1 = nI (rs.length + 1)) (hR : RunA w (z.2.1 (q + 1) rs.length) R) (hr : ∀ j, j < rs.length → w.1 (z.2.1 (q + 1) j) = z.1 (z.2.1 (q + 1) j) ∧ w.1 (z.2.1 (q + 1) j + 48) = z.1 (z.2.1 (q + 1) j + 48)) : lsA w q (rs ++ [R]) := by
  refine ⟨by rw [hq]; simp, by simp; omega, fun j R2 hj => ?_⟩
  rw [h2]
  by_cases hl : j < rs.length
  · rw [List.getElem?_append_left hl] at hj
    exact (h.2.2 j R2 hj).fr (hr j hl).1 (hr j hl).2
  · rw [List.getElem?_append_right (by omega)] at hj
    have hz : j - rs.length < 1 := (List.getElem?_eq_some_iff.mp hj).1
    rw [show j - rs.length = 0 by omega] at hj
    cases hj
    rw [show j = rs.length by omega]
    exact hR
theorem lsA.rem {z : sT} {i : Nat} {a b : List rR} {R : rR} (h : lsA z 3 (a ++ R :: b)) (hi : a.length = i) (hw : rwA z) : lsA (sRm z 3 i (a ++ R :: b).length) 3 (a ++ b) ∧ rwA (sRm z 3 i (a ++ R :: b).length) := by
  have hlen : (a ++ R :: b).length = a.length + b.length + 1 := by simp; omega
  have h24 := h.2.1
  rw [hlen] at h24 ⊢
  have hrow : ∀ j, (sRm z 3 i (a.length + b.length + 1)).2.1 4 j = if j = a.length + b.length then z.2.1 4 i else if i ≤ j ∧ j < a.length + b.length then z.2.1 4 (j + 1) else z.2.1 4 j := by
    intro j
    show (if 4 = 3 + 1 ∧ j = a.length + b.length + 1 - 1 then z.2.1 4 i else (if 4 = 3 + 1 ∧ i ≤ j ∧ j + 1 < a.length + b.length + 1 then z.2.1 4 (j + 1) else z.2.1 4 j)) = _
    by_cases h1 : j = a.length + b.length
    · rw [if_pos ⟨rfl, by omega⟩, if_pos h1]
    · rw [if_neg (by omega), if_neg h1]
      by_cases h2 : i ≤ j ∧ j < a.length + b.length
      · rw [if_pos ⟨rfl, h2.1, by omega⟩, if_pos h2]
      · rw [if_neg (by omega), if_neg h2]
  have h6 : ∀ j, (sRm z 3 i (a.length + b.length + 1)).2.1 6 j = z.2.1 6 j := by
    intro j
    show (if 6 = 3 + 1 ∧ j = a.length + b.length + 1 - 1 then z.2.1 4 i else (if 6 = 3 + 1 ∧ i ≤ j ∧ j + 1 < a.length + b.length + 1 then z.2.1 6 (j + 1) else z.2.1 6 j)) = _
    rw [if_neg (by omega), if_neg (by omega)]
  have hz1 : ∀ c, c ≠ 3 → (sRm z 3 i (a.length + b.length + 1)).1 c = z.1 c := fun c hc => by
    show (sI (sSh z 3 i (a.length + b.length + 1)) 3 1 (nI (a.length + b.length + 1 - 1))).1 c = _
    rw [sI_row hc]
    rfl
  constructor
  · refine ⟨?_, by simp; omega, fun j R2 hj => ?_⟩
    · show (sI (sSh z 3 i (a.length + b.length + 1)) 3 1 (nI (a.length + b.length + 1 - 1))).1 3 1 = _
      simp [sI]
    · show RunA _ ((sRm z 3 i (a.length + b.length + 1)).2.1 4 j) R2
      rw [hrow]
      have hl := (List.getElem?_eq_some_iff.mp hj).1
      rw [List.length_append] at hl
      rw [if_neg (by omega)]
      by_cases hja : j < a.length
      · rw [List.getElem?_append_left hja] at hj
        rw [if_neg (by omega)]
        have h3 : (a ++ R :: b)[j]? = some R2 := by rw [List.getElem?_append_left hja]; exact hj
        have hr := hw.1 j (by omega)
        exact (h.2.2 j R2 h3).fr (hz1 _ (by show z.2.1 4 j ≠ 3; omega)) (hz1 _ (by show z.2.1 4 j + 48 ≠ 3; omega))
      · rw [List.getElem?_append_right (by omega)] at hj
        rw [if_pos ⟨by omega, by omega⟩]
        have h3 : (a ++ R :: b)[j + 1]? = some R2 := by
          rw [List.getElem?_append_right (by omega), show j + 1 - a.length = (j - a.length) + 1 by omega, List.getElem?_cons_succ]
          exact hj
        have hr := hw.1 (j + 1) (by omega)
        exact (h.2.2 (j + 1) R2 h3).fr (hz1 _ (by show z.2.1 4 (j + 1) ≠ 3; omega)) (hz1 _ (by show z.2.1 4 (j + 1) + 48 ≠ 3; omega))
  · refine ⟨fun j hj => ?_, fun x y hx hy hxy => ?_, fun j hj => by rw [h6]; exact hw.2.2 j hj⟩
    · rw [hrow]
      split
      · exact hw.1 i (by omega)
      · split
        · exact hw.1 (j + 1) (by omega)
        · exact hw.1 j hj
    · rw [hrow, hrow] at hxy
      have inj := hw.2.1
      split at hxy
      · split at hxy
        · omega
        · split at hxy
          · have := inj _ _ (by omega) (by omega) hxy; omega
          · have := inj _ _ (by omega) (by omega) hxy; omega
      · split at hxy
        · split at hxy
          · have := inj _ _ (by omega) (by omega) hxy; omega
          · split at hxy
            · have := inj _ _ (by omega) (by omega) hxy; omega
            · have := inj _ _ (by omega) (by omega) hxy; omega
        · split at hxy
          · have := inj _ _ (by omega) (by omega) hxy; omega
          · split at hxy
            · have := inj _ _ (by omega) (by omega) hxy; omega
            · exact inj _ _ hx hy hxy
