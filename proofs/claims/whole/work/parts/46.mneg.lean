def eNg (E : pE) : pE := (E.1, E.2.1, E.2.2.1, E.2.2.2.1, E.2.2.2.2.1, -E.2.2.2.2.2)
def qNg (d : qC) (i : Nat) : qC := (d.1, d.2.1, uE d.2.2.1 i (eNg (d.2.2.1 i)), d.2.2.2)
theorem mdQ.neg {w : sT} {d : qC} {i : Nat} (h : mdQ w d) (hi : i < d.2.1) : mdQ (sI w 133 (8 + i) (-(w.1 133 (8 + i)))) (qNg d i) ∧ frM w (sI w 133 (8 + i) (-(w.1 133 (8 + i)))) := by
  obtain ⟨q1, q2, q3, q4, q5⟩ := h
  refine ⟨⟨by rw [sI_row (by omega)]; exact q1, q2, fun j hj => ?_, by rw [sI_row (by omega)]; exact q4, by rw [sI_row (by omega)]; exact q5⟩, rfl, fun a a1 a2 => sI_row (by omega), fun j _ _ _ => by rw [sI_row (by omega)], fun a j a1 a2 a3 => sI_ne (by omega)⟩
  obtain ⟨m1, m2, m3, m4, m5, m6⟩ := q3 j hj
  show mdE _ (8 + j) (uE d.2.2.1 i (eNg (d.2.2.1 i)) j)
  by_cases hji : j = i
  · subst hji
    have e : uE d.2.2.1 j (eNg (d.2.2.1 j)) j = eNg (d.2.2.1 j) := by simp [uE]
    rw [e]
    exact ⟨by rw [sI_row (by omega)]; exact m1, by rw [sI_row (by omega)]; exact m2, by rw [sI_row (by omega)]; exact m3, by rw [sI_row (by omega)]; exact m4, by rw [sI_row (by omega)]; exact m5, by rw [sI_eq, m6]; rfl⟩
  · have e : uE d.2.2.1 i (eNg (d.2.2.1 i)) j = d.2.2.1 j := by simp [uE, hji]
    rw [e]
    exact ⟨by rw [sI_row (by omega)]; exact m1, by rw [sI_row (by omega)]; exact m2, by rw [sI_row (by omega)]; exact m3, by rw [sI_row (by omega)]; exact m4, by rw [sI_row (by omega)]; exact m5, by rw [sI_ne (by omega)]; exact m6⟩
theorem uE_comm {els : Nat → pE} {i j : Nat} {E F : pE} (h : i ≠ j) : uE (uE els i E) j F = uE (uE els j F) i E := by
  funext a
  unfold uE
  by_cases h1 : a = j
  · by_cases h2 : a = i
    · omega
    · rw [if_pos h1, if_neg h2, if_pos h1]
  · by_cases h2 : a = i
    · rw [if_neg h1, if_pos h2, if_pos h2]
    · rw [if_neg h1, if_neg h2, if_neg h2, if_neg h1]
theorem qAf_neg {s k : Nat} {els : Nat → pE} {p : Int32 × Int32} {x : Int32} : qAf (qNeg (s, k + 1, els, p)) x = (qAf (s, k + 1, els, p) x).map (fun d => qNg d k) := by
  have e1 : (qE (qNeg (s, k + 1, els, p))).1 = (els k).1 := by
    show (uE els k _ k).1 = _
    simp [uE, qE]
  have e2 : (qE (qNeg (s, k + 1, els, p))).2.2.1 = (els k).2.2.1 := by
    show (uE els k _ k).2.2.1 = _
    simp [uE, qE]
  have e3 : qE (s, k + 1, els, p) = els k := rfl
  have e4 : qNeg (s, k + 1, els, p) = (s, k + 1, uE els k (eNg (els k)), p) := rfl
  unfold qAf
  rw [e1, e2, e3]
  by_cases h35 : x = 35
  · rw [if_pos h35, if_pos h35]
    split <;> rfl
  · rw [if_neg h35, if_neg h35]
    by_cases h64 : x = 64
    · rw [if_pos h64, if_pos h64]
      split <;> rfl
    · rw [if_neg h64, if_neg h64]
      by_cases h8 : k + 1 = 8
      · rw [if_pos (show (qNeg (s, k + 1, els, p)).2.1 = 8 from h8), if_pos (show ((s, k + 1, els, p) : qC).2.1 = 8 from h8)]
        rfl
      · rw [if_neg (show ¬ (qNeg (s, k + 1, els, p)).2.1 = 8 from h8), if_neg (show ¬ ((s, k + 1, els, p) : qC).2.1 = 8 from h8)]
        by_cases h33 : x = 33
        · rw [if_pos h33, if_pos h33]
          by_cases h7 : k + 1 < 7
          · rw [if_pos (show (qNeg (s, k + 1, els, p)).2.1 < 7 from h7), if_pos (show ((s, k + 1, els, p) : qC).2.1 < 7 from h7)]
            rfl
          · rw [if_neg (show ¬ (qNeg (s, k + 1, els, p)).2.1 < 7 from h7), if_neg (show ¬ ((s, k + 1, els, p) : qC).2.1 < 7 from h7)]
            rfl
        · rw [if_neg h33, if_neg h33, e4]
          unfold qBg
          cases hp : pKd x
          · rfl
          · have e5 : uE els (k + 1) (0, x, 0, 32, 0, 0) k = els k := by simp [uE]
            show some _ = some _
            congr 1
            show (2, k + 1 + 1, uE (uE els k (eNg (els k))) (k + 1) (0, x, 0, 32, 0, 0), p) = (2, k + 1 + 1, uE (uE els (k + 1) (0, x, 0, 32, 0, 0)) k (eNg (uE els (k + 1) (0, x, 0, 32, 0, 0) k)), p)
            rw [e5, uE_comm (by omega)]
theorem qNx_of {c : qC} {x : Int32} (hk : 1 ≤ c.2.1 ∨ ¬ (c.1 = 14 ∨ c.1 = 15)) : qNx c x = (if c.1 = 14 ∨ c.1 = 15 then (qNm c x).map (fun d => if d.1 = 15 then d else qNg d (c.2.1 - 1)) else qNm c x) := by
  by_cases h : c.1 = 14 ∨ c.1 = 15
  · rw [if_pos h]
    obtain ⟨s, k, els, p⟩ := c
    obtain ⟨k, rfl⟩ : ∃ j, k = j + 1 := ⟨k - 1, by have : 1 ≤ k := hk.resolve_right (fun q => q h); omega⟩
    have key : (qAf (s, k + 1, els, p) x).map (fun d => if d.1 = 15 then d else qNg d (k + 1 - 1)) = qAf (qNeg (s, k + 1, els, p)) x := by
      rw [qAf_neg]
      cases hq : qAf (s, k + 1, els, p) x with
      | none => rfl
      | some d =>
        have := (qI_af (c := (s, k + 1, els, p)) (Nat.le_add_left 1 k) hq).2.2
        show some (if d.1 = 15 then d else qNg d (k + 1 - 1)) = some (qNg d k)
        rw [if_neg this]
        rfl
    rcases h with rfl | rfl
    · have e1 : qNm (14, k + 1, els, p) x = (if pDg x then some (qNum (14, k + 1, els, p) 15 (10 * (qE (14, k + 1, els, p)).2.2.2.2.2 + (x - 48))) else qAf (14, k + 1, els, p) x) := rfl
      have e2 : qNx (14, k + 1, els, p) x = (if pDg x then some (qNum (14, k + 1, els, p) 15 (10 * (qE (14, k + 1, els, p)).2.2.2.2.2 + (x - 48))) else qAf (qNeg (14, k + 1, els, p)) x) := rfl
      rw [e1, e2]
      cases hp : pDg x
      · exact key.symm
      · rfl
    · have e1 : qNm (15, k + 1, els, p) x = qAf (15, k + 1, els, p) x := rfl
      have e2 : qNx (15, k + 1, els, p) x = qAf (qNeg (15, k + 1, els, p)) x := rfl
      rw [e1, e2]
      exact key.symm
  · rw [if_neg h]
    unfold qNm
    rw [if_neg (fun q => h (Or.inl q)), if_neg (fun q => h (Or.inr q))]
theorem qI_ng {d : qC} {i : Nat} (h : qI d) (hs : d.1 = 9 ∨ d.1 = 10 ∨ d.1 = 1 ∨ (d.1 = 2 ∧ i + 1 < d.2.1)) : qI (qNg d i) := by
  obtain ⟨i1, i2, i3, i4, i5, i6, i7⟩ := h
  have key : d.1 = 2 → qE (qNg d i) = qE d := by
    intro h2
    show uE d.2.2.1 i _ (d.2.1 - 1) = d.2.2.1 (d.2.1 - 1)
    unfold uE
    rw [if_neg (by omega)]
  refine ⟨i1, i2, i3, i4, fun q => ?_, fun q => ?_, fun q => ?_⟩
  · have q' : d.1 = 2 ∨ d.1 = 3 := q
    rw [key (by omega)]
    exact i5 q'
  · have q' : 2 ≤ d.1 ∧ d.1 ≤ 5 := q
    rw [key (by omega)]
    exact i6 q'
  · have q' : d.1 = 6 ∨ d.1 = 14 := q
    omega
theorem qAf_st {c d : qC} {x : Int32} (h : qAf c x = some d) : (d.1 = 9 ∨ d.1 = 10 ∨ d.1 = 1) ∧ d.2.1 = c.2.1 ∨ (d.1 = 2 ∧ d.2.1 = c.2.1 + 1) := by
  unfold qAf at h
  split at h
  · split at h
    · cases h; exact Or.inl ⟨Or.inl rfl, rfl⟩
    · cases h
  · split at h
    · split at h
      · cases h; exact Or.inl ⟨Or.inr (Or.inl rfl), rfl⟩
      · cases h
    · split at h
      · cases h
      · split at h
        · split at h
          · cases h; exact Or.inl ⟨Or.inr (Or.inr rfl), rfl⟩
          · cases h
        · unfold qBg at h
          split at h
          · cases h; exact Or.inr ⟨rfl, rfl⟩
          · cases h
theorem qNm_st {c d : qC} {x : Int32} (hc : c.1 = 14 ∨ c.1 = 15) (h : qNm c x = some d) (hd : d.1 ≠ 15) : (d.1 = 9 ∨ d.1 = 10 ∨ d.1 = 1) ∧ d.2.1 = c.2.1 ∨ (d.1 = 2 ∧ d.2.1 = c.2.1 + 1) := by
  unfold qNm at h
  rcases hc with hc | hc
  · rw [if_pos hc] at h
    split at h
    · cases h
      exact absurd rfl hd
    · exact qAf_st h
  · rw [if_neg (by omega), if_pos hc] at h
    exact qAf_st h
