theorem qI_plain {s k : Nat} {els : Nat → pE} {p : Int32 × Int32} (h1 : 7 ≤ s) (h2 : s ≤ 15) (h3 : s ≠ 14) (hk : 1 ≤ k) : qI (s, k, els, p) := by
  refine ⟨h2, fun q => ?_, fun _ => hk, fun q => ?_, fun q => ?_, fun q => ?_, fun q => ?_⟩
  · have : s = 0 := q
    omega
  · have : s = 1 := q
    omega
  · have : s = 2 ∨ s = 3 := q
    omega
  · have : 2 ≤ s ∧ s ≤ 5 := q
    omega
  · have : s = 6 ∨ s = 14 := q
    omega
theorem qE_u9 {s k : Nat} {els : Nat → pE} {p : Int32 × Int32} {E : pE} : qE (s, k + 1, uE els k E, p) = E := by
  show uE els k E k = E
  simp [uE]
theorem qI_el {s k : Nat} {els : Nat → pE} {p : Int32 × Int32} {E : pE} (h1 : 2 ≤ s) (h2 : s ≤ 15) (ht : s ≤ 3 → E.2.2.2.1 = 32) (hn : s ≤ 5 → E.2.2.2.2.1 = 0 ∧ E.2.2.2.2.2 = 0) (h6 : (s = 6 ∨ s = 14) → ¬ E.2.2.2.2.2 < 0) : qI (s, k + 1, uE els k E, p) := by
  refine ⟨h2, fun q => ?_, fun _ => Nat.le_add_left 1 k, fun q => ?_, fun q => ?_, fun q => ?_, fun q => ?_⟩
  · have : s = 0 := q
    omega
  · have : s = 1 := q
    omega
  · have : s = 2 ∨ s = 3 := q
    rw [qE_u9]; exact ht (by omega)
  · have : 2 ≤ s ∧ s ≤ 5 := q
    rw [qE_u9]; exact hn (by omega)
  · rw [qE_u9]; exact h6 q
theorem qI_bg {c d : qC} {x b : Int32} (h : qBg c x b = some d) : qI d ∧ d.1 = 2 := by
  unfold qBg at h
  split at h
  · cases h
    exact ⟨qI_el (by omega) (by omega) (fun _ => rfl) (fun _ => ⟨rfl, rfl⟩) (fun q => by omega), rfl⟩
  · cases h
theorem qI_af {c d : qC} {x : Int32} (hk : 1 ≤ c.2.1) (h : qAf c x = some d) : qI d ∧ d.1 ≠ 0 ∧ d.1 ≠ 15 := by
  obtain ⟨s, k, els, p⟩ := c
  unfold qAf at h
  split at h
  · split at h
    · cases h; exact ⟨qI_plain (by omega) (by omega) (by omega) hk, show (9 : Nat) ≠ 0 by decide, show (9 : Nat) ≠ 15 by decide⟩
    · cases h
  · split at h
    · split at h
      · cases h; exact ⟨qI_plain (by omega) (by omega) (by omega) hk, show (10 : Nat) ≠ 0 by decide, show (10 : Nat) ≠ 15 by decide⟩
      · cases h
    · split at h
      · cases h
      · split at h
        · split at h
          · rename_i h7
            cases h
            refine ⟨⟨by show 1 ≤ 15; omega, fun q => ?_, fun _ => hk, fun _ => h7, fun q => ?_, fun q => ?_, fun q => ?_⟩, show (1 : Nat) ≠ 0 by decide, show (1 : Nat) ≠ 15 by decide⟩
            · exact absurd q (show ¬ (1 : Nat) = 0 by decide)
            · exact absurd q (show ¬ ((1 : Nat) = 2 ∨ (1 : Nat) = 3) by decide)
            · exact absurd q (show ¬ (2 ≤ (1 : Nat) ∧ (1 : Nat) ≤ 5) by decide)
            · exact absurd q (show ¬ ((1 : Nat) = 6 ∨ (1 : Nat) = 14) by decide)
          · cases h
        · obtain ⟨a, b⟩ := qI_bg h
          exact ⟨a, by rw [b]; decide, by rw [b]; decide⟩
theorem dg_pos {x : Int32} (h : pDg x = true) : ¬ x - 48 < 0 ∧ x - 48 ≤ 9 := by
  unfold pDg at h
  simp only [Bool.and_eq_true, decide_eq_true_eq] at h
  have h0 : ¬ x < 0 := Int32.not_lt.mpr (Int32.le_trans (by decide) h.1)
  obtain ⟨j, hj, rfl⟩ := nI_of h0
  have a1 := (nI_leI (a := 48) (b := j) (by decide) hj).mp h.1
  have a2 := (nI_leI (a := j) (b := 57) hj (by decide)).mp h.2
  have e : nI j - 48 = nI (j - 48) := pk_sub (a := j) (b := 48) (by omega)
  rw [e]
  exact ⟨nI_pos (by omega), nI_le (b := 9) (by omega) (by decide)⟩
theorem qI_cm {c d : qC} {x : Int32} (hk : 1 ≤ c.2.1) (hp : (qE c).2.2.2.2.1 = 0 ∧ (qE c).2.2.2.2.2 = 0) (h : qCm c x = some d) : qI d ∧ d.1 ≠ 0 ∧ d.1 ≠ 15 := by
  unfold qCm at h
  split at h
  · cases h
    obtain ⟨s, k, els, p⟩ := c
    obtain ⟨k, rfl⟩ : ∃ j, k = j + 1 := ⟨k - 1, by have : 1 ≤ k := hk; omega⟩
    exact ⟨qI_el (by omega) (by omega) (fun q => by omega) (fun _ => hp) (fun q => by omega), by show (4 : Nat) ≠ 0; decide, by show (4 : Nat) ≠ 15; decide⟩
  · exact qI_af hk h
theorem qI_num {c : qC} {s : Nat} {v : Int32} (hk : 1 ≤ c.2.1) (h1 : 6 ≤ s) (h2 : s ≤ 15) (hv : (s = 6 ∨ s = 14) → ¬ v < 0) : qI (qNum c s v) := by
  obtain ⟨s0, k, els, p⟩ := c
  obtain ⟨k, rfl⟩ : ∃ j, k = j + 1 := ⟨k - 1, by have : 1 ≤ k := hk; omega⟩
  exact qI_el (by omega) h2 (fun q => by omega) (fun q => by omega) hv
theorem qI_nm {c d : qC} {x : Int32} (hI : qI c) (h : qNm c x = some d) : qI d ∧ d.1 ≠ 0 ∧ ((c.1 = 14 ∨ c.1 = 15) ∨ d.1 ≠ 15) := by
  obtain ⟨i1, i2, i3, i4, i5, i6, i7⟩ := hI
  by_cases h0 : c.1 = 0
  · have e : qNm c x = qBg c x 0 := by unfold qNm qNx; rw [h0]; rfl
    rw [e] at h
    obtain ⟨a, b⟩ := qI_bg h
    exact ⟨a, by rw [b]; decide, Or.inr (by rw [b]; decide)⟩
  have hk := i3 h0
  have hs : c.1 = 1 ∨ c.1 = 2 ∨ c.1 = 3 ∨ c.1 = 4 ∨ c.1 = 5 ∨ c.1 = 6 ∨ c.1 = 7 ∨ c.1 = 8 ∨ c.1 = 9 ∨ c.1 = 10 ∨ c.1 = 11 ∨ c.1 = 12 ∨ c.1 = 13 ∨ c.1 = 14 ∨ c.1 = 15 := by omega
  rcases hs with q | q | q | q | q | q | q | q | q | q | q | q | q | q | q
  · have e : qNm c x = qBg c x 1 := by unfold qNm qNx; rw [q]; rfl
    rw [e] at h
    obtain ⟨a, b⟩ := qI_bg h
    exact ⟨a, by rw [b]; decide, Or.inr (by rw [b]; decide)⟩
  · have e : qNm c x = (if x = 43 then (if (qE c).1 = 0 ∧ c.2.1 < 8 then some (qSet c 3 ((qE c).1, (qE c).2.1, 1, (qE c).2.2.2)) else none) else qCm c x) := by unfold qNm qNx; rw [q]; rfl
    rw [e] at h
    split at h
    · split at h
      · cases h
        obtain ⟨s, k, els, p⟩ := c
        obtain ⟨k, rfl⟩ : ∃ j, k = j + 1 := ⟨k - 1, by have : 1 ≤ k := hk; omega⟩
        exact ⟨qI_el (by omega) (by omega) (fun _ => i5 (Or.inl q)) (fun _ => i6 ⟨by omega, by omega⟩) (fun q => by omega), by show (3 : Nat) ≠ 0; decide, Or.inr (by show (3 : Nat) ≠ 15; decide)⟩
      · cases h
    · obtain ⟨a, b, b2⟩ := qI_cm hk (i6 ⟨by omega, by omega⟩) h
      exact ⟨a, b, Or.inr b2⟩
  · have e : qNm c x = qCm c x := by unfold qNm qNx; rw [q]; rfl
    rw [e] at h
    obtain ⟨a, b, b2⟩ := qI_cm hk (i6 ⟨by omega, by omega⟩) h
    exact ⟨a, b, Or.inr b2⟩
  · have e : qNm c x = (if x = 112 ∧ 1 < c.2.1 then some (qSet c 8 ((qE c).1, (qE c).2.1, (qE c).2.2.1, (qE c).2.2.2.1, 1, 0)) else if x = 45 then some (5, c.2) else if pDg x then some (qNum c 6 (x - 48)) else none) := by unfold qNm qNx; rw [q]; rfl
    rw [e] at h
    split at h
    · cases h
      exact ⟨qI_plain (by omega) (by omega) (by omega) hk, by show (8 : Nat) ≠ 0; decide, Or.inr (by show (8 : Nat) ≠ 15; decide)⟩
    · split at h
      · cases h
        refine ⟨⟨by show 5 ≤ 15; omega, fun q => ?_, fun _ => hk, fun q => ?_, fun q => ?_, fun _ => i6 ⟨by omega, by omega⟩, fun q => ?_⟩, by show (5 : Nat) ≠ 0; decide, Or.inr (by show (5 : Nat) ≠ 15; decide)⟩
        · exact absurd q (show ¬ (5 : Nat) = 0 by decide)
        · exact absurd q (show ¬ (5 : Nat) = 1 by decide)
        · exact absurd q (show ¬ ((5 : Nat) = 2 ∨ (5 : Nat) = 3) by decide)
        · exact absurd q (show ¬ ((5 : Nat) = 6 ∨ (5 : Nat) = 14) by decide)
      · split at h
        · rename_i hd
          cases h
          exact ⟨qI_num hk (by omega) (by omega) (fun _ => (dg_pos hd).1), by show (6 : Nat) ≠ 0; decide, Or.inr (by show (6 : Nat) ≠ 15; decide)⟩
        · cases h
  · have e : qNm c x = (if pDg x then some (qNum c 14 (x - 48)) else none) := by unfold qNm qNx; rw [q]; rfl
    rw [e] at h
    split at h
    · rename_i hd
      cases h
      exact ⟨qI_num hk (by omega) (by omega) (fun _ => (dg_pos hd).1), by show (14 : Nat) ≠ 0; decide, Or.inr (by show (14 : Nat) ≠ 15; decide)⟩
    · cases h
  · have e : qNm c x = (if pDg x then some (qNum c 7 (10 * (qE c).2.2.2.2.2 + (x - 48))) else qAf c x) := by unfold qNm qNx; rw [q]; rfl
    rw [e] at h
    split at h
    · cases h
      exact ⟨qI_num hk (by omega) (by omega) (fun q => by omega), by show (7 : Nat) ≠ 0; decide, Or.inr (by show (7 : Nat) ≠ 15; decide)⟩
    · obtain ⟨a, b, b2⟩ := qI_af hk h
      exact ⟨a, b, Or.inr b2⟩
  · have e : qNm c x = qAf c x := by unfold qNm qNx; rw [q]; rfl
    rw [e] at h
    obtain ⟨a, b, b2⟩ := qI_af hk h
    exact ⟨a, b, Or.inr b2⟩
  · have e : qNm c x = qAf c x := by unfold qNm qNx; rw [q]; rfl
    rw [e] at h
    obtain ⟨a, b, b2⟩ := qI_af hk h
    exact ⟨a, b, Or.inr b2⟩
  · have e : qNm c x = (if x = 64 then some (10, c.2) else none) := by unfold qNm qNx; rw [q]; rfl
    rw [e] at h
    split at h
    · cases h
      exact ⟨qI_plain (by omega) (by omega) (by omega) hk, by show (10 : Nat) ≠ 0; decide, Or.inr (by show (10 : Nat) ≠ 15; decide)⟩
    · cases h
  · have e : qNm c x = (if pDg x then some (c.1 + 1, c.2.1, c.2.2.1, c.2.2.2.1, 10 * c.2.2.2.2 + (x - 48)) else none) := by unfold qNm qNx; rw [q]; rfl
    rw [e] at h
    split at h
    · cases h
      rw [q]
      exact ⟨qI_plain (by omega) (by omega) (by omega) hk, by show (11 : Nat) ≠ 0; decide, Or.inr (by show (11 : Nat) ≠ 15; decide)⟩
    · cases h
  · have e : qNm c x = (if pDg x then some (c.1 + 1, c.2.1, c.2.2.1, c.2.2.2.1, 10 * c.2.2.2.2 + (x - 48)) else none) := by unfold qNm qNx; rw [q]; rfl
    rw [e] at h
    split at h
    · cases h
      rw [q]
      exact ⟨qI_plain (by omega) (by omega) (by omega) hk, by show (12 : Nat) ≠ 0; decide, Or.inr (by show (12 : Nat) ≠ 15; decide)⟩
    · cases h
  · have e : qNm c x = (if pDg x then some (c.1 + 1, c.2.1, c.2.2.1, c.2.2.2.1, 10 * c.2.2.2.2 + (x - 48)) else none) := by unfold qNm qNx; rw [q]; rfl
    rw [e] at h
    split at h
    · cases h
      rw [q]
      exact ⟨qI_plain (by omega) (by omega) (by omega) hk, by show (13 : Nat) ≠ 0; decide, Or.inr (by show (13 : Nat) ≠ 15; decide)⟩
    · cases h
  · have e : qNm c x = none := by unfold qNm qNx; rw [q]; rfl
    rw [e] at h
    cases h
  · have e : qNm c x = (if pDg x then some (qNum c 15 (10 * (qE c).2.2.2.2.2 + (x - 48))) else qAf c x) := by unfold qNm; rw [q]; rfl
    rw [e] at h
    split at h
    · cases h
      exact ⟨qI_num hk (by omega) (by omega) (fun q => by omega), by show (15 : Nat) ≠ 0; decide, Or.inl (Or.inl q)⟩
    · obtain ⟨a, b, b2⟩ := qI_af hk h
      exact ⟨a, b, Or.inr b2⟩
  · have e : qNm c x = qAf c x := by unfold qNm; rw [q]; rfl
    rw [e] at h
    obtain ⟨a, b, b2⟩ := qI_af hk h
    exact ⟨a, b, Or.inr b2⟩
