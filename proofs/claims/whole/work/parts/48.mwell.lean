def wN (v : Int32) : Prop := -99 ≤ v.toInt ∧ v.toInt ≤ 99
def wE (E : pE) : Prop := (∃ q : Nat, q < 65536 ∧ E.2.1 = nI q) ∧ bZ E.1 ∧ bZ E.2.2.1 ∧ bZ E.2.2.2.2.1 ∧ wN E.2.2.2.2.2
def wL (k : Nat) (els : Nat → pE) : Prop := (∀ j, j < k → wE (els j)) ∧ (1 ≤ k → (els 0).1 = 0)
def wD (c : qC) : Prop := (c.1 = 6 ∨ c.1 = 14) → 0 ≤ (qE c).2.2.2.2.2.toInt ∧ (qE c).2.2.2.2.2.toInt ≤ 9
def wQ (c : qC) : Prop := wL c.2.1 c.2.2.1 ∧ wD c
theorem wN_neg {v : Int32} (h : wN v) : wN (-v) := by
  have h1 := h.1
  have h2 := h.2
  have e : (-v).toInt = -v.toInt := by
    rw [Int32.toInt_neg]
    apply Int.bmod_eq_of_le <;> omega
  exact ⟨by rw [e]; omega, by rw [e]; omega⟩
theorem wN_0 : wN 0 := by unfold wN; decide
theorem dg_int {x : Int32} (h : pDg x = true) : 0 ≤ (x - 48).toInt ∧ (x - 48).toInt ≤ 9 := by
  obtain ⟨a, b⟩ := dg_pos h
  exact ⟨Int32.le_iff_toInt_le.mp (Int32.not_lt.mp a), Int32.le_iff_toInt_le.mp b⟩
theorem dg_two {v y : Int32} (h1 : 0 ≤ v.toInt ∧ v.toInt ≤ 9) (h2 : 0 ≤ y.toInt ∧ y.toInt ≤ 9) : wN (10 * v + y) := by
  have h0 : ¬ v < 0 := Int32.not_lt.mpr (Int32.le_iff_toInt_le.mpr h1.1)
  have h0y : ¬ y < 0 := Int32.not_lt.mpr (Int32.le_iff_toInt_le.mpr h2.1)
  obtain ⟨a, ha, rfl⟩ := nI_of h0
  obtain ⟨b, hb, rfl⟩ := nI_of h0y
  rw [nI_toInt ha] at h1
  rw [nI_toInt hb] at h2
  have e : (10 : Int32) * nI a + nI b = nI (10 * a + b) := by
    rw [show (10 : Int32) * nI a = nI (10 * a) from (Int32.ofNat_mul 10 a).symm]
    exact nI_add (10 * a) b
  rw [e]
  unfold wN
  rw [nI_toInt (by omega)]
  omega
theorem wL_u {k : Nat} {els : Nat → pE} {i : Nat} {E : pE} (h : wL k els) (hE : wE E) (h0 : i = 0 → E.1 = 0) : wL k (uE els i E) := by
  refine ⟨fun j hj => ?_, fun hk => ?_⟩
  · unfold uE
    by_cases hji : j = i
    · rw [if_pos hji]; exact hE
    · rw [if_neg hji]; exact h.1 j hj
  · unfold uE
    by_cases hi : 0 = i
    · rw [if_pos hi]; exact h0 hi.symm
    · rw [if_neg hi]; exact h.2 hk
theorem wL_add {k : Nat} {els : Nat → pE} {E : pE} (h : wL k els) (hE : wE E) (h0 : k = 0 → E.1 = 0) : wL (k + 1) (uE els k E) := by
  refine ⟨fun j hj => ?_, fun hk => ?_⟩
  · unfold uE
    by_cases hji : j = k
    · rw [if_pos hji]; exact hE
    · rw [if_neg hji]; exact h.1 j (by omega)
  · unfold uE
    by_cases hi : 0 = k
    · rw [if_pos hi]; exact h0 hi.symm
    · rw [if_neg hi]; exact h.2 (by omega)
theorem wQ_of {s k : Nat} {els : Nat → pE} {p : Int32 × Int32} (h : wL k els) (hs : s ≠ 6 ∧ s ≠ 14) : wQ (s, k, els, p) := ⟨h, fun q => by
  have : s = 6 ∨ s = 14 := q
  omega⟩
theorem wQ_bg {c d : qC} {q : Nat} {b : Int32} (hq : q < 65536) (hb : bZ b) (h : wL c.2.1 c.2.2.1) (h0 : c.2.1 = 0 → b = 0) (hd : qBg c (nI q) b = some d) : wQ d := by
  unfold qBg at hd
  split at hd
  · cases hd
    exact wQ_of (wL_add h ⟨⟨q, hq, rfl⟩, hb, Or.inl rfl, Or.inl rfl, wN_0⟩ h0) ⟨by decide, by decide⟩
  · cases hd
theorem wQ_af {c d : qC} {q : Nat} (hq : q < 65536) (h : wL c.2.1 c.2.2.1) (hd : qAf c (nI q) = some d) : wQ d := by
  unfold qAf at hd
  split at hd
  · split at hd
    · cases hd; exact wQ_of h ⟨by decide, by decide⟩
    · cases hd
  · split at hd
    · split at hd
      · cases hd; exact wQ_of h ⟨by decide, by decide⟩
      · cases hd
    · split at hd
      · cases hd
      · split at hd
        · split at hd
          · cases hd; exact wQ_of h ⟨by decide, by decide⟩
          · cases hd
        · exact wQ_bg hq (Or.inl rfl) h (fun _ => rfl) hd
theorem wQ_set {s s2 k : Nat} {els : Nat → pE} {p : Int32 × Int32} {E : pE} (h : wL (k + 1) els) (hE : wE E) (h1 : E.1 = (els k).1) (hs : (s2 = 6 ∨ s2 = 14) → 0 ≤ E.2.2.2.2.2.toInt ∧ E.2.2.2.2.2.toInt ≤ 9) : wQ (qSet (s, k + 1, els, p) s2 E) := by
  refine ⟨wL_u h hE (fun q => ?_), fun q => ?_⟩
  · have hk : k = 0 := q
    subst hk
    rw [h1]
    exact h.2 (by omega)
  · have e : qE (qSet (s, k + 1, els, p) s2 E) = E := by
      show uE els k E k = E
      simp [uE]
    rw [e]
    exact hs q
theorem wQ_cm {s k : Nat} {els : Nat → pE} {p : Int32 × Int32} {d : qC} {q : Nat} (hq : q < 65536) (h : wL (k + 1) els) (hd : qCm (s, k + 1, els, p) (nI q) = some d) : wQ d := by
  unfold qCm at hd
  have hE := h.1 k (by omega)
  split at hd
  · cases hd
    exact wQ_set h ⟨hE.1, hE.2.1, hE.2.2.1, hE.2.2.2.1, hE.2.2.2.2⟩ rfl (fun q => by omega)
  · exact wQ_af hq h hd
set_option maxHeartbeats 1000000 in
theorem wQ_nx {c d : qC} {q : Nat} (hq : q < 65536) (hI : qI c) (h : wQ c) (hd : qNx c (nI q) = some d) : wQ d := by
  obtain ⟨s, k, els, p⟩ := c
  obtain ⟨i1, i2, i3, i4, i5, i6, i7⟩ := hI
  have i1' : s ≤ 15 := i1
  by_cases h0 : s = 0
  · subst h0
    exact wQ_bg hq (Or.inl rfl) h.1 (fun _ => rfl) (show qBg (0, k, els, p) (nI q) 0 = some d from hd)
  obtain ⟨k, rfl⟩ : ∃ j, k = j + 1 := ⟨k - 1, by have : 1 ≤ k := i3 h0; omega⟩
  have hL : wL (k + 1) els := h.1
  have hE := hL.1 k (by omega)
  have hs : s = 1 ∨ s = 2 ∨ s = 3 ∨ s = 4 ∨ s = 5 ∨ s = 6 ∨ s = 7 ∨ s = 8 ∨ s = 9 ∨ s = 10 ∨ s = 11 ∨ s = 12 ∨ s = 13 ∨ s = 14 ∨ s = 15 := by omega
  have hneg : ∀ s0 : Nat, wL (qNeg (s0, k + 1, els, p)).2.1 (qNeg (s0, k + 1, els, p)).2.2.1 := fun s0 => (wQ_set (s := s0) (s2 := 0) (p := p) (E := eNg (els k)) hL ⟨hE.1, hE.2.1, hE.2.2.1, hE.2.2.2.1, wN_neg hE.2.2.2.2⟩ rfl (fun q => by omega)).1
  rcases hs with rfl | rfl | rfl | rfl | rfl | rfl | rfl | rfl | rfl | rfl | rfl | rfl | rfl | rfl | rfl
  · exact wQ_bg hq (Or.inr rfl) h.1 (fun q0 => by have : k + 1 = 0 := q0; omega) (show qBg (1, k + 1, els, p) (nI q) 1 = some d from hd)
  · have hd : (if nI q = 43 then (if (qE (2, k + 1, els, p)).1 = 0 ∧ k + 1 < 8 then some (qSet (2, k + 1, els, p) 3 ((els k).1, (els k).2.1, 1, (els k).2.2.2)) else none) else qCm (2, k + 1, els, p) (nI q)) = some d := hd
    split at hd
    · split at hd
      · cases hd
        exact wQ_set hL ⟨hE.1, hE.2.1, Or.inr rfl, hE.2.2.2.1, hE.2.2.2.2⟩ rfl (fun q => by omega)
      · cases hd
    · exact wQ_cm hq hL hd
  · exact wQ_cm (s := 3) hq hL hd
  · have hd : (if nI q = 112 ∧ 1 < k + 1 then some (qSet (4, k + 1, els, p) 8 ((els k).1, (els k).2.1, (els k).2.2.1, (els k).2.2.2.1, 1, 0)) else if nI q = 45 then some (5, k + 1, els, p) else if pDg (nI q) then some (qSet (4, k + 1, els, p) 6 ((els k).1, (els k).2.1, (els k).2.2.1, (els k).2.2.2.1, (els k).2.2.2.2.1, nI q - 48)) else none) = some d := hd
    split at hd
    · cases hd
      exact wQ_set hL ⟨hE.1, hE.2.1, hE.2.2.1, Or.inr rfl, wN_0⟩ rfl (fun q => by omega)
    · split at hd
      · cases hd; exact wQ_of hL ⟨by decide, by decide⟩
      · split at hd
        · rename_i hg
          cases hd
          have := dg_int hg
          exact wQ_set hL ⟨hE.1, hE.2.1, hE.2.2.1, hE.2.2.2.1, by show -99 ≤ (nI q - 48).toInt; omega, by show (nI q - 48).toInt ≤ 99; omega⟩ rfl (fun _ => this)
        · cases hd
  · have hd : (if pDg (nI q) then some (qSet (5, k + 1, els, p) 14 ((els k).1, (els k).2.1, (els k).2.2.1, (els k).2.2.2.1, (els k).2.2.2.2.1, nI q - 48)) else none) = some d := hd
    split at hd
    · rename_i hg
      cases hd
      have := dg_int hg
      exact wQ_set hL ⟨hE.1, hE.2.1, hE.2.2.1, hE.2.2.2.1, by show -99 ≤ (nI q - 48).toInt; omega, by show (nI q - 48).toInt ≤ 99; omega⟩ rfl (fun _ => this)
    · cases hd
  · have hd : (if pDg (nI q) then some (qSet (6, k + 1, els, p) 7 ((els k).1, (els k).2.1, (els k).2.2.1, (els k).2.2.2.1, (els k).2.2.2.2.1, 10 * (els k).2.2.2.2.2 + (nI q - 48))) else qAf (6, k + 1, els, p) (nI q)) = some d := hd
    split at hd
    · rename_i hg
      cases hd
      exact wQ_set hL ⟨hE.1, hE.2.1, hE.2.2.1, hE.2.2.2.1, dg_two (h.2 (Or.inl rfl)) (dg_int hg)⟩ rfl (fun q => by omega)
    · exact wQ_af hq hL hd
  · exact wQ_af (c := (7, k + 1, els, p)) hq hL hd
  · exact wQ_af (c := (8, k + 1, els, p)) hq hL hd
  · have hd : (if nI q = 64 then some (10, k + 1, els, p) else none) = some d := hd
    split at hd
    · cases hd; exact wQ_of hL ⟨by decide, by decide⟩
    · cases hd
  · have hd : (if pDg (nI q) then some (11, k + 1, els, p.1, 10 * p.2 + (nI q - 48)) else none) = some d := hd
    split at hd
    · cases hd; exact wQ_of hL ⟨by decide, by decide⟩
    · cases hd
  · have hd : (if pDg (nI q) then some (12, k + 1, els, p.1, 10 * p.2 + (nI q - 48)) else none) = some d := hd
    split at hd
    · cases hd; exact wQ_of hL ⟨by decide, by decide⟩
    · cases hd
  · have hd : (if pDg (nI q) then some (13, k + 1, els, p.1, 10 * p.2 + (nI q - 48)) else none) = some d := hd
    split at hd
    · cases hd; exact wQ_of hL ⟨by decide, by decide⟩
    · cases hd
  · have hd : (none : Option qC) = some d := hd
    cases hd
  · have hd : (if pDg (nI q) then some (qSet (14, k + 1, els, p) 15 ((els k).1, (els k).2.1, (els k).2.2.1, (els k).2.2.2.1, (els k).2.2.2.2.1, 10 * (els k).2.2.2.2.2 + (nI q - 48))) else qAf (qNeg (14, k + 1, els, p)) (nI q)) = some d := hd
    split at hd
    · rename_i hg
      cases hd
      exact wQ_set hL ⟨hE.1, hE.2.1, hE.2.2.1, hE.2.2.2.1, dg_two (h.2 (Or.inr rfl)) (dg_int hg)⟩ rfl (fun q => by omega)
    · exact wQ_af hq (hneg 14) hd
  · exact wQ_af hq (hneg 15) (show qAf (qNeg (15, k + 1, els, p)) (nI q) = some d from hd)
theorem qI_nx {c d : qC} {x : Int32} (hI : qI c) (hd : qNx c x = some d) : qI d ∧ d.1 ≠ 0 := by
  have hkor : 1 ≤ c.2.1 ∨ ¬ (c.1 = 14 ∨ c.1 = 15) := by
    by_cases h0 : c.1 = 0
    · exact Or.inr (by omega)
    · exact Or.inl (hI.2.2.1 h0)
  rw [qNx_of hkor] at hd
  by_cases h14 : c.1 = 14 ∨ c.1 = 15
  · rw [if_pos h14] at hd
    cases hq : qNm c x with
    | none => rw [hq] at hd; cases hd
    | some e =>
      rw [hq] at hd
      have hd : some (if e.1 = 15 then e else qNg e (c.2.1 - 1)) = some d := hd
      obtain ⟨a, b, -⟩ := qI_nm hI hq
      by_cases h15 : e.1 = 15
      · rw [if_pos h15] at hd
        cases hd
        exact ⟨a, b⟩
      · rw [if_neg h15] at hd
        cases hd
        have hk : 1 ≤ c.2.1 := hI.2.2.1 (by omega)
        have hst := qNm_st h14 hq h15
        exact ⟨qI_ng a (by omega), b⟩
  · rw [if_neg h14] at hd
    obtain ⟨a, b, -⟩ := qI_nm hI hd
    exact ⟨a, b⟩
theorem qR_w {tx : Nat → Int32} : ∀ (f p : Nat) (c : qC), (∀ i, p ≤ i → i < p + f → ∃ q : Nat, 33 ≤ q ∧ q ≤ 126 ∧ tx i = nI q) → qI c → wQ c → (qR tx f p c).1 = true → wL (qR tx f p c).2.2.1 (qR tx f p c).2.2.2.1 ∧ 1 ≤ (qR tx f p c).2.2.1
  | 0, p, c, _, hI, hw, h => by
    have e : qR tx 0 p c = qFin p c := rfl
    rw [e] at h ⊢
    unfold qFin at h ⊢
    by_cases hc : 11 ≤ c.1 ∧ c.1 ≤ 13
    · rw [if_pos hc]
      exact ⟨hw.1, hI.2.2.1 (by omega)⟩
    · rw [if_neg hc] at h
      cases h
  | f + 1, p, c, hch, hI, hw, h => by
    obtain ⟨q, q1, q2, q3⟩ := hch p (Nat.le_refl _) (by omega)
    cases hx : qNx c (tx p) with
    | none =>
      rw [qR_n hx] at h
      cases h
    | some d =>
      rw [qR_s hx] at h ⊢
      have hx2 := hx
      rw [q3] at hx2
      exact qR_w f (p + 1) d (fun i a b => hch i (by omega) (by omega)) (qI_nx hI hx).1 (wQ_nx (by omega) hI hw hx2) h
theorem cRd_w {tx : Nat → Int32} {n : Nat} (hch : ∀ i, i < n → ∃ q : Nat, 33 ≤ q ∧ q ≤ 126 ∧ tx i = nI q) (h : (cRd tx n).1 = true) : wL (cRd tx n).2.2.1 (cRd tx n).2.2.2.1 ∧ 1 ≤ (cRd tx n).2.2.1 := by
  rw [← q_all] at h ⊢
  refine qR_w n 0 _ (fun i _ hi => hch i (by omega)) ⟨by decide, fun _ => rfl, fun q => absurd rfl q, fun q => absurd q (by decide), fun q => absurd q (by decide), fun q => absurd q (by decide), fun q => absurd q (by decide)⟩ ⟨⟨fun j hj => absurd hj (Nat.not_lt_zero j), fun q => absurd q (by decide)⟩, fun q => absurd q (by decide)⟩ h
