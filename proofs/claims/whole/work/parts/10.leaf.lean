theorem sK_0 : sK 0 = (0, mPwC, [3, 5, 7, 9, 1, 1, 0, 0, 0, 0, 0, 0]) := rfl
theorem sK_1 : sK 1 = (0, mRdC, [4, 0, 0]) := rfl
theorem sK_2 : sK 2 = (1, 2, [40]) := rfl
theorem sK_7 : sK 7 = (0, mEvC, [0, 0, 0, 0, 0]) := rfl
theorem sK_126 : sK 126 = (0, mMdC, sMd) := rfl
theorem sK_rl {q : Nat} (hq : q = 3 ∨ q = 5) : sK q = (0, mRLC, [q + 3, 0]) := by rcases hq with rfl | rfl <;> rfl
theorem sK_rows {q : Nat} (hq : q = 3 ∨ q = 5) : sK (q + 1) = (2, 4, [24, 0]) := by rcases hq with rfl | rfl <;> rfl
def pb (p : Nat) : Nat := if p = 8 then 14 else 22
theorem pb_in {p : Nat} (hp : p = 8 ∨ p = 11) : 14 ≤ pb p ∧ pb p ≤ 22 := by rcases hp with rfl | rfl <;> decide
theorem sK_pt {p : Nat} (hp : p = 8 ∨ p = 11) : sK p = (0, mPtC, [p + 3, p + 4, 0, 0, 0, 0]) := by rcases hp with rfl | rfl <;> rfl
theorem sK_els {p : Nat} (hp : p = 8 ∨ p = 11) : sK (p + 1) = (2, 5, [8, pb p + 1]) := by rcases hp with rfl | rfl <;> rfl
theorem sK_pl {p : Nat} (hp : p = 8 ∨ p = 11) : sK (p + 2) = (1, 0, [8]) := by rcases hp with rfl | rfl <;> rfl
def fWi (a b c : Int32) : Int32 := if a < b then 0 else if c < a then 0 else 1
theorem fWi_nar (a b c : Int32) : narrow .boolean (.int (fWi a b c)) = .int (fWi a b c) := by
  unfold fWi
  split
  · rfl
  · split <;> rfl
set_option maxRecDepth 100000 in
set_option maxHeartbeats 4000000 in
theorem k_Pw_isWithin (l : Launch) (g : mG) (ad : Nat → Nat) (z : sT) (a b c : Int32) : sC l y_Pw_isWithin c_Pw_isWithin 3 (some .boolean) 0 g ad [.int a, .int b, .int c] z (fun r w => r = some (.int (fWi a b c)) ∧ w = z) := by
  refine sC.intro (own := R_Pw) rfl (by decide) (by decide) (by simp [Value.category]) (Nat.le_of_ble_eq_true rfl) (fun K hB hE => ?_)
  show K 0 [some (.int a), some (.int b), some (.int c)] [] z
  refine hB.iload_n d_Pw_isWithin_0 rfl ?_
  refine hB.iload_n d_Pw_isWithin_1 rfl ?_
  refine hB.icmp_lt d_Pw_isWithin_2 (tgt := 14) rfl (fun q2 => ?_) (fun q2 => ?_)
  · refine hB.iconst d_Pw_isWithin_14 (v := 0) rfl ?_
    exact hE.1 _ _ _ _ _ d_Pw_isWithin_15 rfl rfl ⟨by unfold fWi; simp [*], rfl⟩
  · refine hB.iload_n d_Pw_isWithin_5 rfl ?_
    refine hB.iload_n d_Pw_isWithin_6 rfl ?_
    refine hB.icmp_gt d_Pw_isWithin_7 (tgt := 14) rfl (fun q7 => ?_) (fun q7 => ?_)
    · refine hB.iconst d_Pw_isWithin_14 (v := 0) rfl ?_
      exact hE.1 _ _ _ _ _ d_Pw_isWithin_15 rfl rfl ⟨by unfold fWi; simp [*], rfl⟩
    · refine hB.iconst d_Pw_isWithin_10 (v := 1) rfl ?_
      refine hB.goto d_Pw_isWithin_11 (tgt := 15) rfl ?_
      exact hE.1 _ _ _ _ _ d_Pw_isWithin_15 rfl rfl ⟨by unfold fWi; simp [*], rfl⟩
set_option maxRecDepth 100000 in
set_option maxHeartbeats 4000000 in
theorem k_Pw_isLetter (l : Launch) (g : mG) (ad : Nat → Nat) (z : sT) (a : Int32) : sC l y_Pw_isLetter c_Pw_isLetter 1 (some .boolean) 0 g ad [.int a] z (fun r w => r = some (.int (fWi a 65 70)) ∧ w = z) := by
  refine sC.intro (own := R_Pw) rfl (by decide) (by decide) (by simp [Value.category]) (Nat.le_of_ble_eq_true rfl) (fun K hB hE => ?_)
  show K 0 [some (.int a)] [] z
  refine hB.iload_n d_Pw_isLetter_0 rfl ?_
  refine hB.bipush d_Pw_isLetter_1 (v := 65) rfl ?_
  refine hB.icmp_lt d_Pw_isLetter_3 (tgt := 16) rfl (fun q3 => ?_) (fun q3 => ?_)
  · refine hB.iconst d_Pw_isLetter_16 (v := 0) rfl ?_
    exact hE.1 _ _ _ _ _ d_Pw_isLetter_17 rfl rfl ⟨by unfold fWi; simp [*], rfl⟩
  · refine hB.iload_n d_Pw_isLetter_6 rfl ?_
    refine hB.bipush d_Pw_isLetter_7 (v := 70) rfl ?_
    refine hB.icmp_gt d_Pw_isLetter_9 (tgt := 16) rfl (fun q9 => ?_) (fun q9 => ?_)
    · refine hB.iconst d_Pw_isLetter_16 (v := 0) rfl ?_
      exact hE.1 _ _ _ _ _ d_Pw_isLetter_17 rfl rfl ⟨by unfold fWi; simp [*], rfl⟩
    · refine hB.iconst d_Pw_isLetter_12 (v := 1) rfl ?_
      refine hB.goto d_Pw_isLetter_13 (tgt := 17) rfl ?_
      exact hE.1 _ _ _ _ _ d_Pw_isLetter_17 rfl rfl ⟨by unfold fWi; simp [*], rfl⟩
def rdA (z : sT) (n p : Nat) : Prop := z.1 1 1 = nI n ∧ z.1 1 2 = nI p ∧ n ≤ 40 ∧ p ≤ n ∧ ∀ i, i < n → ∃ q : Nat, 33 ≤ q ∧ q ≤ 126 ∧ z.1 2 i = nI q
theorem rdA.ch {z : sT} {n p : Nat} (h : rdA z n p) : ∃ q : Nat, q < 127 ∧ pA (z.1 2) n p = nI q := by
  by_cases hp : p < n
  · obtain ⟨q, h1, h2, h3⟩ := h.2.2.2.2 p hp
    exact ⟨q, by omega, by rw [pA_in hp]; exact h3⟩
  · exact ⟨32, by omega, pA_out (by omega)⟩
theorem rdA.nar {z : sT} {n p : Nat} (h : rdA z n p) : narrow .char (.int (pA (z.1 2) n p)) = .int (pA (z.1 2) n p) := by
  obtain ⟨q, h1, h2⟩ := h.ch
  rw [h2]
  exact (pk_charN (by omega)).1
theorem rdA.fit {z : sT} {n p : Nat} (h : rdA z n p) : fits .char (.int (pA (z.1 2) n p)) = true := by
  obtain ⟨q, h1, h2⟩ := h.ch
  rw [h2]
  exact (pk_charN (by omega)).2
set_option maxRecDepth 100000 in
set_option maxHeartbeats 4000000 in
theorem k_Rd_ahead (l : Launch) (g : mG) (ad : Nat → Nat) (z : sT) (n p : Nat) (hR : rdA z n p) : sC l y_Rd_ahead c_Rd_ahead 1 (some .char) 0 g ad [.ref (ad 1)] z (fun r w => r = some (.int (pA (z.1 2) n p)) ∧ w = z) := by
  refine sC.intro (own := R_Rd) rfl (by decide) (by decide) (by simp [Value.category]) (Nat.le_of_ble_eq_true rfl) (fun K hB hE => ?_)
  show K 0 [some (.ref (ad 1))] [] z
  refine hB.aload_n d_Rd_ahead_0 rfl ?_
  refine hB.getI (Or.inl fa_Rd_19) d_Rd_ahead_1 (by decide) sK_1 rfl ?_
  refine hB.aload_n d_Rd_ahead_4 rfl ?_
  refine hB.getI (Or.inl fa_Rd_15) d_Rd_ahead_5 (by decide) sK_1 rfl ?_
  refine hB.icmp_ge d_Rd_ahead_8 (tgt := 23) rfl (fun q8 => ?_) (fun q8 => ?_)
  · have hp : n ≤ p := by
      rw [hR.1, hR.2.1] at q8
      exact (nI_leI (by have := hR.2.2.1; omega) (by have := hR.2.2.1; have := hR.2.2.2.1; omega)).mp q8
    refine hB.bipush d_Rd_ahead_23 (v := 32) rfl ?_
    have e0 : pA (z.1 2) n p = 32 := pA_out hp
    rw [← e0]
    exact hE.1 _ _ _ _ _ d_Rd_ahead_25 rfl hR.nar ⟨rfl, rfl⟩
  · have hp : p < n := by
      rw [hR.1, hR.2.1] at q8
      exact Nat.not_le.mp (fun q => q8 (nI_le q (by have := hR.2.2.1; have := hR.2.2.2.1; omega)))
    refine hB.aload_n d_Rd_ahead_11 rfl ?_
    refine hB.getC (Or.inl fa_Rd_9) d_Rd_ahead_12 (by decide) sK_1 rfl ?_
    refine hB.aload_n d_Rd_ahead_15 rfl ?_
    refine hB.getI (Or.inl fa_Rd_19) d_Rd_ahead_16 (by decide) sK_1 rfl ?_
    refine hB.cald d_Rd_ahead_19 (by decide) sK_2 hR.2.1 (by have := hR.2.2.1; omega) (by decide) ?_
    refine hB.goto d_Rd_ahead_20 (tgt := 25) rfl ?_
    have e0 : pA (z.1 2) n p = z.1 2 p := pA_in hp
    rw [← e0]
    exact hE.1 _ _ _ _ _ d_Rd_ahead_25 rfl hR.nar ⟨rfl, rfl⟩
