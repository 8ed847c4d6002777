def bI (b : Bool) : Int32 := if b then 1 else 0
theorem bI_nar (b : Bool) : narrow .boolean (.int (bI b)) = .int (bI b) := by cases b <;> rfl
theorem bI_0 {b : Bool} (h : bI b = 0) : b = false := by
  cases b
  · rfl
  · exact absurd h (by decide)
theorem bI_1 {b : Bool} (h : ¬ bI b = 0) : b = true := by
  cases b
  · exact absurd rfl h
  · rfl
theorem fWi_b (a b c : Int32) : fWi a b c = bI (decide (b ≤ a) && decide (a ≤ c)) := by
  unfold fWi bI
  by_cases h1 : a < b
  · have h2 : ¬ b ≤ a := Int32.not_le.mpr h1
    simp [h1, h2]
  · have h2 : b ≤ a := Int32.not_lt.mp h1
    by_cases h3 : c < a
    · have h4 : ¬ a ≤ c := Int32.not_le.mpr h3
      simp [h1, h3, h4]
    · have h4 : a ≤ c := Int32.not_lt.mp h3
      simp [h1, h2, h3, h4]
theorem fWi_01 (a b c : Int32) : fWi a b c = 0 ∨ fWi a b c = 1 := by
  unfold fWi
  split
  · exact Or.inl rfl
  · split
    · exact Or.inl rfl
    · exact Or.inr rfl
theorem pDg_f (c : Int32) : bI (pDg c) = fWi c 48 57 := (fWi_b c 48 57).symm
theorem pKd_f (c : Int32) : bI (pKd c) = if c = 42 then 1 else fWi c 65 70 := by
  rw [fWi_b]
  unfold pKd
  by_cases h : c = 42 <;> simp [h, bI]
theorem pTs_f (c : Int32) : bI (pTs c) = if c = 60 then 1 else if c = 61 then 1 else if c = 62 then 1 else 0 := by
  unfold pTs bI
  by_cases h : c = 60
  · simp [h]
  · by_cases h2 : c = 61
    · simp [h2]
    · by_cases h3 : c = 62 <;> simp [h, h2, h3]
theorem rdA.adv {z : sT} {n p : Nat} (h : rdA z n p) (hp : p < n) : rdA (sI z 1 2 (nI (p + 1))) n (p + 1) := by
  obtain ⟨h1, h2, h3, h4, h5⟩ := h
  exact ⟨by simp [sI, h1], by simp [sI], h3, by omega, fun i hi => by simpa [sI] using h5 i hi⟩
theorem pA_lt {tx : Nat → Int32} {n p : Nat} (h : ¬ pA tx n p = 32) : p < n := by
  rcases Nat.lt_or_ge p n with h1 | h1
  · exact h1
  · exact absurd (pA_out h1) h
set_option maxRecDepth 100000 in
set_option maxHeartbeats 4000000 in
theorem k_Rd_passes (l : Launch) (g : mG) (ad : Nat → Nat) (z : sT) (n p : Nat) (hR : rdA z n p) (c : Int32) : sC l y_Rd_passes c_Rd_passes 2 (some .boolean) 1 g ad [.ref (ad 1), .int c] z (fun r w => r = some (.int (bI (decide ((pA (z.1 2) n p) = c)))) ∧ w = (if (pA (z.1 2) n p) = c then sI z 1 2 (nI (p + 1)) else z)) := by
  refine sC.intro (own := R_Rd) rfl (by decide) (by decide) (by simp [Value.category]) (Nat.le_of_ble_eq_true rfl) (fun K hB hE => ?_)
  show K 0 [some (.ref (ad 1)), some (.int c)] [] z
  refine hB.aload_n d_Rd_passes_0 rfl ?_
  refine hB.callV lk_Rd_52 cd_Rd_ahead (k_Rd_ahead l g ad z n p hR) rfl (by decide) sK_1 d_Rd_passes_1 rfl rfl (by decide) (by simp [Value.category]) ?_
  rintro _ w9 ⟨rfl, hw9⟩
  have hw8 := hw9.symm
  clear hw9
  subst hw8
  refine hB.iload_n d_Rd_passes_4 rfl ?_
  refine hB.icmp_eq d_Rd_passes_5 (tgt := 10) rfl (fun q5 => ?_) (fun q5 => ?_)
  · refine hB.aload_n d_Rd_passes_10 rfl ?_
    refine hB.dup d_Rd_passes_11 rfl ?_
    refine hB.getI (Or.inl fa_Rd_19) d_Rd_passes_12 (by decide) sK_1 rfl ?_
    refine hB.iconst d_Rd_passes_15 (v := 1) rfl ?_
    refine hB.iadd d_Rd_passes_16 ?_
    refine hB.putI (Or.inl fa_Rd_19) d_Rd_passes_17 (by decide) sK_1 rfl rfl rfl ?_
    refine hB.iconst d_Rd_passes_20 (v := 1) rfl ?_
    exact hE.1 _ _ _ _ _ d_Rd_passes_21 rfl rfl ⟨by simp [bI, q5], by rw [if_pos q5, hR.2.1, nI_succ]⟩
  · refine hB.iconst d_Rd_passes_8 (v := 0) rfl ?_
    exact hE.1 _ _ _ _ _ d_Rd_passes_9 rfl rfl ⟨by simp [bI, q5], by simp [q5]⟩
set_option maxRecDepth 100000 in
set_option maxHeartbeats 4000000 in
theorem k_Rd_isKindAhead (l : Launch) (g : mG) (ad : Nat → Nat) (z : sT) (n p : Nat) (hR : rdA z n p) : sC l y_Rd_isKindAhead c_Rd_isKindAhead 1 (some .boolean) 1 g ad [.ref (ad 1)] z (fun r w => r = some (.int (bI (pKd (pA (z.1 2) n p)))) ∧ w = z) := by
  refine sC.intro (own := R_Rd) rfl (by decide) (by decide) (by simp [Value.category]) (Nat.le_of_ble_eq_true rfl) (fun K hB hE => ?_)
  show K 0 [some (.ref (ad 1))] [] z
  refine hB.aload_n d_Rd_isKindAhead_0 rfl ?_
  refine hB.callV lk_Rd_52 cd_Rd_ahead (k_Rd_ahead l g ad z n p hR) rfl (by decide) sK_1 d_Rd_isKindAhead_1 rfl rfl (by decide) (by simp [Value.category]) ?_
  rintro _ w9 ⟨rfl, hw9⟩
  have hw8 := hw9.symm
  clear hw9
  subst hw8
  refine hB.bipush d_Rd_isKindAhead_4 (v := 42) rfl ?_
  refine hB.icmp_eq d_Rd_isKindAhead_6 (tgt := 19) rfl (fun q6 => ?_) (fun q6 => ?_)
  · refine hB.iconst d_Rd_isKindAhead_19 (v := 1) rfl ?_
    refine hB.goto d_Rd_isKindAhead_20 (tgt := 24) rfl ?_
    exact hE.1 _ _ _ _ _ d_Rd_isKindAhead_24 rfl rfl ⟨by rw [pKd_f]; first | (simp [*]; done) | (have h9 := (fWi_01 (pA (z.1 2) n p) 65 70).resolve_left q16; simp [*]), rfl⟩
  · refine hB.aload_n d_Rd_isKindAhead_9 rfl ?_
    refine hB.callV lk_Rd_52 cd_Rd_ahead (k_Rd_ahead l g ad z n p hR) rfl (by decide) sK_1 d_Rd_isKindAhead_10 rfl rfl (by decide) (by simp [Value.category]) ?_
    rintro _ w9 ⟨rfl, hw9⟩
    have hw8 := hw9.symm
    clear hw9
    subst hw8
    refine hB.callSN lk_Rd_102 cd_Pw_isLetter (k_Pw_isLetter l g ad z (pA (z.1 2) n p)) d_Rd_isKindAhead_13 rfl rfl (by decide) (by simp [Value.category]) ?_
    rintro _ w9 ⟨rfl, hw9⟩
    have hw8 := hw9.symm
    clear hw9
    subst hw8
    refine hB.if_eq d_Rd_isKindAhead_16 (tgt := 23) rfl (fun q16 => ?_) (fun q16 => ?_)
    · refine hB.iconst d_Rd_isKindAhead_23 (v := 0) rfl ?_
      exact hE.1 _ _ _ _ _ d_Rd_isKindAhead_24 rfl rfl ⟨by rw [pKd_f]; first | (simp [*]; done) | (have h9 := (fWi_01 (pA (z.1 2) n p) 65 70).resolve_left q16; simp [*]), rfl⟩
    · refine hB.iconst d_Rd_isKindAhead_19 (v := 1) rfl ?_
      refine hB.goto d_Rd_isKindAhead_20 (tgt := 24) rfl ?_
      exact hE.1 _ _ _ _ _ d_Rd_isKindAhead_24 rfl rfl ⟨by rw [pKd_f]; first | (simp [*]; done) | (have h9 := (fWi_01 (pA (z.1 2) n p) 65 70).resolve_left q16; simp [*]), rfl⟩
set_option maxRecDepth 100000 in
set_option maxHeartbeats 4000000 in
theorem k_Rd_isElementAhead (l : Launch) (g : mG) (ad : Nat → Nat) (z : sT) (n p : Nat) (hR : rdA z n p) : sC l y_Rd_isElementAhead c_Rd_isElementAhead 1 (some .boolean) 2 g ad [.ref (ad 1)] z (fun r w => r = some (.int (bI (decide ((pA (z.1 2) n p) = 33) || pKd (pA (z.1 2) n p)))) ∧ w = z) := by
  refine sC.intro (own := R_Rd) rfl (by decide) (by decide) (by simp [Value.category]) (Nat.le_of_ble_eq_true rfl) (fun K hB hE => ?_)
  show K 0 [some (.ref (ad 1))] [] z
  refine hB.aload_n d_Rd_isElementAhead_0 rfl ?_
  refine hB.callV lk_Rd_52 cd_Rd_ahead (k_Rd_ahead l g ad z n p hR) rfl (by decide) sK_1 d_Rd_isElementAhead_1 rfl rfl (by decide) (by simp [Value.category]) ?_
  rintro _ w9 ⟨rfl, hw9⟩
  have hw8 := hw9.symm
  clear hw9
  subst hw8
  refine hB.bipush d_Rd_isElementAhead_4 (v := 33) rfl ?_
  refine hB.icmp_eq d_Rd_isElementAhead_6 (tgt := 16) rfl (fun q6 => ?_) (fun q6 => ?_)
  · refine hB.iconst d_Rd_isElementAhead_16 (v := 1) rfl ?_
    refine hB.goto d_Rd_isElementAhead_17 (tgt := 21) rfl ?_
    exact hE.1 _ _ _ _ _ d_Rd_isElementAhead_21 rfl rfl ⟨by first | (simp [bI, q6]; done) | (have h9 := bI_0 q13; simp [bI, h9, q6]; done) | (have h9 := bI_1 q13; simp [bI, h9]), rfl⟩
  · refine hB.aload_n d_Rd_isElementAhead_9 rfl ?_
    refine hB.callV lk_Rd_60 cd_Rd_isKindAhead (k_Rd_isKindAhead l g ad z n p hR) rfl (by decide) sK_1 d_Rd_isElementAhead_10 rfl rfl (by decide) (by simp [Value.category]) ?_
    rintro _ w9 ⟨rfl, hw9⟩
    have hw8 := hw9.symm
    clear hw9
    subst hw8
    refine hB.if_eq d_Rd_isElementAhead_13 (tgt := 20) rfl (fun q13 => ?_) (fun q13 => ?_)
    · refine hB.iconst d_Rd_isElementAhead_20 (v := 0) rfl ?_
      exact hE.1 _ _ _ _ _ d_Rd_isElementAhead_21 rfl rfl ⟨by first | (simp [bI, q6]; done) | (have h9 := bI_0 q13; simp [bI, h9, q6]; done) | (have h9 := bI_1 q13; simp [bI, h9]), rfl⟩
    · refine hB.iconst d_Rd_isElementAhead_16 (v := 1) rfl ?_
      refine hB.goto d_Rd_isElementAhead_17 (tgt := 21) rfl ?_
      exact hE.1 _ _ _ _ _ d_Rd_isElementAhead_21 rfl rfl ⟨by first | (simp [bI, q6]; done) | (have h9 := bI_0 q13; simp [bI, h9, q6]; done) | (have h9 := bI_1 q13; simp [bI, h9]), rfl⟩
set_option maxRecDepth 100000 in
set_option maxHeartbeats 4000000 in
theorem k_Rd_isTestAhead (l : Launch) (g : mG) (ad : Nat → Nat) (z : sT) (n p : Nat) (hR : rdA z n p) : sC l y_Rd_isTestAhead c_Rd_isTestAhead 1 (some .boolean) 1 g ad [.ref (ad 1)] z (fun r w => r = some (.int (bI (pTs (pA (z.1 2) n p)))) ∧ w = z) := by
  refine sC.intro (own := R_Rd) rfl (by decide) (by decide) (by simp [Value.category]) (Nat.le_of_ble_eq_true rfl) (fun K hB hE => ?_)
  show K 0 [some (.ref (ad 1))] [] z
  refine hB.aload_n d_Rd_isTestAhead_0 rfl ?_
  refine hB.callV lk_Rd_52 cd_Rd_ahead (k_Rd_ahead l g ad z n p hR) rfl (by decide) sK_1 d_Rd_isTestAhead_1 rfl rfl (by decide) (by simp [Value.category]) ?_
  rintro _ w9 ⟨rfl, hw9⟩
  have hw8 := hw9.symm
  clear hw9
  subst hw8
  refine hB.bipush d_Rd_isTestAhead_4 (v := 60) rfl ?_
  refine hB.icmp_eq d_Rd_isTestAhead_6 (tgt := 27) rfl (fun q6 => ?_) (fun q6 => ?_)
  · refine hB.iconst d_Rd_isTestAhead_27 (v := 1) rfl ?_
    refine hB.goto d_Rd_isTestAhead_28 (tgt := 32) rfl ?_
    exact hE.1 _ _ _ _ _ d_Rd_isTestAhead_32 rfl rfl ⟨by rw [pTs_f]; simp [*], rfl⟩
  · refine hB.aload_n d_Rd_isTestAhead_9 rfl ?_
    refine hB.callV lk_Rd_52 cd_Rd_ahead (k_Rd_ahead l g ad z n p hR) rfl (by decide) sK_1 d_Rd_isTestAhead_10 rfl rfl (by decide) (by simp [Value.category]) ?_
    rintro _ w9 ⟨rfl, hw9⟩
    have hw8 := hw9.symm
    clear hw9
    subst hw8
    refine hB.bipush d_Rd_isTestAhead_13 (v := 61) rfl ?_
    refine hB.icmp_eq d_Rd_isTestAhead_15 (tgt := 27) rfl (fun q15 => ?_) (fun q15 => ?_)
    · refine hB.iconst d_Rd_isTestAhead_27 (v := 1) rfl ?_
      refine hB.goto d_Rd_isTestAhead_28 (tgt := 32) rfl ?_
      exact hE.1 _ _ _ _ _ d_Rd_isTestAhead_32 rfl rfl ⟨by rw [pTs_f]; simp [*], rfl⟩
    · refine hB.aload_n d_Rd_isTestAhead_18 rfl ?_
      refine hB.callV lk_Rd_52 cd_Rd_ahead (k_Rd_ahead l g ad z n p hR) rfl (by decide) sK_1 d_Rd_isTestAhead_19 rfl rfl (by decide) (by simp [Value.category]) ?_
      rintro _ w9 ⟨rfl, hw9⟩
      have hw8 := hw9.symm
      clear hw9
      subst hw8
      refine hB.bipush d_Rd_isTestAhead_22 (v := 62) rfl ?_
      refine hB.icmp_ne d_Rd_isTestAhead_24 (tgt := 31) rfl (fun q24 => ?_) (fun q24 => ?_)
      · refine hB.iconst d_Rd_isTestAhead_31 (v := 0) rfl ?_
        exact hE.1 _ _ _ _ _ d_Rd_isTestAhead_32 rfl rfl ⟨by rw [pTs_f]; simp [*], rfl⟩
      · refine hB.iconst d_Rd_isTestAhead_27 (v := 1) rfl ?_
        refine hB.goto d_Rd_isTestAhead_28 (tgt := 32) rfl ?_
        exact hE.1 _ _ _ _ _ d_Rd_isTestAhead_32 rfl rfl ⟨by rw [pTs_f]; simp [*], rfl⟩
set_option maxRecDepth 100000 in
set_option maxHeartbeats 4000000 in
theorem k_Rd_isDigitAhead (l : Launch) (g : mG) (ad : Nat → Nat) (z : sT) (n p : Nat) (hR : rdA z n p) : sC l y_Rd_isDigitAhead c_Rd_isDigitAhead 1 (some .boolean) 1 g ad [.ref (ad 1)] z (fun r w => r = some (.int (bI (pDg (pA (z.1 2) n p)))) ∧ w = z) := by
  refine sC.intro (own := R_Rd) rfl (by decide) (by decide) (by simp [Value.category]) (Nat.le_of_ble_eq_true rfl) (fun K hB hE => ?_)
  show K 0 [some (.ref (ad 1))] [] z
  refine hB.aload_n d_Rd_isDigitAhead_0 rfl ?_
  refine hB.callV lk_Rd_52 cd_Rd_ahead (k_Rd_ahead l g ad z n p hR) rfl (by decide) sK_1 d_Rd_isDigitAhead_1 rfl rfl (by decide) (by simp [Value.category]) ?_
  rintro _ w9 ⟨rfl, hw9⟩
  have hw8 := hw9.symm
  clear hw9
  subst hw8
  refine hB.bipush d_Rd_isDigitAhead_4 (v := 48) rfl ?_
  refine hB.icmp_lt d_Rd_isDigitAhead_6 (tgt := 22) rfl (fun q6 => ?_) (fun q6 => ?_)
  · refine hB.iconst d_Rd_isDigitAhead_22 (v := 0) rfl ?_
    exact hE.1 _ _ _ _ _ d_Rd_isDigitAhead_23 rfl rfl ⟨by rw [pDg_f]; unfold fWi; simp [*], rfl⟩
  · refine hB.aload_n d_Rd_isDigitAhead_9 rfl ?_
    refine hB.callV lk_Rd_52 cd_Rd_ahead (k_Rd_ahead l g ad z n p hR) rfl (by decide) sK_1 d_Rd_isDigitAhead_10 rfl rfl (by decide) (by simp [Value.category]) ?_
    rintro _ w9 ⟨rfl, hw9⟩
    have hw8 := hw9.symm
    clear hw9
    subst hw8
    refine hB.bipush d_Rd_isDigitAhead_13 (v := 57) rfl ?_
    refine hB.icmp_gt d_Rd_isDigitAhead_15 (tgt := 22) rfl (fun q15 => ?_) (fun q15 => ?_)
    · refine hB.iconst d_Rd_isDigitAhead_22 (v := 0) rfl ?_
      exact hE.1 _ _ _ _ _ d_Rd_isDigitAhead_23 rfl rfl ⟨by rw [pDg_f]; unfold fWi; simp [*], rfl⟩
    · refine hB.iconst d_Rd_isDigitAhead_18 (v := 1) rfl ?_
      refine hB.goto d_Rd_isDigitAhead_19 (tgt := 23) rfl ?_
      exact hE.1 _ _ _ _ _ d_Rd_isDigitAhead_23 rfl rfl ⟨by rw [pDg_f]; unfold fWi; simp [*], rfl⟩
set_option maxRecDepth 100000 in
set_option maxHeartbeats 4000000 in
theorem k_Rd_empty (l : Launch) (g : mG) (ad : Nat → Nat) (z : sT)  : sC l y_Rd_empty c_Rd_empty 1 none 0 g ad [.ref (ad 1)] z (fun r w => r = none ∧ w = sI z 1 1 0) := by
  refine sC.intro (own := R_Rd) rfl (by decide) (by decide) (by simp [Value.category]) (Nat.le_of_ble_eq_true rfl) (fun K hB hE => ?_)
  show K 0 [some (.ref (ad 1))] [] z
  refine hB.aload_n d_Rd_empty_0 rfl ?_
  refine hB.iconst d_Rd_empty_1 (v := 0) rfl ?_
  refine hB.putI (Or.inl fa_Rd_15) d_Rd_empty_2 (by decide) sK_1 rfl rfl rfl ?_
  exact hE.2.2 _ _ _ d_Rd_empty_5 rfl ⟨rfl, rfl⟩
set_option maxRecDepth 100000 in
set_option maxHeartbeats 4000000 in
theorem k_Rd_put (l : Launch) (g : mG) (ad : Nat → Nat) (z : sT) (n q : Nat) (hn : z.1 1 1 = nI n) (hn4 : n ≤ 40) (hq : q < 65536) : sC l y_Rd_put c_Rd_put 2 (some .boolean) 0 g ad [.ref (ad 1), .int (nI q)] z (fun r w => r = some (.int (bI (decide (33 ≤ q ∧ q ≤ 126 ∧ n < 40)))) ∧ w = (if 33 ≤ q ∧ q ≤ 126 ∧ n < 40 then sI (sI z 2 n (nI q)) 1 1 (nI (n + 1)) else z)) := by
  refine sC.intro (own := R_Rd) rfl (by decide) (by decide) (by simp [Value.category]) (Nat.le_of_ble_eq_true rfl) (fun K hB hE => ?_)
  show K 0 [some (.ref (ad 1)), some (.int (nI q))] [] z
  refine hB.iload_n d_Rd_put_0 rfl ?_
  refine hB.bipush d_Rd_put_1 (v := 33) rfl ?_
  refine hB.icmp_lt d_Rd_put_3 (tgt := 21) rfl (fun q3 => ?_) (fun q3 => ?_)
  · refine hB.iconst d_Rd_put_21 (v := 0) rfl ?_
    exact hE.1 _ _ _ _ _ d_Rd_put_22 rfl rfl (by
      have hno : ¬ (33 ≤ q ∧ q ≤ 126 ∧ n < 40) := by
        rintro ⟨a1, a2, a3⟩
        first
          | exact absurd q3 (nI_nlt (a := q) (b := 33) a1 (by omega))
          | exact absurd q9 (nI_nlt (a := 126) (b := q) a2 (by omega))
          | (rw [hn] at q18; exact q18 (nI_lt (a := n) (b := 40) a3 (by omega)))
      exact ⟨by simp [bI, hno], by rw [if_neg hno]⟩)
  · have h3 : 33 ≤ q := by
      have := mt (nI_ltI (a := q) (b := 33) (by omega) (by omega)).mpr q3
      omega
    refine hB.iload_n d_Rd_put_6 rfl ?_
    refine hB.bipush d_Rd_put_7 (v := 126) rfl ?_
    refine hB.icmp_gt d_Rd_put_9 (tgt := 21) rfl (fun q9 => ?_) (fun q9 => ?_)
    · refine hB.iconst d_Rd_put_21 (v := 0) rfl ?_
      exact hE.1 _ _ _ _ _ d_Rd_put_22 rfl rfl (by
      have hno : ¬ (33 ≤ q ∧ q ≤ 126 ∧ n < 40) := by
        rintro ⟨a1, a2, a3⟩
        first
          | exact absurd q3 (nI_nlt (a := q) (b := 33) a1 (by omega))
          | exact absurd q9 (nI_nlt (a := 126) (b := q) a2 (by omega))
          | (rw [hn] at q18; exact q18 (nI_lt (a := n) (b := 40) a3 (by omega)))
      exact ⟨by simp [bI, hno], by rw [if_neg hno]⟩)
    · have h9 : q ≤ 126 := by
        have := mt (nI_ltI (a := 126) (b := q) (by omega) (by omega)).mpr q9
        omega
      refine hB.aload_n d_Rd_put_12 rfl ?_
      refine hB.getI (Or.inl fa_Rd_15) d_Rd_put_13 (by decide) sK_1 rfl ?_
      refine hB.bipush d_Rd_put_16 (v := 40) rfl ?_
      refine hB.icmp_lt d_Rd_put_18 (tgt := 23) rfl (fun q18 => ?_) (fun q18 => ?_)
      · have h18 : n < 40 := by
          rw [hn] at q18
          exact (nI_ltI (a := n) (b := 40) (by omega) (by omega)).mp q18
        have hok : 33 ≤ q ∧ q ≤ 126 ∧ n < 40 := ⟨h3, h9, h18⟩
        refine hB.aload_n d_Rd_put_23 rfl ?_
        refine hB.getC (Or.inl fa_Rd_9) d_Rd_put_24 (by decide) sK_1 rfl ?_
        refine hB.aload_n d_Rd_put_27 rfl ?_
        refine hB.getI (Or.inl fa_Rd_15) d_Rd_put_28 (by decide) sK_1 rfl ?_
        refine hB.iload_n d_Rd_put_31 rfl ?_
        refine hB.cast d_Rd_put_32 (by decide) sK_2 hn (by omega) (by decide) (by have h7 := (pk_charN hq).1; simp [vp_nar, h7]) ?_
        refine hB.aload_n d_Rd_put_33 rfl ?_
        refine hB.dup d_Rd_put_34 rfl ?_
        refine hB.getI (Or.inl fa_Rd_15) d_Rd_put_35 (by decide) sK_1 rfl ?_
        refine hB.iconst d_Rd_put_38 (v := 1) rfl ?_
        refine hB.iadd d_Rd_put_39 ?_
        refine hB.putI (Or.inl fa_Rd_15) d_Rd_put_40 (by decide) sK_1 rfl rfl rfl ?_
        refine hB.iconst d_Rd_put_43 (v := 1) rfl ?_
        exact hE.1 _ _ _ _ _ d_Rd_put_44 rfl rfl ⟨by simp [bI, hok], by rw [if_pos hok]; have e1 : (sI z 2 n (nI q)).1 1 1 = nI n := (by simpa [sI] using hn); rw [e1, nI_succ]⟩
      · refine hB.iconst d_Rd_put_21 (v := 0) rfl ?_
        exact hE.1 _ _ _ _ _ d_Rd_put_22 rfl rfl (by
      have hno : ¬ (33 ≤ q ∧ q ≤ 126 ∧ n < 40) := by
        rintro ⟨a1, a2, a3⟩
        first
          | exact absurd q3 (nI_nlt (a := q) (b := 33) a1 (by omega))
          | exact absurd q9 (nI_nlt (a := 126) (b := q) a2 (by omega))
          | (rw [hn] at q18; exact q18 (nI_lt (a := n) (b := 40) a3 (by omega)))
      exact ⟨by simp [bI, hno], by rw [if_neg hno]⟩)
