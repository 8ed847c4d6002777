theorem bI_vp (b : Bool) : vp_nar .boolean (bI b) = bI b := by cases b <;> rfl
theorem vp_char {q : Nat} (hq : q < 65536) : vp_nar .char (nI q) = nI q := by
  have h := (pk_charN hq).1
  have h2 : narrow .char (.int (nI q)) = .int (vp_nar .char (nI q)) := rfl
  rw [h2] at h
  injection h
def sBg (z : sT) (k : Nat) (x b : Int32) : sT := sI (sI (sI (sI (sI (sI (sI z 126 5 (nI (k + 1))) 128 (8 + k) x) 129 (8 + k) b) 130 (8 + k) 0) 131 (8 + k) 0) 132 (8 + k) 0) 133 (8 + k) 0
set_option maxRecDepth 100000 in
set_option maxHeartbeats 4000000 in
theorem k_Md_thrown (l : Launch) (g : mG) (ad : Nat → Nat) (z : sT)  : sC l y_Md_thrown c_Md_thrown 1 (some .int) 0 g ad [.ref (ad 126)] z (fun r w => r = some (.int (z.1 126 0)) ∧ w = z) := by
  refine sC.intro (own := R_Md) rfl (by decide) (by decide) (by simp [Value.category]) (Nat.le_of_ble_eq_true rfl) (fun K hB hE => ?_)
  show K 0 [some (.ref (ad 126))] [] z
  refine hB.aload_n d_Md_thrown_0 rfl ?_
  refine hB.getI (Or.inl fa_Md_67) d_Md_thrown_1 (by decide) sK_126 rfl ?_
  exact hE.1 _ _ _ _ _ d_Md_thrown_4 rfl rfl ⟨rfl, rfl⟩
set_option maxRecDepth 100000 in
set_option maxHeartbeats 4000000 in
theorem k_Md_wipe (l : Launch) (g : mG) (ad : Nat → Nat) (z : sT)  : sC l y_Md_wipe c_Md_wipe 1 none 0 g ad [.ref (ad 126)] z (fun r w => r = none ∧ w = sI (sI z 126 0 0) 126 1 0) := by
  refine sC.intro (own := R_Md) rfl (by decide) (by decide) (by simp [Value.category]) (Nat.le_of_ble_eq_true rfl) (fun K hB hE => ?_)
  show K 0 [some (.ref (ad 126))] [] z
  refine hB.aload_n d_Md_wipe_0 rfl ?_
  refine hB.iconst d_Md_wipe_1 (v := 0) rfl ?_
  refine hB.putI (Or.inl fa_Md_67) d_Md_wipe_2 (by decide) sK_126 rfl rfl rfl ?_
  refine hB.aload_n d_Md_wipe_5 rfl ?_
  refine hB.iconst d_Md_wipe_6 (v := 0) rfl ?_
  refine hB.putI (Or.inl fa_Md_70) d_Md_wipe_7 (by decide) sK_126 rfl rfl rfl ?_
  exact hE.2.2 _ _ _ d_Md_wipe_10 rfl ⟨rfl, rfl⟩
set_option maxRecDepth 100000 in
set_option maxHeartbeats 4000000 in
theorem k_Md_type (l : Launch) (g : mG) (ad : Nat → Nat) (z : sT) (n q : Nat) (hn : z.1 126 1 = nI n) (hn4 : n ≤ 40) (hq : q < 65536) : sC l y_Md_type c_Md_type 2 (some .boolean) 0 g ad [.ref (ad 126), .int (nI q)] z (fun r w => r = some (.int (bI (decide (33 ≤ q ∧ q ≤ 126 ∧ n < 40)))) ∧ w = (if 33 ≤ q ∧ q ≤ 126 ∧ n < 40 then sI (sI (sI z 126 0 0) 127 n (nI q)) 126 1 (nI (n + 1)) else sI z 126 0 0)) := by
  refine sC.intro (own := R_Md) rfl (by decide) (by decide) (by simp [Value.category]) (Nat.le_of_ble_eq_true rfl) (fun K hB hE => ?_)
  show K 0 [some (.ref (ad 126)), some (.int (nI q))] [] z
  have e1 : (sI z 126 0 0).1 126 1 = nI n := by simp [sI]; exact hn
  refine hB.aload_n d_Md_type_0 rfl ?_
  refine hB.iconst d_Md_type_1 (v := 0) rfl ?_
  refine hB.putI (Or.inl fa_Md_67) d_Md_type_2 (by decide) sK_126 rfl rfl rfl ?_
  refine hB.iload_n d_Md_type_5 rfl ?_
  refine hB.bipush d_Md_type_6 (v := 33) rfl ?_
  refine hB.icmp_lt d_Md_type_8 (tgt := 26) rfl (fun q8 => ?_) (fun q8 => ?_)
  · have hc : ¬ (33 ≤ q ∧ q ≤ 126 ∧ n < 40) := fun hc => nI_nlt (a := q) (b := 33) hc.1 (by omega) q8
    refine hB.iconst d_Md_type_26 (v := 0) rfl ?_
    exact hE.1 _ _ _ _ _ d_Md_type_27 rfl rfl ⟨by simp [hc, bI], by rw [if_neg hc]⟩
  · have h33 : 33 ≤ q := by
      have := mt (nI_lt (a := q) (b := 33) · (by decide)) q8
      omega
    refine hB.iload_n d_Md_type_11 rfl ?_
    refine hB.bipush d_Md_type_12 (v := 126) rfl ?_
    refine hB.icmp_gt d_Md_type_14 (tgt := 26) rfl (fun q14 => ?_) (fun q14 => ?_)
    · have hc : ¬ (33 ≤ q ∧ q ≤ 126 ∧ n < 40) := fun hc => nI_nlt (a := 126) (b := q) hc.2.1 (by decide) q14
      refine hB.iconst d_Md_type_26 (v := 0) rfl ?_
      exact hE.1 _ _ _ _ _ d_Md_type_27 rfl rfl ⟨by simp [hc, bI], by rw [if_neg hc]⟩
    · have h126 : q ≤ 126 := by
        have := mt (nI_lt (a := 126) (b := q) · (by omega)) q14
        omega
      refine hB.aload_n d_Md_type_17 rfl ?_
      refine hB.getI (Or.inl fa_Md_70) d_Md_type_18 (by decide) sK_126 rfl ?_
      refine hB.bipush d_Md_type_21 (v := 40) rfl ?_
      refine hB.icmp_ne d_Md_type_23 (tgt := 28) rfl (fun q23 => ?_) (fun q23 => ?_)
      · have hn40 : n < 40 := by
          rcases Nat.lt_or_ge n 40 with hl | hl
          · exact hl
          · exact absurd (by rw [e1, show n = 40 by omega]; rfl) q23
        have hc : 33 ≤ q ∧ q ≤ 126 ∧ n < 40 := ⟨h33, h126, hn40⟩
        refine hB.aload_n d_Md_type_28 rfl ?_
        refine hB.getC (Or.inl fa_Md_7) d_Md_type_29 (by decide) sK_126 rfl ?_
        refine hB.aload_n d_Md_type_32 rfl ?_
        refine hB.getI (Or.inl fa_Md_70) d_Md_type_33 (by decide) sK_126 rfl ?_
        refine hB.iload_n d_Md_type_36 rfl ?_
        refine hB.cast d_Md_type_37 (by decide) rfl e1 (by omega) (by decide) (vp_char hq) ?_
        refine hB.aload_n d_Md_type_38 rfl ?_
        refine hB.dup d_Md_type_39 rfl ?_
        refine hB.getI (Or.inl fa_Md_70) d_Md_type_40 (by decide) sK_126 rfl ?_
        have e2 : (sI (sI z 126 0 0) 127 n (nI q)).1 126 1 = nI n := by rw [sI_row (by omega)]; exact e1
        rw [e2]
        refine hB.iconst d_Md_type_43 (v := 1) rfl ?_
        refine hB.iadd d_Md_type_44 ?_
        rw [← nI_succ]
        refine hB.putI (Or.inl fa_Md_70) d_Md_type_45 (by decide) sK_126 rfl rfl rfl ?_
        refine hB.iconst d_Md_type_48 (v := 1) rfl ?_
        exact hE.1 _ _ _ _ _ d_Md_type_49 rfl rfl ⟨by rw [decide_eq_true hc]; rfl, by rw [if_pos hc]⟩
      · have hn40 : n = 40 := by
          rw [e1] at q23
          exact (nI_eq (a := n) (b := 40) (by omega) (by decide)).mp q23
        have hc : ¬ (33 ≤ q ∧ q ≤ 126 ∧ n < 40) := fun hc => by omega
        refine hB.iconst d_Md_type_26 (v := 0) rfl ?_
        exact hE.1 _ _ _ _ _ d_Md_type_27 rfl rfl ⟨by simp [hc, bI], by rw [if_neg hc]⟩
set_option maxRecDepth 100000 in
set_option maxHeartbeats 4000000 in
theorem k_Md_digit (l : Launch) (g : mG) (ad : Nat → Nat) (z : sT) (x : Int32) : sC l y_Md_digit c_Md_digit 1 (some .boolean) 0 g ad [.int x] z (fun r w => r = some (.int (bI (pDg x))) ∧ w = z) := by
  refine sC.intro (own := R_Md) rfl (by decide) (by decide) (by simp [Value.category]) (Nat.le_of_ble_eq_true rfl) (fun K hB hE => ?_)
  show K 0 [some (.int x)] [] z
  refine hB.iload_n d_Md_digit_0 rfl ?_
  refine hB.bipush d_Md_digit_1 (v := 48) rfl ?_
  refine hB.icmp_lt d_Md_digit_3 (tgt := 16) rfl (fun q3 => ?_) (fun q3 => ?_)
  · refine hB.iconst d_Md_digit_16 (v := 0) rfl ?_
    exact hE.1 _ _ _ _ _ d_Md_digit_17 rfl rfl ⟨by
          first
            | (have h9 := Int32.not_le.mpr q3; simp [pDg, bI, h9]; done)
            | (have h8 := Int32.not_lt.mp q3; have h9 := Int32.not_le.mpr q9; simp [pDg, bI, h9]; done)
            | (have h8 := Int32.not_lt.mp q3; have h9 := Int32.not_lt.mp q9; simp [pDg, bI, h8, h9]), rfl⟩
  · refine hB.iload_n d_Md_digit_6 rfl ?_
    refine hB.bipush d_Md_digit_7 (v := 57) rfl ?_
    refine hB.icmp_gt d_Md_digit_9 (tgt := 16) rfl (fun q9 => ?_) (fun q9 => ?_)
    · refine hB.iconst d_Md_digit_16 (v := 0) rfl ?_
      exact hE.1 _ _ _ _ _ d_Md_digit_17 rfl rfl ⟨by
          first
            | (have h9 := Int32.not_le.mpr q3; simp [pDg, bI, h9]; done)
            | (have h8 := Int32.not_lt.mp q3; have h9 := Int32.not_le.mpr q9; simp [pDg, bI, h9]; done)
            | (have h8 := Int32.not_lt.mp q3; have h9 := Int32.not_lt.mp q9; simp [pDg, bI, h8, h9]), rfl⟩
    · refine hB.iconst d_Md_digit_12 (v := 1) rfl ?_
      refine hB.goto d_Md_digit_13 (tgt := 17) rfl ?_
      exact hE.1 _ _ _ _ _ d_Md_digit_17 rfl rfl ⟨by
          first
            | (have h9 := Int32.not_le.mpr q3; simp [pDg, bI, h9]; done)
            | (have h8 := Int32.not_lt.mp q3; have h9 := Int32.not_le.mpr q9; simp [pDg, bI, h9]; done)
            | (have h8 := Int32.not_lt.mp q3; have h9 := Int32.not_lt.mp q9; simp [pDg, bI, h8, h9]), rfl⟩
set_option maxRecDepth 100000 in
set_option maxHeartbeats 4000000 in
theorem k_Md_begin (l : Launch) (g : mG) (ad : Nat → Nat) (z : sT) (k : Nat) (hk : z.1 126 5 = nI k) (hk8 : k < 8) (q : Nat) (hq : q < 65536) (b : Bool) : sC l y_Md_begin c_Md_begin 5 (some .int) 0 g ad [.ref (ad 126), .int (nI q), .int (bI b)] z (fun r w => (pKd (nI q) = true → r = some (.int 2) ∧ w = sBg z k (nI q) (bI b)) ∧ (pKd (nI q) = false → r = some (.int 0) ∧ w = z)) := by
  refine sC.intro (own := R_Md) rfl (by decide) (by decide) (by simp [Value.category]) (Nat.le_of_ble_eq_true rfl) (fun K hB hE => ?_)
  show K 0 [some (.ref (ad 126)), some (.int (nI q)), some (.int (bI b)), none, none] [] z
  have h23 : ∀ v : Bool, pKd (nI q) = v → K 23 [some (.ref (ad 126)), some (.int (nI q)), some (.int (bI b)), none, none] [.int (bI v)] z := by
    intro v hv
    refine hB.istore_n d_Md_begin_23 (Nat.le_of_ble_eq_true rfl) ?_
    refine hB.iload_n d_Md_begin_24 rfl ?_
    cases v
    · refine hB.if_ne d_Md_begin_25 (tgt := 30) rfl (fun q25 => absurd rfl q25) (fun q25 => ?_)
      refine hB.iconst d_Md_begin_28 (v := 0) rfl ?_
      exact hE.1 _ _ _ _ _ d_Md_begin_29 rfl rfl ⟨fun h => absurd (h.symm.trans hv) (by decide), fun _ => ⟨rfl, rfl⟩⟩
    · refine hB.if_ne d_Md_begin_25 (tgt := 30) rfl (fun q25 => ?_) (fun q25 => absurd q25 (by decide))
      refine hB.bipush d_Md_begin_30 (v := 8) rfl ?_
      refine hB.aload_n d_Md_begin_32 rfl ?_
      refine hB.getI (Or.inl fa_Md_73) d_Md_begin_33 (by decide) sK_126 rfl ?_
      refine hB.iadd d_Md_begin_36 ?_
      have ek : (8 : Int32) + z.1 126 5 = nI (8 + k) := by rw [hk]; exact nI_add 8 k
      rw [ek]
      refine hB.istore d_Md_begin_37 (Nat.le_of_ble_eq_true rfl) ?_
      refine hB.aload_n d_Md_begin_39 rfl ?_
      refine hB.dup d_Md_begin_40 rfl ?_
      refine hB.getI (Or.inl fa_Md_73) d_Md_begin_41 (by decide) sK_126 rfl ?_
      refine hB.iconst d_Md_begin_44 (v := 1) rfl ?_
      refine hB.iadd d_Md_begin_45 ?_
      rw [hk, ← nI_succ]
      refine hB.putI (Or.inl fa_Md_73) d_Md_begin_46 (by decide) sK_126 rfl rfl rfl ?_
      refine hB.aload_n d_Md_begin_49 rfl ?_
      refine hB.getC (Or.inl fa_Md_17) d_Md_begin_50 (by decide) sK_126 rfl ?_
      refine hB.iload d_Md_begin_53 rfl ?_
      refine hB.iload_n d_Md_begin_55 rfl ?_
      refine hB.cast d_Md_begin_56 (by decide) rfl rfl (by omega) (by decide) (vp_char hq) ?_
      refine hB.aload_n d_Md_begin_57 rfl ?_
      refine hB.getC (Or.inl fa_Md_20) d_Md_begin_58 (by decide) sK_126 rfl ?_
      refine hB.iload d_Md_begin_61 rfl ?_
      refine hB.iload_n d_Md_begin_63 rfl ?_
      refine hB.zast d_Md_begin_64 (by decide) rfl rfl (by omega) (by decide) (bI_vp b) ?_
      refine hB.aload_n d_Md_begin_65 rfl ?_
      refine hB.getC (Or.inl fa_Md_24) d_Md_begin_66 (by decide) sK_126 rfl ?_
      refine hB.iload d_Md_begin_69 rfl ?_
      refine hB.iconst d_Md_begin_71 (v := 0) rfl ?_
      refine hB.zast d_Md_begin_72 (by decide) rfl rfl (by omega) (by decide) rfl ?_
      refine hB.aload_n d_Md_begin_73 rfl ?_
      refine hB.getC (Or.inl fa_Md_27) d_Md_begin_74 (by decide) sK_126 rfl ?_
      refine hB.iload d_Md_begin_77 rfl ?_
      refine hB.iconst d_Md_begin_79 (v := 0) rfl ?_
      refine hB.iast d_Md_begin_80 (by decide) rfl rfl (by omega) (by decide) ?_
      refine hB.aload_n d_Md_begin_81 rfl ?_
      refine hB.getC (Or.inl fa_Md_31) d_Md_begin_82 (by decide) sK_126 rfl ?_
      refine hB.iload d_Md_begin_85 rfl ?_
      refine hB.iconst d_Md_begin_87 (v := 0) rfl ?_
      refine hB.zast d_Md_begin_88 (by decide) rfl rfl (by omega) (by decide) rfl ?_
      refine hB.aload_n d_Md_begin_89 rfl ?_
      refine hB.getC (Or.inl fa_Md_34) d_Md_begin_90 (by decide) sK_126 rfl ?_
      refine hB.iload d_Md_begin_93 rfl ?_
      refine hB.iconst d_Md_begin_95 (v := 0) rfl ?_
      refine hB.iast d_Md_begin_96 (by decide) rfl rfl (by omega) (by decide) ?_
      refine hB.iconst d_Md_begin_97 (v := 2) rfl ?_
      exact hE.1 _ _ _ _ _ d_Md_begin_98 rfl rfl ⟨fun _ => ⟨rfl, rfl⟩, fun h => absurd (h.symm.trans hv) (by decide)⟩
  refine hB.iload_n d_Md_begin_0 rfl ?_
  refine hB.bipush d_Md_begin_1 (v := 65) rfl ?_
  refine hB.icmp_lt d_Md_begin_3 (tgt := 12) rfl (fun q3 => ?_) (fun q3 => ?_)
  · refine hB.iload_n d_Md_begin_12 rfl ?_
    refine hB.bipush d_Md_begin_13 (v := 42) rfl ?_
    refine hB.icmp_ne d_Md_begin_15 (tgt := 22) rfl (fun q15 => ?_) (fun q15 => ?_)
    · refine hB.iconst d_Md_begin_22 (v := 0) rfl ?_
      first
        | (refine h23 true ?_; have h8 := Int32.not_lt.mp q3; have h9 : nI q ≤ 70 := q9; simp [pKd, h8, h9]; done)
        | (refine h23 true ?_; have h9 : nI q = 42 := q15; simp [pKd, h9]; done)
        | (refine h23 false ?_; have h8 := Int32.not_le.mpr q3; have h9 : ¬ nI q = 42 := q15; simp [pKd, h8, h9]; done)
        | (refine h23 false ?_; have h8 : ¬ nI q ≤ 70 := q9; have h9 : ¬ nI q = 42 := q15; simp [pKd, h8, h9]; done)
    · refine hB.iconst d_Md_begin_18 (v := 1) rfl ?_
      refine hB.goto d_Md_begin_19 (tgt := 23) rfl ?_
      first
        | (refine h23 true ?_; have h8 := Int32.not_lt.mp q3; have h9 : nI q ≤ 70 := q9; simp [pKd, h8, h9]; done)
        | (refine h23 true ?_; have h9 : nI q = 42 := q15; simp [pKd, h9]; done)
        | (refine h23 false ?_; have h8 := Int32.not_le.mpr q3; have h9 : ¬ nI q = 42 := q15; simp [pKd, h8, h9]; done)
        | (refine h23 false ?_; have h8 : ¬ nI q ≤ 70 := q9; have h9 : ¬ nI q = 42 := q15; simp [pKd, h8, h9]; done)
  · refine hB.iload_n d_Md_begin_6 rfl ?_
    refine hB.bipush d_Md_begin_7 (v := 70) rfl ?_
    refine hB.icmp_le d_Md_begin_9 (tgt := 18) rfl (fun q9 => ?_) (fun q9 => ?_)
    · refine hB.iconst d_Md_begin_18 (v := 1) rfl ?_
      refine hB.goto d_Md_begin_19 (tgt := 23) rfl ?_
      first
        | (refine h23 true ?_; have h8 := Int32.not_lt.mp q3; have h9 : nI q ≤ 70 := q9; simp [pKd, h8, h9]; done)
        | (refine h23 true ?_; have h9 : nI q = 42 := q15; simp [pKd, h9]; done)
        | (refine h23 false ?_; have h8 := Int32.not_le.mpr q3; have h9 : ¬ nI q = 42 := q15; simp [pKd, h8, h9]; done)
        | (refine h23 false ?_; have h8 : ¬ nI q ≤ 70 := q9; have h9 : ¬ nI q = 42 := q15; simp [pKd, h8, h9]; done)
    · refine hB.iload_n d_Md_begin_12 rfl ?_
      refine hB.bipush d_Md_begin_13 (v := 42) rfl ?_
      refine hB.icmp_ne d_Md_begin_15 (tgt := 22) rfl (fun q15 => ?_) (fun q15 => ?_)
      · refine hB.iconst d_Md_begin_22 (v := 0) rfl ?_
        first
          | (refine h23 true ?_; have h8 := Int32.not_lt.mp q3; have h9 : nI q ≤ 70 := q9; simp [pKd, h8, h9]; done)
          | (refine h23 true ?_; have h9 : nI q = 42 := q15; simp [pKd, h9]; done)
          | (refine h23 false ?_; have h8 := Int32.not_le.mpr q3; have h9 : ¬ nI q = 42 := q15; simp [pKd, h8, h9]; done)
          | (refine h23 false ?_; have h8 : ¬ nI q ≤ 70 := q9; have h9 : ¬ nI q = 42 := q15; simp [pKd, h8, h9]; done)
      · refine hB.iconst d_Md_begin_18 (v := 1) rfl ?_
        refine hB.goto d_Md_begin_19 (tgt := 23) rfl ?_
        first
          | (refine h23 true ?_; have h8 := Int32.not_lt.mp q3; have h9 : nI q ≤ 70 := q9; simp [pKd, h8, h9]; done)
          | (refine h23 true ?_; have h9 : nI q = 42 := q15; simp [pKd, h9]; done)
          | (refine h23 false ?_; have h8 := Int32.not_le.mpr q3; have h9 : ¬ nI q = 42 := q15; simp [pKd, h8, h9]; done)
          | (refine h23 false ?_; have h8 : ¬ nI q ≤ 70 := q9; have h9 : ¬ nI q = 42 := q15; simp [pKd, h8, h9]; done)
def bZ (x : Int32) : Prop := x = 0 ∨ x = 1
theorem bZ_bI {x : Int32} (h : bZ x) : x = bI (decide (¬ x = 0)) := by
  rcases h with rfl | rfl <;> rfl
set_option maxRecDepth 100000 in
set_option maxHeartbeats 4000000 in
theorem k_Md_after (l : Launch) (g : mG) (ad : Nat → Nat) (z : sT) (k : Nat) (hk : z.1 126 5 = nI (k + 1)) (hk8 : k < 8) (q : Nat) (hq : q < 65536) : sC l y_Md_after c_Md_after 4 (some .int) 1 g ad [.ref (ad 126), .int (nI q)] z (fun r w => (nI q = 35 → r = some (.int (if (decide (z.1 129 (8 + k) = 0) && decide (z.1 130 (8 + k) = 0)) then 9 else 0)) ∧ w = sI z 126 13 (bI (decide (z.1 129 (8 + k) = 0) && decide (z.1 130 (8 + k) = 0)))) ∧ (¬ nI q = 35 → nI q = 64 → r = some (.int (if (decide (z.1 129 (8 + k) = 0) && decide (z.1 130 (8 + k) = 0)) then 10 else 0)) ∧ w = z) ∧ (¬ nI q = 35 → ¬ nI q = 64 → k + 1 = 8 → r = some (.int 0) ∧ w = z) ∧ (¬ nI q = 35 → ¬ nI q = 64 → k + 1 < 8 → nI q = 33 → r = some (.int (if k + 1 < 7 then 1 else 0)) ∧ w = z) ∧ (¬ nI q = 35 → ¬ nI q = 64 → k + 1 < 8 → ¬ nI q = 33 → (pKd (nI q) = true → r = some (.int 2) ∧ w = sBg z (k + 1) (nI q) (bI false)) ∧ (pKd (nI q) = false → r = some (.int 0) ∧ w = z))) := by
  refine sC.intro (own := R_Md) rfl (by decide) (by decide) (by simp [Value.category]) (Nat.le_of_ble_eq_true rfl) (fun K hB hE => ?_)
  show K 0 [some (.ref (ad 126)), some (.int (nI q)), none, none] [] z
  have h31 : ∀ v : Bool, v = (decide (z.1 129 (8 + k) = 0) && decide (z.1 130 (8 + k) = 0)) → K 31 [some (.ref (ad 126)), some (.int (nI q)), some (.int (nI (8 + k))), none] [.int (bI v)] z := by
    intro v hv
    refine hB.istore_n d_Md_after_31 (Nat.le_of_ble_eq_true rfl) ?_
    refine hB.iload_n d_Md_after_32 rfl ?_
    refine hB.bipush d_Md_after_33 (v := 35) rfl ?_
    refine hB.icmp_ne d_Md_after_35 (tgt := 54) rfl (fun q35 => ?_) (fun q35 => ?_)
    · refine hB.iload_n d_Md_after_54 rfl ?_
      refine hB.bipush d_Md_after_55 (v := 64) rfl ?_
      refine hB.icmp_ne d_Md_after_57 (tgt := 71) rfl (fun q57 => ?_) (fun q57 => ?_)
      · refine hB.aload_n d_Md_after_71 rfl ?_
        refine hB.getI (Or.inl fa_Md_73) d_Md_after_72 (by decide) sK_126 rfl ?_
        refine hB.bipush d_Md_after_75 (v := 8) rfl ?_
        refine hB.icmp_ne d_Md_after_77 (tgt := 82) rfl (fun q77 => ?_) (fun q77 => ?_)
        · have hk7 : k + 1 < 8 := by
            rw [hk] at q77
            rcases Nat.lt_or_ge (k + 1) 8 with hl | hl
            · exact hl
            · exact absurd (by rw [show k + 1 = 8 by omega]; rfl) q77
          refine hB.iload_n d_Md_after_82 rfl ?_
          refine hB.bipush d_Md_after_83 (v := 33) rfl ?_
          refine hB.icmp_ne d_Md_after_85 (tgt := 105) rfl (fun q85 => ?_) (fun q85 => ?_)
          · refine hB.aload_n d_Md_after_105 rfl ?_
            refine hB.iload_n d_Md_after_106 rfl ?_
            refine hB.iconst d_Md_after_107 (v := 0) rfl ?_
            refine hB.callV lk_Md_80 cd_Md_begin (k_Md_begin l g ad z (k + 1) hk hk7 q hq false) rfl (by decide) sK_126 d_Md_after_108 rfl rfl (by decide) (by simp [Value.category]) ?_
            rintro r8 w8 hr8
            have hr9 : ∃ x : Int32, r8 = some (.int x) := by
              cases hp : pKd (nI q)
              · exact ⟨_, (hr8.2 hp).1⟩
              · exact ⟨_, (hr8.1 hp).1⟩
            obtain ⟨x8, rfl⟩ := hr9
            show K 111 _ [.int x8] w8
            exact hE.1 _ _ _ _ _ d_Md_after_111 rfl rfl ⟨fun h => absurd h q35, fun _ h => absurd h q57, fun _ _ h => absurd h (by omega), fun _ _ _ h9 => by
          first
            | exact absurd h9 q85
            | (rw [if_pos hk6]; exact ⟨rfl, rfl⟩)
            | (rw [if_neg hk6]; exact ⟨rfl, rfl⟩), fun _ _ _ h9 => by
          first
            | exact absurd q85 h9
            | exact hr8⟩
          · refine hB.aload_n d_Md_after_88 rfl ?_
            refine hB.getI (Or.inl fa_Md_73) d_Md_after_89 (by decide) sK_126 rfl ?_
            refine hB.bipush d_Md_after_92 (v := 7) rfl ?_
            refine hB.icmp_ge d_Md_after_94 (tgt := 101) rfl (fun q94 => ?_) (fun q94 => ?_)
            · have hk6 : ¬ k + 1 < 7 := by
                rw [hk] at q94
                have := (nI_leI (a := 7) (b := k + 1) (by decide) (by omega)).mp q94
                omega
              refine hB.iconst d_Md_after_101 (v := 0) rfl ?_
              refine hB.goto d_Md_after_102 (tgt := 111) rfl ?_
              exact hE.1 _ _ _ _ _ d_Md_after_111 rfl rfl ⟨fun h => absurd h q35, fun _ h => absurd h q57, fun _ _ h => absurd h (by omega), fun _ _ _ h9 => by
          first
            | exact absurd h9 q85
            | (rw [if_pos hk6]; exact ⟨rfl, rfl⟩)
            | (rw [if_neg hk6]; exact ⟨rfl, rfl⟩), fun _ _ _ h9 => by
          first
            | exact absurd q85 h9
            | exact hr8⟩
            · have hk6 : k + 1 < 7 := by
                rw [hk] at q94
                rcases Nat.lt_or_ge (k + 1) 7 with hl | hl
                · exact hl
                · exact absurd (nI_le (a := 7) hl (by omega)) q94
              refine hB.iconst d_Md_after_97 (v := 1) rfl ?_
              refine hB.goto d_Md_after_98 (tgt := 111) rfl ?_
              exact hE.1 _ _ _ _ _ d_Md_after_111 rfl rfl ⟨fun h => absurd h q35, fun _ h => absurd h q57, fun _ _ h => absurd h (by omega), fun _ _ _ h9 => by
          first
            | exact absurd h9 q85
            | (rw [if_pos hk6]; exact ⟨rfl, rfl⟩)
            | (rw [if_neg hk6]; exact ⟨rfl, rfl⟩), fun _ _ _ h9 => by
          first
            | exact absurd q85 h9
            | exact hr8⟩
        · have hk7 : k + 1 = 8 := by
            rw [hk] at q77
            exact (nI_eq (a := k + 1) (b := 8) (by omega) (by decide)).mp q77
          refine hB.iconst d_Md_after_80 (v := 0) rfl ?_
          exact hE.1 _ _ _ _ _ d_Md_after_81 rfl rfl ⟨fun h => absurd h q35, fun _ h => absurd h q57, fun _ _ _ => ⟨rfl, rfl⟩, fun _ _ h => absurd h (by omega), fun _ _ h => absurd h (by omega)⟩
      · refine hB.iload_n d_Md_after_60 rfl ?_
        refine hB.if_eq d_Md_after_61 (tgt := 69) rfl (fun q61 => ?_) (fun q61 => ?_)
        · have hv0 := bI_0 q61
          refine hB.iconst d_Md_after_69 (v := 0) rfl ?_
          exact hE.1 _ _ _ _ _ d_Md_after_70 rfl rfl ⟨fun h => absurd h q35, fun _ _ => ⟨by first | (rw [← hv, hv0]; rfl; done) | (rw [← hv, hv1]; rfl), rfl⟩, fun _ h => absurd q57 h, fun _ h => absurd q57 h, fun _ h => absurd q57 h⟩
        · have hv1 := bI_1 q61
          refine hB.bipush d_Md_after_64 (v := 10) rfl ?_
          refine hB.goto d_Md_after_66 (tgt := 70) rfl ?_
          exact hE.1 _ _ _ _ _ d_Md_after_70 rfl rfl ⟨fun h => absurd h q35, fun _ _ => ⟨by first | (rw [← hv, hv0]; rfl; done) | (rw [← hv, hv1]; rfl), rfl⟩, fun _ h => absurd q57 h, fun _ h => absurd q57 h, fun _ h => absurd q57 h⟩
    · refine hB.aload_n d_Md_after_38 rfl ?_
      refine hB.iload_n d_Md_after_39 rfl ?_
      refine hB.putI (Or.inl fa_Md_76) d_Md_after_40 (by decide) sK_126 rfl (bI_nar v) (bI_fit v) ?_
      refine hB.iload_n d_Md_after_43 rfl ?_
      refine hB.if_eq d_Md_after_44 (tgt := 52) rfl (fun q44 => ?_) (fun q44 => ?_)
      · have hv0 := bI_0 q44
        refine hB.iconst d_Md_after_52 (v := 0) rfl ?_
        exact hE.1 _ _ _ _ _ d_Md_after_53 rfl rfl ⟨fun _ => ⟨by first | (rw [← hv, hv0]; rfl; done) | (rw [← hv, hv1]; rfl), by rw [hv]⟩, fun h => absurd q35 h, fun h => absurd q35 h, fun h => absurd q35 h, fun h => absurd q35 h⟩
      · have hv1 := bI_1 q44
        refine hB.bipush d_Md_after_47 (v := 9) rfl ?_
        refine hB.goto d_Md_after_49 (tgt := 53) rfl ?_
        exact hE.1 _ _ _ _ _ d_Md_after_53 rfl rfl ⟨fun _ => ⟨by first | (rw [← hv, hv0]; rfl; done) | (rw [← hv, hv1]; rfl), by rw [hv]⟩, fun h => absurd q35 h, fun h => absurd q35 h, fun h => absurd q35 h, fun h => absurd q35 h⟩
  refine hB.bipush d_Md_after_0 (v := 7) rfl ?_
  refine hB.aload_n d_Md_after_2 rfl ?_
  refine hB.getI (Or.inl fa_Md_73) d_Md_after_3 (by decide) sK_126 rfl ?_
  refine hB.iadd d_Md_after_6 ?_
  have ek : (7 : Int32) + z.1 126 5 = nI (8 + k) := by rw [hk, show 8 + k = 7 + (k + 1) by omega]; exact nI_add 7 (k + 1)
  rw [ek]
  refine hB.istore_n d_Md_after_7 (Nat.le_of_ble_eq_true rfl) ?_
  refine hB.aload_n d_Md_after_8 rfl ?_
  refine hB.getC (Or.inl fa_Md_20) d_Md_after_9 (by decide) sK_126 rfl ?_
  refine hB.iload_n d_Md_after_12 rfl ?_
  refine hB.zald d_Md_after_13 (by decide) rfl rfl (by omega) (by decide) ?_
  refine hB.if_ne d_Md_after_14 (tgt := 30) rfl (fun q14 => ?_) (fun q14 => ?_)
  · refine hB.iconst d_Md_after_30 (v := 0) rfl ?_
    first
      | (refine h31 false ?_; have h9 : ¬ z.1 129 (8 + k) = 0 := q14; simp [h9]; done)
      | (refine h31 true ?_; have h9 : z.1 130 (8 + k) = 0 := q23; simp [q14, h9]; done)
      | (refine h31 false ?_; have h9 : ¬ z.1 130 (8 + k) = 0 := q23; simp [h9]; done)
  · refine hB.aload_n d_Md_after_17 rfl ?_
    refine hB.getC (Or.inl fa_Md_24) d_Md_after_18 (by decide) sK_126 rfl ?_
    refine hB.iload_n d_Md_after_21 rfl ?_
    refine hB.zald d_Md_after_22 (by decide) rfl rfl (by omega) (by decide) ?_
    refine hB.if_ne d_Md_after_23 (tgt := 30) rfl (fun q23 => ?_) (fun q23 => ?_)
    · refine hB.iconst d_Md_after_30 (v := 0) rfl ?_
      first
        | (refine h31 false ?_; have h9 : ¬ z.1 129 (8 + k) = 0 := q14; simp [h9]; done)
        | (refine h31 true ?_; have h9 : z.1 130 (8 + k) = 0 := q23; simp [q14, h9]; done)
        | (refine h31 false ?_; have h9 : ¬ z.1 130 (8 + k) = 0 := q23; simp [h9]; done)
    · refine hB.iconst d_Md_after_26 (v := 1) rfl ?_
      refine hB.goto d_Md_after_27 (tgt := 31) rfl ?_
      first
        | (refine h31 false ?_; have h9 : ¬ z.1 129 (8 + k) = 0 := q14; simp [h9]; done)
        | (refine h31 true ?_; have h9 : z.1 130 (8 + k) = 0 := q23; simp [q14, h9]; done)
        | (refine h31 false ?_; have h9 : ¬ z.1 130 (8 + k) = 0 := q23; simp [h9]; done)
