def wV (v : Int32) : Prop := -100 ≤ v.toInt ∧ v.toInt ≤ 100
theorem sub_v {a b : Int32} (ha : wV a) (hb : wV b) : (a - b).toInt = a.toInt - b.toInt := by
  have h1 := ha.1
  have h2 := ha.2
  have h3 := hb.1
  have h4 := hb.2
  rw [Int32.toInt_sub]
  apply Int.bmod_eq_of_le <;> omega
theorem sub_lt {a b : Int32} (ha : wV a) (hb : wV b) : (a - b < 0) ↔ a < b := by
  rw [Int32.lt_iff_toInt_lt, Int32.lt_iff_toInt_lt, sub_v ha hb]
  show a.toInt - b.toInt < 0 ↔ _
  omega
theorem sub_le {a b : Int32} (ha : wV a) (hb : wV b) : (a - b ≤ 0) ↔ a ≤ b := by
  rw [Int32.le_iff_toInt_le, Int32.le_iff_toInt_le, sub_v ha hb]
  show a.toInt - b.toInt ≤ 0 ↔ _
  omega
theorem sub_0 {a b : Int32} (ha : wV a) (hb : wV b) : (a - b = 0) ↔ a = b := by
  rw [← Int32.toInt_inj, ← Int32.toInt_inj, sub_v ha hb]
  show a.toInt - b.toInt = 0 ↔ _
  omega
def evM (z : sT) (C : eC) (n : Nat) : Prop := n < 520 ∧ z.1 135 n = xKd C ∧ z.1 136 n = xKe C ∧ z.1 137 n = xVa C ∧ z.1 138 n = xTi C ∧ z.1 126 12 = xKy C ∧ wV (xVa C)
theorem rTs_cd (t v b : Int32) : rTs t v b = if cdT t = 0 then true else if cdT t = 1 then decide (v < b) else if cdT t = 2 then decide (v = b) else decide (b < v) := by
  unfold rTs cdT
  by_cases h1 : t = 60
  · rw [if_pos h1, if_pos h1]; simp
  · by_cases h2 : t = 61
    · rw [if_neg h1, if_neg h1, if_pos h2, if_pos h2]; simp
    · by_cases h3 : t = 62
      · rw [if_neg h1, if_neg h1, if_neg h2, if_neg h2, if_pos h3, if_pos h3]; simp
      · rw [if_neg h1, if_neg h1, if_neg h2, if_neg h2, if_neg h3, if_neg h3]; simp
theorem cdT_4 (t : Int32) : cdT t = 0 ∨ cdT t = 1 ∨ cdT t = 2 ∨ cdT t = 3 := by
  unfold cdT
  by_cases h1 : t = 60
  · rw [if_pos h1]; exact Or.inr (Or.inl rfl)
  · by_cases h2 : t = 61
    · rw [if_neg h1, if_pos h2]; exact Or.inr (Or.inr (Or.inl rfl))
    · by_cases h3 : t = 62
      · rw [if_neg h1, if_neg h2, if_pos h3]; exact Or.inr (Or.inr (Or.inr rfl))
      · rw [if_neg h1, if_neg h2, if_neg h3]; exact Or.inl rfl
set_option maxRecDepth 100000 in
set_option maxHeartbeats 4000000 in
theorem k_mFit0 (l : Launch) (g : mG) (ad : Nat → Nat) (z : sT) (C : eC) (n j : Nat) (X9 : pE) (hC : evM z C n) (hj : j < 8) (hE9 : mdE z j X9) (hN : wN X9.2.2.2.2.2) (hP0 : (if X9.2.2.2.2.1 = 0 then X9.2.2.2.2.2 else 0) = X9.2.2.2.2.2) : sC l y_Md_fits c_Md_fits 7 (some .boolean) 0 g ad [.ref (ad 126), .int (nI j), .int (-1), .int (nI n)] z (fun r w => r = some (.int (bI (rAd X9 (xKd C) (xVa C) 0))) ∧ w = z) := by
  refine sC.intro (own := R_Md) rfl (by decide) (by decide) (by simp [Value.category]) (Nat.le_of_ble_eq_true rfl) (fun K hB hE => ?_)
  show K 0 [some (.ref (ad 126)), some (.int (nI j)), some (.int (-1)), some (.int (nI n)), none, none, none] [] z
  have hn2 := hC.1
  have h128 : ∀ (b : Bool) (th : Int32) (o5 o6 : Option Value), wV th → rAd X9 (xKd C) (xVa C) 0 = (b && rTs X9.2.2.2.1 (xVa C) th) → K 128 [some (.ref (ad 126)), some (.int (nI j)), some (.int (-1)), some (.int (nI n)), some (.int (bI b)), o5, o6] [.int th] z := by
    intro b th o5 o6 hth hres
    rw [rTs_cd] at hres
    have hcd0 := hE9.2.2.2.1
    rcases cdT_4 X9.2.2.2.1 with hk | hk | hk | hk
    · have hcd : z.1 131 j = 0 := hcd0.trans hk
      have e0 : rAd X9 (xKd C) (xVa C) 0 = (b && true) := by rw [hres, hk]; rfl
      refine hB.istore d_Md_fits_128 (Nat.le_of_ble_eq_true rfl) ?_
      refine hB.aload_n d_Md_fits_130 rfl ?_
      refine hB.getC (Or.inl fa_Md_46) d_Md_fits_131 (by decide) sK_126 rfl ?_
      refine hB.iload_n d_Md_fits_134 rfl ?_
      refine hB.iald d_Md_fits_135 (by decide) rfl rfl (by omega) (by decide) ?_
      rw [hC.2.2.2.1]
      refine hB.iload d_Md_fits_136 rfl ?_
      refine hB.isub d_Md_fits_138 ?_
      refine hB.istore d_Md_fits_139 (Nat.le_of_ble_eq_true rfl) ?_
      refine hB.iload d_Md_fits_141 rfl ?_
      refine hB.if_eq d_Md_fits_143 (tgt := 204) rfl (fun q143 => ?_) (fun q143 => ?_)
      · refine hB.iconst d_Md_fits_204 (v := 0) rfl ?_
        exact hE.1 _ _ _ _ _ d_Md_fits_205 rfl rfl ⟨by
          rw [e0]
          first
            | (have h9 := bI_0 q143; rw [h9]; rfl; done)
            | (have h9 := bI_1 q143; rw [h9]; rfl; done)
            | (have h9 := bI_1 q143; have h8 := (sub_lt hC.2.2.2.2.2.2 hth).mp q167; rw [h9]; simp [h8, bI]; done)
            | (have h9 := bI_1 q143; have h8 := mt (sub_lt hC.2.2.2.2.2.2 hth).mpr q167; rw [h9]; simp [h8, bI]; done)
            | (have h9 := bI_1 q143; have h8 := (sub_0 hC.2.2.2.2.2.2 hth).mp q182; rw [h9]; simp [h8, bI]; done)
            | (have h9 := bI_1 q143; have h8 := mt (sub_0 hC.2.2.2.2.2.2 hth).mpr q182; rw [h9]; simp [h8, bI]; done)
            | (have h9 := bI_1 q143; have h8 := Int32.not_lt.mpr ((sub_le hC.2.2.2.2.2.2 hth).mp q197); rw [h9]; simp [h8, bI]; done)
            | (have h9 := bI_1 q143; have h8 := Int32.not_le.mp (mt (sub_le hC.2.2.2.2.2.2 hth).mpr q197); rw [h9]; simp [h8, bI]), rfl⟩
      · refine hB.aload_n d_Md_fits_146 rfl ?_
        refine hB.getC (Or.inl fa_Md_27) d_Md_fits_147 (by decide) sK_126 rfl ?_
        refine hB.iload_n d_Md_fits_150 rfl ?_
        refine hB.iald d_Md_fits_151 (by decide) rfl rfl (by omega) (by decide) ?_
        rw [hcd]
        refine hB.if_eq d_Md_fits_152 (tgt := 200) rfl (fun q152 => ?_) (fun q152 => absurd rfl q152)
        refine hB.iconst d_Md_fits_200 (v := 1) rfl ?_
        refine hB.goto d_Md_fits_201 (tgt := 205) rfl ?_
        exact hE.1 _ _ _ _ _ d_Md_fits_205 rfl rfl ⟨by
          rw [e0]
          first
            | (have h9 := bI_0 q143; rw [h9]; rfl; done)
            | (have h9 := bI_1 q143; rw [h9]; rfl; done)
            | (have h9 := bI_1 q143; have h8 := (sub_lt hC.2.2.2.2.2.2 hth).mp q167; rw [h9]; simp [h8, bI]; done)
            | (have h9 := bI_1 q143; have h8 := mt (sub_lt hC.2.2.2.2.2.2 hth).mpr q167; rw [h9]; simp [h8, bI]; done)
            | (have h9 := bI_1 q143; have h8 := (sub_0 hC.2.2.2.2.2.2 hth).mp q182; rw [h9]; simp [h8, bI]; done)
            | (have h9 := bI_1 q143; have h8 := mt (sub_0 hC.2.2.2.2.2.2 hth).mpr q182; rw [h9]; simp [h8, bI]; done)
            | (have h9 := bI_1 q143; have h8 := Int32.not_lt.mpr ((sub_le hC.2.2.2.2.2.2 hth).mp q197); rw [h9]; simp [h8, bI]; done)
            | (have h9 := bI_1 q143; have h8 := Int32.not_le.mp (mt (sub_le hC.2.2.2.2.2.2 hth).mpr q197); rw [h9]; simp [h8, bI]), rfl⟩
    · have hcd : z.1 131 j = 1 := hcd0.trans hk
      have e0 : rAd X9 (xKd C) (xVa C) 0 = (b && decide (xVa C < th)) := by rw [hres, hk]; rfl
      refine hB.istore d_Md_fits_128 (Nat.le_of_ble_eq_true rfl) ?_
      refine hB.aload_n d_Md_fits_130 rfl ?_
      refine hB.getC (Or.inl fa_Md_46) d_Md_fits_131 (by decide) sK_126 rfl ?_
      refine hB.iload_n d_Md_fits_134 rfl ?_
      refine hB.iald d_Md_fits_135 (by decide) rfl rfl (by omega) (by decide) ?_
      rw [hC.2.2.2.1]
      refine hB.iload d_Md_fits_136 rfl ?_
      refine hB.isub d_Md_fits_138 ?_
      refine hB.istore d_Md_fits_139 (Nat.le_of_ble_eq_true rfl) ?_
      refine hB.iload d_Md_fits_141 rfl ?_
      refine hB.if_eq d_Md_fits_143 (tgt := 204) rfl (fun q143 => ?_) (fun q143 => ?_)
      · refine hB.iconst d_Md_fits_204 (v := 0) rfl ?_
        exact hE.1 _ _ _ _ _ d_Md_fits_205 rfl rfl ⟨by
          rw [e0]
          first
            | (have h9 := bI_0 q143; rw [h9]; rfl; done)
            | (have h9 := bI_1 q143; rw [h9]; rfl; done)
            | (have h9 := bI_1 q143; have h8 := (sub_lt hC.2.2.2.2.2.2 hth).mp q167; rw [h9]; simp [h8, bI]; done)
            | (have h9 := bI_1 q143; have h8 := mt (sub_lt hC.2.2.2.2.2.2 hth).mpr q167; rw [h9]; simp [h8, bI]; done)
            | (have h9 := bI_1 q143; have h8 := (sub_0 hC.2.2.2.2.2.2 hth).mp q182; rw [h9]; simp [h8, bI]; done)
            | (have h9 := bI_1 q143; have h8 := mt (sub_0 hC.2.2.2.2.2.2 hth).mpr q182; rw [h9]; simp [h8, bI]; done)
            | (have h9 := bI_1 q143; have h8 := Int32.not_lt.mpr ((sub_le hC.2.2.2.2.2.2 hth).mp q197); rw [h9]; simp [h8, bI]; done)
            | (have h9 := bI_1 q143; have h8 := Int32.not_le.mp (mt (sub_le hC.2.2.2.2.2.2 hth).mpr q197); rw [h9]; simp [h8, bI]), rfl⟩
      · refine hB.aload_n d_Md_fits_146 rfl ?_
        refine hB.getC (Or.inl fa_Md_27) d_Md_fits_147 (by decide) sK_126 rfl ?_
        refine hB.iload_n d_Md_fits_150 rfl ?_
        refine hB.iald d_Md_fits_151 (by decide) rfl rfl (by omega) (by decide) ?_
        rw [hcd]
        refine hB.if_eq d_Md_fits_152 (tgt := 200) rfl (fun q152 => absurd q152 (by decide)) (fun q152 => ?_)
        refine hB.aload_n d_Md_fits_155 rfl ?_
        refine hB.getC (Or.inl fa_Md_27) d_Md_fits_156 (by decide) sK_126 rfl ?_
        refine hB.iload_n d_Md_fits_159 rfl ?_
        refine hB.iald d_Md_fits_160 (by decide) rfl rfl (by omega) (by decide) ?_
        refine hB.iconst d_Md_fits_161 (v := 1) rfl ?_
        rw [hcd]
        refine hB.icmp_ne d_Md_fits_162 (tgt := 170) rfl (fun q162 => absurd rfl q162) (fun q162 => ?_)
        refine hB.iload d_Md_fits_165 rfl ?_
        refine hB.if_lt d_Md_fits_167 (tgt := 200) rfl (fun q167 => ?_) (fun q167 => ?_)
        · refine hB.iconst d_Md_fits_200 (v := 1) rfl ?_
          refine hB.goto d_Md_fits_201 (tgt := 205) rfl ?_
          exact hE.1 _ _ _ _ _ d_Md_fits_205 rfl rfl ⟨by
          rw [e0]
          first
            | (have h9 := bI_0 q143; rw [h9]; rfl; done)
            | (have h9 := bI_1 q143; rw [h9]; rfl; done)
            | (have h9 := bI_1 q143; have h8 := (sub_lt hC.2.2.2.2.2.2 hth).mp q167; rw [h9]; simp [h8, bI]; done)
            | (have h9 := bI_1 q143; have h8 := mt (sub_lt hC.2.2.2.2.2.2 hth).mpr q167; rw [h9]; simp [h8, bI]; done)
            | (have h9 := bI_1 q143; have h8 := (sub_0 hC.2.2.2.2.2.2 hth).mp q182; rw [h9]; simp [h8, bI]; done)
            | (have h9 := bI_1 q143; have h8 := mt (sub_0 hC.2.2.2.2.2.2 hth).mpr q182; rw [h9]; simp [h8, bI]; done)
            | (have h9 := bI_1 q143; have h8 := Int32.not_lt.mpr ((sub_le hC.2.2.2.2.2.2 hth).mp q197); rw [h9]; simp [h8, bI]; done)
            | (have h9 := bI_1 q143; have h8 := Int32.not_le.mp (mt (sub_le hC.2.2.2.2.2.2 hth).mpr q197); rw [h9]; simp [h8, bI]), rfl⟩
        · refine hB.aload_n d_Md_fits_170 rfl ?_
          refine hB.getC (Or.inl fa_Md_27) d_Md_fits_171 (by decide) sK_126 rfl ?_
          refine hB.iload_n d_Md_fits_174 rfl ?_
          refine hB.iald d_Md_fits_175 (by decide) rfl rfl (by omega) (by decide) ?_
          refine hB.iconst d_Md_fits_176 (v := 2) rfl ?_
          rw [hcd]
          refine hB.icmp_ne d_Md_fits_177 (tgt := 185) rfl (fun q177 => ?_) (fun q177 => absurd q177 (by decide))
          refine hB.aload_n d_Md_fits_185 rfl ?_
          refine hB.getC (Or.inl fa_Md_27) d_Md_fits_186 (by decide) sK_126 rfl ?_
          refine hB.iload_n d_Md_fits_189 rfl ?_
          refine hB.iald d_Md_fits_190 (by decide) rfl rfl (by omega) (by decide) ?_
          refine hB.iconst d_Md_fits_191 (v := 3) rfl ?_
          rw [hcd]
          refine hB.icmp_ne d_Md_fits_192 (tgt := 204) rfl (fun q192 => ?_) (fun q192 => absurd q192 (by decide))
          refine hB.iconst d_Md_fits_204 (v := 0) rfl ?_
          exact hE.1 _ _ _ _ _ d_Md_fits_205 rfl rfl ⟨by
          rw [e0]
          first
            | (have h9 := bI_0 q143; rw [h9]; rfl; done)
            | (have h9 := bI_1 q143; rw [h9]; rfl; done)
            | (have h9 := bI_1 q143; have h8 := (sub_lt hC.2.2.2.2.2.2 hth).mp q167; rw [h9]; simp [h8, bI]; done)
            | (have h9 := bI_1 q143; have h8 := mt (sub_lt hC.2.2.2.2.2.2 hth).mpr q167; rw [h9]; simp [h8, bI]; done)
            | (have h9 := bI_1 q143; have h8 := (sub_0 hC.2.2.2.2.2.2 hth).mp q182; rw [h9]; simp [h8, bI]; done)
            | (have h9 := bI_1 q143; have h8 := mt (sub_0 hC.2.2.2.2.2.2 hth).mpr q182; rw [h9]; simp [h8, bI]; done)
            | (have h9 := bI_1 q143; have h8 := Int32.not_lt.mpr ((sub_le hC.2.2.2.2.2.2 hth).mp q197); rw [h9]; simp [h8, bI]; done)
            | (have h9 := bI_1 q143; have h8 := Int32.not_le.mp (mt (sub_le hC.2.2.2.2.2.2 hth).mpr q197); rw [h9]; simp [h8, bI]), rfl⟩
    · have hcd : z.1 131 j = 2 := hcd0.trans hk
      have e0 : rAd X9 (xKd C) (xVa C) 0 = (b && decide (xVa C = th)) := by rw [hres, hk]; rfl
      refine hB.istore d_Md_fits_128 (Nat.le_of_ble_eq_true rfl) ?_
      refine hB.aload_n d_Md_fits_130 rfl ?_
      refine hB.getC (Or.inl fa_Md_46) d_Md_fits_131 (by decide) sK_126 rfl ?_
      refine hB.iload_n d_Md_fits_134 rfl ?_
      refine hB.iald d_Md_fits_135 (by decide) rfl rfl (by omega) (by decide) ?_
      rw [hC.2.2.2.1]
      refine hB.iload d_Md_fits_136 rfl ?_
      refine hB.isub d_Md_fits_138 ?_
      refine hB.istore d_Md_fits_139 (Nat.le_of_ble_eq_true rfl) ?_
      refine hB.iload d_Md_fits_141 rfl ?_
      refine hB.if_eq d_Md_fits_143 (tgt := 204) rfl (fun q143 => ?_) (fun q143 => ?_)
      · refine hB.iconst d_Md_fits_204 (v := 0) rfl ?_
        exact hE.1 _ _ _ _ _ d_Md_fits_205 rfl rfl ⟨by
          rw [e0]
          first
            | (have h9 := bI_0 q143; rw [h9]; rfl; done)
            | (have h9 := bI_1 q143; rw [h9]; rfl; done)
            | (have h9 := bI_1 q143; have h8 := (sub_lt hC.2.2.2.2.2.2 hth).mp q167; rw [h9]; simp [h8, bI]; done)
            | (have h9 := bI_1 q143; have h8 := mt (sub_lt hC.2.2.2.2.2.2 hth).mpr q167; rw [h9]; simp [h8, bI]; done)
            | (have h9 := bI_1 q143; have h8 := (sub_0 hC.2.2.2.2.2.2 hth).mp q182; rw [h9]; simp [h8, bI]; done)
            | (have h9 := bI_1 q143; have h8 := mt (sub_0 hC.2.2.2.2.2.2 hth).mpr q182; rw [h9]; simp [h8, bI]; done)
            | (have h9 := bI_1 q143; have h8 := Int32.not_lt.mpr ((sub_le hC.2.2.2.2.2.2 hth).mp q197); rw [h9]; simp [h8, bI]; done)
            | (have h9 := bI_1 q143; have h8 := Int32.not_le.mp (mt (sub_le hC.2.2.2.2.2.2 hth).mpr q197); rw [h9]; simp [h8, bI]), rfl⟩
      · refine hB.aload_n d_Md_fits_146 rfl ?_
        refine hB.getC (Or.inl fa_Md_27) d_Md_fits_147 (by decide) sK_126 rfl ?_
        refine hB.iload_n d_Md_fits_150 rfl ?_
        refine hB.iald d_Md_fits_151 (by decide) rfl rfl (by omega) (by decide) ?_
        rw [hcd]
        refine hB.if_eq d_Md_fits_152 (tgt := 200) rfl (fun q152 => absurd q152 (by decide)) (fun q152 => ?_)
        refine hB.aload_n d_Md_fits_155 rfl ?_
        refine hB.getC (Or.inl fa_Md_27) d_Md_fits_156 (by decide) sK_126 rfl ?_
        refine hB.iload_n d_Md_fits_159 rfl ?_
        refine hB.iald d_Md_fits_160 (by decide) rfl rfl (by omega) (by decide) ?_
        refine hB.iconst d_Md_fits_161 (v := 1) rfl ?_
        rw [hcd]
        refine hB.icmp_ne d_Md_fits_162 (tgt := 170) rfl (fun q162 => ?_) (fun q162 => absurd q162 (by decide))
        refine hB.aload_n d_Md_fits_170 rfl ?_
        refine hB.getC (Or.inl fa_Md_27) d_Md_fits_171 (by decide) sK_126 rfl ?_
        refine hB.iload_n d_Md_fits_174 rfl ?_
        refine hB.iald d_Md_fits_175 (by decide) rfl rfl (by omega) (by decide) ?_
        refine hB.iconst d_Md_fits_176 (v := 2) rfl ?_
        rw [hcd]
        refine hB.icmp_ne d_Md_fits_177 (tgt := 185) rfl (fun q177 => absurd rfl q177) (fun q177 => ?_)
        refine hB.iload d_Md_fits_180 rfl ?_
        refine hB.if_eq d_Md_fits_182 (tgt := 200) rfl (fun q182 => ?_) (fun q182 => ?_)
        · refine hB.iconst d_Md_fits_200 (v := 1) rfl ?_
          refine hB.goto d_Md_fits_201 (tgt := 205) rfl ?_
          exact hE.1 _ _ _ _ _ d_Md_fits_205 rfl rfl ⟨by
          rw [e0]
          first
            | (have h9 := bI_0 q143; rw [h9]; rfl; done)
            | (have h9 := bI_1 q143; rw [h9]; rfl; done)
            | (have h9 := bI_1 q143; have h8 := (sub_lt hC.2.2.2.2.2.2 hth).mp q167; rw [h9]; simp [h8, bI]; done)
            | (have h9 := bI_1 q143; have h8 := mt (sub_lt hC.2.2.2.2.2.2 hth).mpr q167; rw [h9]; simp [h8, bI]; done)
            | (have h9 := bI_1 q143; have h8 := (sub_0 hC.2.2.2.2.2.2 hth).mp q182; rw [h9]; simp [h8, bI]; done)
            | (have h9 := bI_1 q143; have h8 := mt (sub_0 hC.2.2.2.2.2.2 hth).mpr q182; rw [h9]; simp [h8, bI]; done)
            | (have h9 := bI_1 q143; have h8 := Int32.not_lt.mpr ((sub_le hC.2.2.2.2.2.2 hth).mp q197); rw [h9]; simp [h8, bI]; done)
            | (have h9 := bI_1 q143; have h8 := Int32.not_le.mp (mt (sub_le hC.2.2.2.2.2.2 hth).mpr q197); rw [h9]; simp [h8, bI]), rfl⟩
        · refine hB.aload_n d_Md_fits_185 rfl ?_
          refine hB.getC (Or.inl fa_Md_27) d_Md_fits_186 (by decide) sK_126 rfl ?_
          refine hB.iload_n d_Md_fits_189 rfl ?_
          refine hB.iald d_Md_fits_190 (by decide) rfl rfl (by omega) (by decide) ?_
          refine hB.iconst d_Md_fits_191 (v := 3) rfl ?_
          rw [hcd]
          refine hB.icmp_ne d_Md_fits_192 (tgt := 204) rfl (fun q192 => ?_) (fun q192 => absurd q192 (by decide))
          refine hB.iconst d_Md_fits_204 (v := 0) rfl ?_
          exact hE.1 _ _ _ _ _ d_Md_fits_205 rfl rfl ⟨by
          rw [e0]
          first
            | (have h9 := bI_0 q143; rw [h9]; rfl; done)
            | (have h9 := bI_1 q143; rw [h9]; rfl; done)
            | (have h9 := bI_1 q143; have h8 := (sub_lt hC.2.2.2.2.2.2 hth).mp q167; rw [h9]; simp [h8, bI]; done)
            | (have h9 := bI_1 q143; have h8 := mt (sub_lt hC.2.2.2.2.2.2 hth).mpr q167; rw [h9]; simp [h8, bI]; done)
            | (have h9 := bI_1 q143; have h8 := (sub_0 hC.2.2.2.2.2.2 hth).mp q182; rw [h9]; simp [h8, bI]; done)
            | (have h9 := bI_1 q143; have h8 := mt (sub_0 hC.2.2.2.2.2.2 hth).mpr q182; rw [h9]; simp [h8, bI]; done)
            | (have h9 := bI_1 q143; have h8 := Int32.not_lt.mpr ((sub_le hC.2.2.2.2.2.2 hth).mp q197); rw [h9]; simp [h8, bI]; done)
            | (have h9 := bI_1 q143; have h8 := Int32.not_le.mp (mt (sub_le hC.2.2.2.2.2.2 hth).mpr q197); rw [h9]; simp [h8, bI]), rfl⟩
    · have hcd : z.1 131 j = 3 := hcd0.trans hk
      have e0 : rAd X9 (xKd C) (xVa C) 0 = (b && decide (th < xVa C)) := by rw [hres, hk]; rfl
      refine hB.istore d_Md_fits_128 (Nat.le_of_ble_eq_true rfl) ?_
      refine hB.aload_n d_Md_fits_130 rfl ?_
      refine hB.getC (Or.inl fa_Md_46) d_Md_fits_131 (by decide) sK_126 rfl ?_
      refine hB.iload_n d_Md_fits_134 rfl ?_
      refine hB.iald d_Md_fits_135 (by decide) rfl rfl (by omega) (by decide) ?_
      rw [hC.2.2.2.1]
      refine hB.iload d_Md_fits_136 rfl ?_
      refine hB.isub d_Md_fits_138 ?_
      refine hB.istore d_Md_fits_139 (Nat.le_of_ble_eq_true rfl) ?_
      refine hB.iload d_Md_fits_141 rfl ?_
      refine hB.if_eq d_Md_fits_143 (tgt := 204) rfl (fun q143 => ?_) (fun q143 => ?_)
      · refine hB.iconst d_Md_fits_204 (v := 0) rfl ?_
        exact hE.1 _ _ _ _ _ d_Md_fits_205 rfl rfl ⟨by
          rw [e0]
          first
            | (have h9 := bI_0 q143; rw [h9]; rfl; done)
            | (have h9 := bI_1 q143; rw [h9]; rfl; done)
            | (have h9 := bI_1 q143; have h8 := (sub_lt hC.2.2.2.2.2.2 hth).mp q167; rw [h9]; simp [h8, bI]; done)
            | (have h9 := bI_1 q143; have h8 := mt (sub_lt hC.2.2.2.2.2.2 hth).mpr q167; rw [h9]; simp [h8, bI]; done)
            | (have h9 := bI_1 q143; have h8 := (sub_0 hC.2.2.2.2.2.2 hth).mp q182; rw [h9]; simp [h8, bI]; done)
            | (have h9 := bI_1 q143; have h8 := mt (sub_0 hC.2.2.2.2.2.2 hth).mpr q182; rw [h9]; simp [h8, bI]; done)
            | (have h9 := bI_1 q143; have h8 := Int32.not_lt.mpr ((sub_le hC.2.2.2.2.2.2 hth).mp q197); rw [h9]; simp [h8, bI]; done)
            | (have h9 := bI_1 q143; have h8 := Int32.not_le.mp (mt (sub_le hC.2.2.2.2.2.2 hth).mpr q197); rw [h9]; simp [h8, bI]), rfl⟩
      · refine hB.aload_n d_Md_fits_146 rfl ?_
        refine hB.getC (Or.inl fa_Md_27) d_Md_fits_147 (by decide) sK_126 rfl ?_
        refine hB.iload_n d_Md_fits_150 rfl ?_
        refine hB.iald d_Md_fits_151 (by decide) rfl rfl (by omega) (by decide) ?_
        rw [hcd]
        refine hB.if_eq d_Md_fits_152 (tgt := 200) rfl (fun q152 => absurd q152 (by decide)) (fun q152 => ?_)
        refine hB.aload_n d_Md_fits_155 rfl ?_
        refine hB.getC (Or.inl fa_Md_27) d_Md_fits_156 (by decide) sK_126 rfl ?_
        refine hB.iload_n d_Md_fits_159 rfl ?_
        refine hB.iald d_Md_fits_160 (by decide) rfl rfl (by omega) (by decide) ?_
        refine hB.iconst d_Md_fits_161 (v := 1) rfl ?_
        rw [hcd]
        refine hB.icmp_ne d_Md_fits_162 (tgt := 170) rfl (fun q162 => ?_) (fun q162 => absurd q162 (by decide))
        refine hB.aload_n d_Md_fits_170 rfl ?_
        refine hB.getC (Or.inl fa_Md_27) d_Md_fits_171 (by decide) sK_126 rfl ?_
        refine hB.iload_n d_Md_fits_174 rfl ?_
        refine hB.iald d_Md_fits_175 (by decide) rfl rfl (by omega) (by decide) ?_
        refine hB.iconst d_Md_fits_176 (v := 2) rfl ?_
        rw [hcd]
        refine hB.icmp_ne d_Md_fits_177 (tgt := 185) rfl (fun q177 => ?_) (fun q177 => absurd q177 (by decide))
        refine hB.aload_n d_Md_fits_185 rfl ?_
        refine hB.getC (Or.inl fa_Md_27) d_Md_fits_186 (by decide) sK_126 rfl ?_
        refine hB.iload_n d_Md_fits_189 rfl ?_
        refine hB.iald d_Md_fits_190 (by decide) rfl rfl (by omega) (by decide) ?_
        refine hB.iconst d_Md_fits_191 (v := 3) rfl ?_
        rw [hcd]
        refine hB.icmp_ne d_Md_fits_192 (tgt := 204) rfl (fun q192 => absurd rfl q192) (fun q192 => ?_)
        refine hB.iload d_Md_fits_195 rfl ?_
        refine hB.if_le d_Md_fits_197 (tgt := 204) rfl (fun q197 => ?_) (fun q197 => ?_)
        · refine hB.iconst d_Md_fits_204 (v := 0) rfl ?_
          exact hE.1 _ _ _ _ _ d_Md_fits_205 rfl rfl ⟨by
          rw [e0]
          first
            | (have h9 := bI_0 q143; rw [h9]; rfl; done)
            | (have h9 := bI_1 q143; rw [h9]; rfl; done)
            | (have h9 := bI_1 q143; have h8 := (sub_lt hC.2.2.2.2.2.2 hth).mp q167; rw [h9]; simp [h8, bI]; done)
            | (have h9 := bI_1 q143; have h8 := mt (sub_lt hC.2.2.2.2.2.2 hth).mpr q167; rw [h9]; simp [h8, bI]; done)
            | (have h9 := bI_1 q143; have h8 := (sub_0 hC.2.2.2.2.2.2 hth).mp q182; rw [h9]; simp [h8, bI]; done)
            | (have h9 := bI_1 q143; have h8 := mt (sub_0 hC.2.2.2.2.2.2 hth).mpr q182; rw [h9]; simp [h8, bI]; done)
            | (have h9 := bI_1 q143; have h8 := Int32.not_lt.mpr ((sub_le hC.2.2.2.2.2.2 hth).mp q197); rw [h9]; simp [h8, bI]; done)
            | (have h9 := bI_1 q143; have h8 := Int32.not_le.mp (mt (sub_le hC.2.2.2.2.2.2 hth).mpr q197); rw [h9]; simp [h8, bI]), rfl⟩
        · refine hB.iconst d_Md_fits_200 (v := 1) rfl ?_
          refine hB.goto d_Md_fits_201 (tgt := 205) rfl ?_
          exact hE.1 _ _ _ _ _ d_Md_fits_205 rfl rfl ⟨by
          rw [e0]
          first
            | (have h9 := bI_0 q143; rw [h9]; rfl; done)
            | (have h9 := bI_1 q143; rw [h9]; rfl; done)
            | (have h9 := bI_1 q143; have h8 := (sub_lt hC.2.2.2.2.2.2 hth).mp q167; rw [h9]; simp [h8, bI]; done)
            | (have h9 := bI_1 q143; have h8 := mt (sub_lt hC.2.2.2.2.2.2 hth).mpr q167; rw [h9]; simp [h8, bI]; done)
            | (have h9 := bI_1 q143; have h8 := (sub_0 hC.2.2.2.2.2.2 hth).mp q182; rw [h9]; simp [h8, bI]; done)
            | (have h9 := bI_1 q143; have h8 := mt (sub_0 hC.2.2.2.2.2.2 hth).mpr q182; rw [h9]; simp [h8, bI]; done)
            | (have h9 := bI_1 q143; have h8 := Int32.not_lt.mpr ((sub_le hC.2.2.2.2.2.2 hth).mp q197); rw [h9]; simp [h8, bI]; done)
            | (have h9 := bI_1 q143; have h8 := Int32.not_le.mp (mt (sub_le hC.2.2.2.2.2.2 hth).mpr q197); rw [h9]; simp [h8, bI]), rfl⟩
  have h31 : ∀ b : Bool, b = (decide (X9.2.1 = 42) || decide (X9.2.1 = xKd C)) → K 31 [some (.ref (ad 126)), some (.int (nI j)), some (.int (-1)), some (.int (nI n)), none, none, none] [.int (bI b)] z := by
    intro b hb
    refine hB.istore d_Md_fits_31 (Nat.le_of_ble_eq_true rfl) ?_
    refine hB.iload_n d_Md_fits_33 rfl ?_
    refine hB.if_lt d_Md_fits_34 (tgt := 83) rfl (fun q34 => ?_) (fun q34 => absurd (by decide) q34)
    refine hB.aload_n d_Md_fits_83 rfl ?_
    refine hB.getC (Or.inl fa_Md_31) d_Md_fits_84 (by decide) sK_126 rfl ?_
    refine hB.iload_n d_Md_fits_87 rfl ?_
    refine hB.zald d_Md_fits_88 (by decide) rfl rfl (by omega) (by decide) ?_
    refine hB.if_eq d_Md_fits_89 (tgt := 122) rfl (fun q89 => ?_) (fun q89 => ?_)
    · refine hB.aload_n d_Md_fits_122 rfl ?_
      refine hB.getC (Or.inl fa_Md_34) d_Md_fits_123 (by decide) sK_126 rfl ?_
      refine hB.iload_n d_Md_fits_126 rfl ?_
      refine hB.iald d_Md_fits_127 (by decide) rfl rfl (by omega) (by decide) ?_
      refine h128 b _ _ _ ?_ ?_
      · have h9 : z.1 133 j = X9.2.2.2.2.2 := hE9.2.2.2.2.2
        rw [h9]
        exact ⟨by have := hN.1; omega, by have := hN.2; omega⟩
      · unfold rAd
        rw [hb, show z.1 133 j = X9.2.2.2.2.2 from hE9.2.2.2.2.2, show (if X9.2.2.2.2.1 = 0 then X9.2.2.2.2.2 else 0) = X9.2.2.2.2.2 from hP0]
    · refine hB.iload_n d_Md_fits_92 rfl ?_
      refine hB.if_lt d_Md_fits_93 (tgt := 122) rfl (fun q93 => ?_) (fun q93 => absurd (by decide) q93)
      refine hB.aload_n d_Md_fits_122 rfl ?_
      refine hB.getC (Or.inl fa_Md_34) d_Md_fits_123 (by decide) sK_126 rfl ?_
      refine hB.iload_n d_Md_fits_126 rfl ?_
      refine hB.iald d_Md_fits_127 (by decide) rfl rfl (by omega) (by decide) ?_
      refine h128 b _ _ _ ?_ ?_
      · have h9 : z.1 133 j = X9.2.2.2.2.2 := hE9.2.2.2.2.2
        rw [h9]
        exact ⟨by have := hN.1; omega, by have := hN.2; omega⟩
      · unfold rAd
        rw [hb, show z.1 133 j = X9.2.2.2.2.2 from hE9.2.2.2.2.2, show (if X9.2.2.2.2.1 = 0 then X9.2.2.2.2.2 else 0) = X9.2.2.2.2.2 from hP0]
  refine hB.aload_n d_Md_fits_0 rfl ?_
  refine hB.getC (Or.inl fa_Md_17) d_Md_fits_1 (by decide) sK_126 rfl ?_
  refine hB.iload_n d_Md_fits_4 rfl ?_
  refine hB.cald d_Md_fits_5 (by decide) rfl rfl (by omega) (by decide) ?_
  refine hB.bipush d_Md_fits_6 (v := 42) rfl ?_
  rw [hE9.1]
  refine hB.icmp_eq d_Md_fits_8 (tgt := 26) rfl (fun q8 => ?_) (fun q8 => ?_)
  · refine hB.iconst d_Md_fits_26 (v := 1) rfl ?_
    refine hB.goto d_Md_fits_27 (tgt := 31) rfl ?_
    first
      | (refine h31 true ?_; have h9 : X9.2.1 = 42 := q8; simp [h9]; done)
      | (refine h31 true ?_; have h9 : X9.2.1 = xKd C := q23; simp [h9]; done)
      | (refine h31 false ?_; have h8 : ¬ X9.2.1 = 42 := q8; have h9 : ¬ X9.2.1 = xKd C := q23; simp [h8, h9])
  · refine hB.aload_n d_Md_fits_11 rfl ?_
    refine hB.getC (Or.inl fa_Md_17) d_Md_fits_12 (by decide) sK_126 rfl ?_
    refine hB.iload_n d_Md_fits_15 rfl ?_
    refine hB.cald d_Md_fits_16 (by decide) rfl rfl (by omega) (by decide) ?_
    refine hB.aload_n d_Md_fits_17 rfl ?_
    refine hB.getC (Or.inl fa_Md_40) d_Md_fits_18 (by decide) sK_126 rfl ?_
    refine hB.iload_n d_Md_fits_21 rfl ?_
    refine hB.cald d_Md_fits_22 (by decide) rfl rfl (by omega) (by decide) ?_
    rw [hE9.1, hC.2.1]
    refine hB.icmp_ne d_Md_fits_23 (tgt := 30) rfl (fun q23 => ?_) (fun q23 => ?_)
    · refine hB.iconst d_Md_fits_30 (v := 0) rfl ?_
      first
        | (refine h31 true ?_; have h9 : X9.2.1 = 42 := q8; simp [h9]; done)
        | (refine h31 true ?_; have h9 : X9.2.1 = xKd C := q23; simp [h9]; done)
        | (refine h31 false ?_; have h8 : ¬ X9.2.1 = 42 := q8; have h9 : ¬ X9.2.1 = xKd C := q23; simp [h8, h9])
    · refine hB.iconst d_Md_fits_26 (v := 1) rfl ?_
      refine hB.goto d_Md_fits_27 (tgt := 31) rfl ?_
      first
        | (refine h31 true ?_; have h9 : X9.2.1 = 42 := q8; simp [h9]; done)
        | (refine h31 true ?_; have h9 : X9.2.1 = xKd C := q23; simp [h9]; done)
        | (refine h31 false ?_; have h8 : ¬ X9.2.1 = 42 := q8; have h9 : ¬ X9.2.1 = xKd C := q23; simp [h8, h9])
set_option maxRecDepth 100000 in
set_option maxHeartbeats 4000000 in
theorem k_mFit1 (l : Launch) (g : mG) (ad : Nat → Nat) (z : sT) (C : eC) (n j : Nat) (X9 : pE) (hC : evM z C n) (hj : j < 8) (hE9 : mdE z j X9) (hN : wN X9.2.2.2.2.2) (i : Nat) (R : rR) (hi : i < 75) (hR : mdR z i R) (h1 : 1 ≤ R.2.1) (h19 : R.2.1 ≤ 19) (hV0 : ∀ m, m < R.2.1 → ∃ e, e < n ∧ R.2.2.1 m = nI e) (hV : wV R.2.2.2.2.2) : sC l y_Md_fits c_Md_fits 7 (some .boolean) 0 g ad [.ref (ad 126), .int (nI j), .int (nI i), .int (nI n)] z (fun r w => r = some (.int (bI (aFit C X9 R))) ∧ w = z) := by
  refine sC.intro (own := R_Md) rfl (by decide) (by decide) (by simp [Value.category]) (Nat.le_of_ble_eq_true rfl) (fun K hB hE => ?_)
  show K 0 [some (.ref (ad 126)), some (.int (nI j)), some (.int (nI i)), some (.int (nI n)), none, none, none] [] z
  have hn2 := hC.1
  have h128 : ∀ (b : Bool) (th : Int32) (o5 o6 : Option Value), wV th → aFit C X9 R = (b && rTs X9.2.2.2.1 (xVa C) th) → K 128 [some (.ref (ad 126)), some (.int (nI j)), some (.int (nI i)), some (.int (nI n)), some (.int (bI b)), o5, o6] [.int th] z := by
    intro b th o5 o6 hth hres
    rw [rTs_cd] at hres
    have hcd0 := hE9.2.2.2.1
    rcases cdT_4 X9.2.2.2.1 with hk | hk | hk | hk
    · have hcd : z.1 131 j = 0 := hcd0.trans hk
      have e0 : aFit C X9 R = (b && true) := by rw [hres, hk]; rfl
      refine hB.istore d_Md_fits_128 (Nat.le_of_ble_eq_true rfl) ?_
      refine hB.aload_n d_Md_fits_130 rfl ?_
      refine hB.getC (Or.inl fa_Md_46) d_Md_fits_131 (by decide) sK_126 rfl ?_
      refine hB.iload_n d_Md_fits_134 rfl ?_
      refine hB.iald d_Md_fits_135 (by decide) rfl rfl (by omega) (by decide) ?_
      rw [hC.2.2.2.1]
      refine hB.iload d_Md_fits_136 rfl ?_
      refine hB.isub d_Md_fits_138 ?_
      refine hB.istore d_Md_fits_139 (Nat.le_of_ble_eq_true rfl) ?_
      refine hB.iload d_Md_fits_141 rfl ?_
      refine hB.if_eq d_Md_fits_143 (tgt := 204) rfl (fun q143 => ?_) (fun q143 => ?_)
      · refine hB.iconst d_Md_fits_204 (v := 0) rfl ?_
        exact hE.1 _ _ _ _ _ d_Md_fits_205 rfl rfl ⟨by
          rw [e0]
          first
            | (have h9 := bI_0 q143; rw [h9]; rfl; done)
            | (have h9 := bI_1 q143; rw [h9]; rfl; done)
            | (have h9 := bI_1 q143; have h8 := (sub_lt hC.2.2.2.2.2.2 hth).mp q167; rw [h9]; simp [h8, bI]; done)
            | (have h9 := bI_1 q143; have h8 := mt (sub_lt hC.2.2.2.2.2.2 hth).mpr q167; rw [h9]; simp [h8, bI]; done)
            | (have h9 := bI_1 q143; have h8 := (sub_0 hC.2.2.2.2.2.2 hth).mp q182; rw [h9]; simp [h8, bI]; done)
            | (have h9 := bI_1 q143; have h8 := mt (sub_0 hC.2.2.2.2.2.2 hth).mpr q182; rw [h9]; simp [h8, bI]; done)
            | (have h9 := bI_1 q143; have h8 := Int32.not_lt.mpr ((sub_le hC.2.2.2.2.2.2 hth).mp q197); rw [h9]; simp [h8, bI]; done)
            | (have h9 := bI_1 q143; have h8 := Int32.not_le.mp (mt (sub_le hC.2.2.2.2.2.2 hth).mpr q197); rw [h9]; simp [h8, bI]), rfl⟩
      · refine hB.aload_n d_Md_fits_146 rfl ?_
        refine hB.getC (Or.inl fa_Md_27) d_Md_fits_147 (by decide) sK_126 rfl ?_
        refine hB.iload_n d_Md_fits_150 rfl ?_
        refine hB.iald d_Md_fits_151 (by decide) rfl rfl (by omega) (by decide) ?_
        rw [hcd]
        refine hB.if_eq d_Md_fits_152 (tgt := 200) rfl (fun q152 => ?_) (fun q152 => absurd rfl q152)
        refine hB.iconst d_Md_fits_200 (v := 1) rfl ?_
        refine hB.goto d_Md_fits_201 (tgt := 205) rfl ?_
        exact hE.1 _ _ _ _ _ d_Md_fits_205 rfl rfl ⟨by
          rw [e0]
          first
            | (have h9 := bI_0 q143; rw [h9]; rfl; done)
            | (have h9 := bI_1 q143; rw [h9]; rfl; done)
            | (have h9 := bI_1 q143; have h8 := (sub_lt hC.2.2.2.2.2.2 hth).mp q167; rw [h9]; simp [h8, bI]; done)
            | (have h9 := bI_1 q143; have h8 := mt (sub_lt hC.2.2.2.2.2.2 hth).mpr q167; rw [h9]; simp [h8, bI]; done)
            | (have h9 := bI_1 q143; have h8 := (sub_0 hC.2.2.2.2.2.2 hth).mp q182; rw [h9]; simp [h8, bI]; done)
            | (have h9 := bI_1 q143; have h8 := mt (sub_0 hC.2.2.2.2.2.2 hth).mpr q182; rw [h9]; simp [h8, bI]; done)
            | (have h9 := bI_1 q143; have h8 := Int32.not_lt.mpr ((sub_le hC.2.2.2.2.2.2 hth).mp q197); rw [h9]; simp [h8, bI]; done)
            | (have h9 := bI_1 q143; have h8 := Int32.not_le.mp (mt (sub_le hC.2.2.2.2.2.2 hth).mpr q197); rw [h9]; simp [h8, bI]), rfl⟩
    · have hcd : z.1 131 j = 1 := hcd0.trans hk
      have e0 : aFit C X9 R = (b && decide (xVa C < th)) := by rw [hres, hk]; rfl
      refine hB.istore d_Md_fits_128 (Nat.le_of_ble_eq_true rfl) ?_
      refine hB.aload_n d_Md_fits_130 rfl ?_
      refine hB.getC (Or.inl fa_Md_46) d_Md_fits_131 (by decide) sK_126 rfl ?_
      refine hB.iload_n d_Md_fits_134 rfl ?_
      refine hB.iald d_Md_fits_135 (by decide) rfl rfl (by omega) (by decide) ?_
      rw [hC.2.2.2.1]
      refine hB.iload d_Md_fits_136 rfl ?_
      refine hB.isub d_Md_fits_138 ?_
      refine hB.istore d_Md_fits_139 (Nat.le_of_ble_eq_true rfl) ?_
      refine hB.iload d_Md_fits_141 rfl ?_
      refine hB.if_eq d_Md_fits_143 (tgt := 204) rfl (fun q143 => ?_) (fun q143 => ?_)
      · refine hB.iconst d_Md_fits_204 (v := 0) rfl ?_
        exact hE.1 _ _ _ _ _ d_Md_fits_205 rfl rfl ⟨by
          rw [e0]
          first
            | (have h9 := bI_0 q143; rw [h9]; rfl; done)
            | (have h9 := bI_1 q143; rw [h9]; rfl; done)
            | (have h9 := bI_1 q143; have h8 := (sub_lt hC.2.2.2.2.2.2 hth).mp q167; rw [h9]; simp [h8, bI]; done)
            | (have h9 := bI_1 q143; have h8 := mt (sub_lt hC.2.2.2.2.2.2 hth).mpr q167; rw [h9]; simp [h8, bI]; done)
            | (have h9 := bI_1 q143; have h8 := (sub_0 hC.2.2.2.2.2.2 hth).mp q182; rw [h9]; simp [h8, bI]; done)
            | (have h9 := bI_1 q143; have h8 := mt (sub_0 hC.2.2.2.2.2.2 hth).mpr q182; rw [h9]; simp [h8, bI]; done)
            | (have h9 := bI_1 q143; have h8 := Int32.not_lt.mpr ((sub_le hC.2.2.2.2.2.2 hth).mp q197); rw [h9]; simp [h8, bI]; done)
            | (have h9 := bI_1 q143; have h8 := Int32.not_le.mp (mt (sub_le hC.2.2.2.2.2.2 hth).mpr q197); rw [h9]; simp [h8, bI]), rfl⟩
      · refine hB.aload_n d_Md_fits_146 rfl ?_
        refine hB.getC (Or.inl fa_Md_27) d_Md_fits_147 (by decide) sK_126 rfl ?_
        refine hB.iload_n d_Md_fits_150 rfl ?_
        refine hB.iald d_Md_fits_151 (by decide) rfl rfl (by omega) (by decide) ?_
        rw [hcd]
        refine hB.if_eq d_Md_fits_152 (tgt := 200) rfl (fun q152 => absurd q152 (by decide)) (fun q152 => ?_)
        refine hB.aload_n d_Md_fits_155 rfl ?_
        refine hB.getC (Or.inl fa_Md_27) d_Md_fits_156 (by decide) sK_126 rfl ?_
        refine hB.iload_n d_Md_fits_159 rfl ?_
        refine hB.iald d_Md_fits_160 (by decide) rfl rfl (by omega) (by decide) ?_
        refine hB.iconst d_Md_fits_161 (v := 1) rfl ?_
        rw [hcd]
        refine hB.icmp_ne d_Md_fits_162 (tgt := 170) rfl (fun q162 => absurd rfl q162) (fun q162 => ?_)
        refine hB.iload d_Md_fits_165 rfl ?_
        refine hB.if_lt d_Md_fits_167 (tgt := 200) rfl (fun q167 => ?_) (fun q167 => ?_)
        · refine hB.iconst d_Md_fits_200 (v := 1) rfl ?_
          refine hB.goto d_Md_fits_201 (tgt := 205) rfl ?_
          exact hE.1 _ _ _ _ _ d_Md_fits_205 rfl rfl ⟨by
          rw [e0]
          first
            | (have h9 := bI_0 q143; rw [h9]; rfl; done)
            | (have h9 := bI_1 q143; rw [h9]; rfl; done)
            | (have h9 := bI_1 q143; have h8 := (sub_lt hC.2.2.2.2.2.2 hth).mp q167; rw [h9]; simp [h8, bI]; done)
            | (have h9 := bI_1 q143; have h8 := mt (sub_lt hC.2.2.2.2.2.2 hth).mpr q167; rw [h9]; simp [h8, bI]; done)
            | (have h9 := bI_1 q143; have h8 := (sub_0 hC.2.2.2.2.2.2 hth).mp q182; rw [h9]; simp [h8, bI]; done)
            | (have h9 := bI_1 q143; have h8 := mt (sub_0 hC.2.2.2.2.2.2 hth).mpr q182; rw [h9]; simp [h8, bI]; done)
            | (have h9 := bI_1 q143; have h8 := Int32.not_lt.mpr ((sub_le hC.2.2.2.2.2.2 hth).mp q197); rw [h9]; simp [h8, bI]; done)
            | (have h9 := bI_1 q143; have h8 := Int32.not_le.mp (mt (sub_le hC.2.2.2.2.2.2 hth).mpr q197); rw [h9]; simp [h8, bI]), rfl⟩
        · refine hB.aload_n d_Md_fits_170 rfl ?_
          refine hB.getC (Or.inl fa_Md_27) d_Md_fits_171 (by decide) sK_126 rfl ?_
          refine hB.iload_n d_Md_fits_174 rfl ?_
          refine hB.iald d_Md_fits_175 (by decide) rfl rfl (by omega) (by decide) ?_
          refine hB.iconst d_Md_fits_176 (v := 2) rfl ?_
          rw [hcd]
          refine hB.icmp_ne d_Md_fits_177 (tgt := 185) rfl (fun q177 => ?_) (fun q177 => absurd q177 (by decide))
          refine hB.aload_n d_Md_fits_185 rfl ?_
          refine hB.getC (Or.inl fa_Md_27) d_Md_fits_186 (by decide) sK_126 rfl ?_
          refine hB.iload_n d_Md_fits_189 rfl ?_
          refine hB.iald d_Md_fits_190 (by decide) rfl rfl (by omega) (by decide) ?_
          refine hB.iconst d_Md_fits_191 (v := 3) rfl ?_
          rw [hcd]
          refine hB.icmp_ne d_Md_fits_192 (tgt := 204) rfl (fun q192 => ?_) (fun q192 => absurd q192 (by decide))
          refine hB.iconst d_Md_fits_204 (v := 0) rfl ?_
          exact hE.1 _ _ _ _ _ d_Md_fits_205 rfl rfl ⟨by
          rw [e0]
          first
            | (have h9 := bI_0 q143; rw [h9]; rfl; done)
            | (have h9 := bI_1 q143; rw [h9]; rfl; done)
            | (have h9 := bI_1 q143; have h8 := (sub_lt hC.2.2.2.2.2.2 hth).mp q167; rw [h9]; simp [h8, bI]; done)
            | (have h9 := bI_1 q143; have h8 := mt (sub_lt hC.2.2.2.2.2.2 hth).mpr q167; rw [h9]; simp [h8, bI]; done)
            | (have h9 := bI_1 q143; have h8 := (sub_0 hC.2.2.2.2.2.2 hth).mp q182; rw [h9]; simp [h8, bI]; done)
            | (have h9 := bI_1 q143; have h8 := mt (sub_0 hC.2.2.2.2.2.2 hth).mpr q182; rw [h9]; simp [h8, bI]; done)
            | (have h9 := bI_1 q143; have h8 := Int32.not_lt.mpr ((sub_le hC.2.2.2.2.2.2 hth).mp q197); rw [h9]; simp [h8, bI]; done)
            | (have h9 := bI_1 q143; have h8 := Int32.not_le.mp (mt (sub_le hC.2.2.2.2.2.2 hth).mpr q197); rw [h9]; simp [h8, bI]), rfl⟩
    · have hcd : z.1 131 j = 2 := hcd0.trans hk
      have e0 : aFit C X9 R = (b && decide (xVa C = th)) := by rw [hres, hk]; rfl
      refine hB.istore d_Md_fits_128 (Nat.le_of_ble_eq_true rfl) ?_
      refine hB.aload_n d_Md_fits_130 rfl ?_
      refine hB.getC (Or.inl fa_Md_46) d_Md_fits_131 (by decide) sK_126 rfl ?_
      refine hB.iload_n d_Md_fits_134 rfl ?_
      refine hB.iald d_Md_fits_135 (by decide) rfl rfl (by omega) (by decide) ?_
      rw [hC.2.2.2.1]
      refine hB.iload d_Md_fits_136 rfl ?_
      refine hB.isub d_Md_fits_138 ?_
      refine hB.istore d_Md_fits_139 (Nat.le_of_ble_eq_true rfl) ?_
      refine hB.iload d_Md_fits_141 rfl ?_
      refine hB.if_eq d_Md_fits_143 (tgt := 204) rfl (fun q143 => ?_) (fun q143 => ?_)
      · refine hB.iconst d_Md_fits_204 (v := 0) rfl ?_
        exact hE.1 _ _ _ _ _ d_Md_fits_205 rfl rfl ⟨by
          rw [e0]
          first
            | (have h9 := bI_0 q143; rw [h9]; rfl; done)
            | (have h9 := bI_1 q143; rw [h9]; rfl; done)
            | (have h9 := bI_1 q143; have h8 := (sub_lt hC.2.2.2.2.2.2 hth).mp q167; rw [h9]; simp [h8, bI]; done)
            | (have h9 := bI_1 q143; have h8 := mt (sub_lt hC.2.2.2.2.2.2 hth).mpr q167; rw [h9]; simp [h8, bI]; done)
            | (have h9 := bI_1 q143; have h8 := (sub_0 hC.2.2.2.2.2.2 hth).mp q182; rw [h9]; simp [h8, bI]; done)
            | (have h9 := bI_1 q143; have h8 := mt (sub_0 hC.2.2.2.2.2.2 hth).mpr q182; rw [h9]; simp [h8, bI]; done)
            | (have h9 := bI_1 q143; have h8 := Int32.not_lt.mpr ((sub_le hC.2.2.2.2.2.2 hth).mp q197); rw [h9]; simp [h8, bI]; done)
            | (have h9 := bI_1 q143; have h8 := Int32.not_le.mp (mt (sub_le hC.2.2.2.2.2.2 hth).mpr q197); rw [h9]; simp [h8, bI]), rfl⟩
      · refine hB.aload_n d_Md_fits_146 rfl ?_
        refine hB.getC (Or.inl fa_Md_27) d_Md_fits_147 (by decide) sK_126 rfl ?_
        refine hB.iload_n d_Md_fits_150 rfl ?_
        refine hB.iald d_Md_fits_151 (by decide) rfl rfl (by omega) (by decide) ?_
        rw [hcd]
        refine hB.if_eq d_Md_fits_152 (tgt := 200) rfl (fun q152 => absurd q152 (by decide)) (fun q152 => ?_)
        refine hB.aload_n d_Md_fits_155 rfl ?_
        refine hB.getC (Or.inl fa_Md_27) d_Md_fits_156 (by decide) sK_126 rfl ?_
        refine hB.iload_n d_Md_fits_159 rfl ?_
        refine hB.iald d_Md_fits_160 (by decide) rfl rfl (by omega) (by decide) ?_
        refine hB.iconst d_Md_fits_161 (v := 1) rfl ?_
        rw [hcd]
        refine hB.icmp_ne d_Md_fits_162 (tgt := 170) rfl (fun q162 => ?_) (fun q162 => absurd q162 (by decide))
        refine hB.aload_n d_Md_fits_170 rfl ?_
        refine hB.getC (Or.inl fa_Md_27) d_Md_fits_171 (by decide) sK_126 rfl ?_
        refine hB.iload_n d_Md_fits_174 rfl ?_
        refine hB.iald d_Md_fits_175 (by decide) rfl rfl (by omega) (by decide) ?_
        refine hB.iconst d_Md_fits_176 (v := 2) rfl ?_
        rw [hcd]
        refine hB.icmp_ne d_Md_fits_177 (tgt := 185) rfl (fun q177 => absurd rfl q177) (fun q177 => ?_)
        refine hB.iload d_Md_fits_180 rfl ?_
        refine hB.if_eq d_Md_fits_182 (tgt := 200) rfl (fun q182 => ?_) (fun q182 => ?_)
        · refine hB.iconst d_Md_fits_200 (v := 1) rfl ?_
          refine hB.goto d_Md_fits_201 (tgt := 205) rfl ?_
          exact hE.1 _ _ _ _ _ d_Md_fits_205 rfl rfl ⟨by
          rw [e0]
          first
            | (have h9 := bI_0 q143; rw [h9]; rfl; done)
            | (have h9 := bI_1 q143; rw [h9]; rfl; done)
            | (have h9 := bI_1 q143; have h8 := (sub_lt hC.2.2.2.2.2.2 hth).mp q167; rw [h9]; simp [h8, bI]; done)
            | (have h9 := bI_1 q143; have h8 := mt (sub_lt hC.2.2.2.2.2.2 hth).mpr q167; rw [h9]; simp [h8, bI]; done)
            | (have h9 := bI_1 q143; have h8 := (sub_0 hC.2.2.2.2.2.2 hth).mp q182; rw [h9]; simp [h8, bI]; done)
            | (have h9 := bI_1 q143; have h8 := mt (sub_0 hC.2.2.2.2.2.2 hth).mpr q182; rw [h9]; simp [h8, bI]; done)
            | (have h9 := bI_1 q143; have h8 := Int32.not_lt.mpr ((sub_le hC.2.2.2.2.2.2 hth).mp q197); rw [h9]; simp [h8, bI]; done)
            | (have h9 := bI_1 q143; have h8 := Int32.not_le.mp (mt (sub_le hC.2.2.2.2.2.2 hth).mpr q197); rw [h9]; simp [h8, bI]), rfl⟩
        · refine hB.aload_n d_Md_fits_185 rfl ?_
          refine hB.getC (Or.inl fa_Md_27) d_Md_fits_186 (by decide) sK_126 rfl ?_
          refine hB.iload_n d_Md_fits_189 rfl ?_
          refine hB.iald d_Md_fits_190 (by decide) rfl rfl (by omega) (by decide) ?_
          refine hB.iconst d_Md_fits_191 (v := 3) rfl ?_
          rw [hcd]
          refine hB.icmp_ne d_Md_fits_192 (tgt := 204) rfl (fun q192 => ?_) (fun q192 => absurd q192 (by decide))
          refine hB.iconst d_Md_fits_204 (v := 0) rfl ?_
          exact hE.1 _ _ _ _ _ d_Md_fits_205 rfl rfl ⟨by
          rw [e0]
          first
            | (have h9 := bI_0 q143; rw [h9]; rfl; done)
            | (have h9 := bI_1 q143; rw [h9]; rfl; done)
            | (have h9 := bI_1 q143; have h8 := (sub_lt hC.2.2.2.2.2.2 hth).mp q167; rw [h9]; simp [h8, bI]; done)
            | (have h9 := bI_1 q143; have h8 := mt (sub_lt hC.2.2.2.2.2.2 hth).mpr q167; rw [h9]; simp [h8, bI]; done)
            | (have h9 := bI_1 q143; have h8 := (sub_0 hC.2.2.2.2.2.2 hth).mp q182; rw [h9]; simp [h8, bI]; done)
            | (have h9 := bI_1 q143; have h8 := mt (sub_0 hC.2.2.2.2.2.2 hth).mpr q182; rw [h9]; simp [h8, bI]; done)
            | (have h9 := bI_1 q143; have h8 := Int32.not_lt.mpr ((sub_le hC.2.2.2.2.2.2 hth).mp q197); rw [h9]; simp [h8, bI]; done)
            | (have h9 := bI_1 q143; have h8 := Int32.not_le.mp (mt (sub_le hC.2.2.2.2.2.2 hth).mpr q197); rw [h9]; simp [h8, bI]), rfl⟩
    · have hcd : z.1 131 j = 3 := hcd0.trans hk
      have e0 : aFit C X9 R = (b && decide (th < xVa C)) := by rw [hres, hk]; rfl
      refine hB.istore d_Md_fits_128 (Nat.le_of_ble_eq_true rfl) ?_
      refine hB.aload_n d_Md_fits_130 rfl ?_
      refine hB.getC (Or.inl fa_Md_46) d_Md_fits_131 (by decide) sK_126 rfl ?_
      refine hB.iload_n d_Md_fits_134 rfl ?_
      refine hB.iald d_Md_fits_135 (by decide) rfl rfl (by omega) (by decide) ?_
      rw [hC.2.2.2.1]
      refine hB.iload d_Md_fits_136 rfl ?_
      refine hB.isub d_Md_fits_138 ?_
      refine hB.istore d_Md_fits_139 (Nat.le_of_ble_eq_true rfl) ?_
      refine hB.iload d_Md_fits_141 rfl ?_
      refine hB.if_eq d_Md_fits_143 (tgt := 204) rfl (fun q143 => ?_) (fun q143 => ?_)
      · refine hB.iconst d_Md_fits_204 (v := 0) rfl ?_
        exact hE.1 _ _ _ _ _ d_Md_fits_205 rfl rfl ⟨by
          rw [e0]
          first
            | (have h9 := bI_0 q143; rw [h9]; rfl; done)
            | (have h9 := bI_1 q143; rw [h9]; rfl; done)
            | (have h9 := bI_1 q143; have h8 := (sub_lt hC.2.2.2.2.2.2 hth).mp q167; rw [h9]; simp [h8, bI]; done)
            | (have h9 := bI_1 q143; have h8 := mt (sub_lt hC.2.2.2.2.2.2 hth).mpr q167; rw [h9]; simp [h8, bI]; done)
            | (have h9 := bI_1 q143; have h8 := (sub_0 hC.2.2.2.2.2.2 hth).mp q182; rw [h9]; simp [h8, bI]; done)
            | (have h9 := bI_1 q143; have h8 := mt (sub_0 hC.2.2.2.2.2.2 hth).mpr q182; rw [h9]; simp [h8, bI]; done)
            | (have h9 := bI_1 q143; have h8 := Int32.not_lt.mpr ((sub_le hC.2.2.2.2.2.2 hth).mp q197); rw [h9]; simp [h8, bI]; done)
            | (have h9 := bI_1 q143; have h8 := Int32.not_le.mp (mt (sub_le hC.2.2.2.2.2.2 hth).mpr q197); rw [h9]; simp [h8, bI]), rfl⟩
      · refine hB.aload_n d_Md_fits_146 rfl ?_
        refine hB.getC (Or.inl fa_Md_27) d_Md_fits_147 (by decide) sK_126 rfl ?_
        refine hB.iload_n d_Md_fits_150 rfl ?_
        refine hB.iald d_Md_fits_151 (by decide) rfl rfl (by omega) (by decide) ?_
        rw [hcd]
        refine hB.if_eq d_Md_fits_152 (tgt := 200) rfl (fun q152 => absurd q152 (by decide)) (fun q152 => ?_)
        refine hB.aload_n d_Md_fits_155 rfl ?_
        refine hB.getC (Or.inl fa_Md_27) d_Md_fits_156 (by decide) sK_126 rfl ?_
        refine hB.iload_n d_Md_fits_159 rfl ?_
        refine hB.iald d_Md_fits_160 (by decide) rfl rfl (by omega) (by decide) ?_
        refine hB.iconst d_Md_fits_161 (v := 1) rfl ?_
        rw [hcd]
        refine hB.icmp_ne d_Md_fits_162 (tgt := 170) rfl (fun q162 => ?_) (fun q162 => absurd q162 (by decide))
        refine hB.aload_n d_Md_fits_170 rfl ?_
        refine hB.getC (Or.inl fa_Md_27) d_Md_fits_171 (by decide) sK_126 rfl ?_
        refine hB.iload_n d_Md_fits_174 rfl ?_
        refine hB.iald d_Md_fits_175 (by decide) rfl rfl (by omega) (by decide) ?_
        refine hB.iconst d_Md_fits_176 (v := 2) rfl ?_
        rw [hcd]
        refine hB.icmp_ne d_Md_fits_177 (tgt := 185) rfl (fun q177 => ?_) (fun q177 => absurd q177 (by decide))
        refine hB.aload_n d_Md_fits_185 rfl ?_
        refine hB.getC (Or.inl fa_Md_27) d_Md_fits_186 (by decide) sK_126 rfl ?_
        refine hB.iload_n d_Md_fits_189 rfl ?_
        refine hB.iald d_Md_fits_190 (by decide) rfl rfl (by omega) (by decide) ?_
        refine hB.iconst d_Md_fits_191 (v := 3) rfl ?_
        rw [hcd]
        refine hB.icmp_ne d_Md_fits_192 (tgt := 204) rfl (fun q192 => absurd rfl q192) (fun q192 => ?_)
        refine hB.iload d_Md_fits_195 rfl ?_
        refine hB.if_le d_Md_fits_197 (tgt := 204) rfl (fun q197 => ?_) (fun q197 => ?_)
        · refine hB.iconst d_Md_fits_204 (v := 0) rfl ?_
          exact hE.1 _ _ _ _ _ d_Md_fits_205 rfl rfl ⟨by
          rw [e0]
          first
            | (have h9 := bI_0 q143; rw [h9]; rfl; done)
            | (have h9 := bI_1 q143; rw [h9]; rfl; done)
            | (have h9 := bI_1 q143; have h8 := (sub_lt hC.2.2.2.2.2.2 hth).mp q167; rw [h9]; simp [h8, bI]; done)
            | (have h9 := bI_1 q143; have h8 := mt (sub_lt hC.2.2.2.2.2.2 hth).mpr q167; rw [h9]; simp [h8, bI]; done)
            | (have h9 := bI_1 q143; have h8 := (sub_0 hC.2.2.2.2.2.2 hth).mp q182; rw [h9]; simp [h8, bI]; done)
            | (have h9 := bI_1 q143; have h8 := mt (sub_0 hC.2.2.2.2.2.2 hth).mpr q182; rw [h9]; simp [h8, bI]; done)
            | (have h9 := bI_1 q143; have h8 := Int32.not_lt.mpr ((sub_le hC.2.2.2.2.2.2 hth).mp q197); rw [h9]; simp [h8, bI]; done)
            | (have h9 := bI_1 q143; have h8 := Int32.not_le.mp (mt (sub_le hC.2.2.2.2.2.2 hth).mpr q197); rw [h9]; simp [h8, bI]), rfl⟩
        · refine hB.iconst d_Md_fits_200 (v := 1) rfl ?_
          refine hB.goto d_Md_fits_201 (tgt := 205) rfl ?_
          exact hE.1 _ _ _ _ _ d_Md_fits_205 rfl rfl ⟨by
          rw [e0]
          first
            | (have h9 := bI_0 q143; rw [h9]; rfl; done)
            | (have h9 := bI_1 q143; rw [h9]; rfl; done)
            | (have h9 := bI_1 q143; have h8 := (sub_lt hC.2.2.2.2.2.2 hth).mp q167; rw [h9]; simp [h8, bI]; done)
            | (have h9 := bI_1 q143; have h8 := mt (sub_lt hC.2.2.2.2.2.2 hth).mpr q167; rw [h9]; simp [h8, bI]; done)
            | (have h9 := bI_1 q143; have h8 := (sub_0 hC.2.2.2.2.2.2 hth).mp q182; rw [h9]; simp [h8, bI]; done)
            | (have h9 := bI_1 q143; have h8 := mt (sub_0 hC.2.2.2.2.2.2 hth).mpr q182; rw [h9]; simp [h8, bI]; done)
            | (have h9 := bI_1 q143; have h8 := Int32.not_lt.mpr ((sub_le hC.2.2.2.2.2.2 hth).mp q197); rw [h9]; simp [h8, bI]; done)
            | (have h9 := bI_1 q143; have h8 := Int32.not_le.mp (mt (sub_le hC.2.2.2.2.2.2 hth).mpr q197); rw [h9]; simp [h8, bI]), rfl⟩
  obtain ⟨e0, he0, he01⟩ := hV0 0 (by omega)
  obtain ⟨eL, heLn, heL⟩ := hV0 (R.2.1 - 1) (by omega)
  have hkey : z.1 136 e0 = R.2.2.2.1 := (hR.2.2.2.1 e0 (by omega) he01).1
  have hval : z.1 137 eL = R.2.2.2.2.2 := hR.2.2.2.2 eL (by omega) heL
  have he02 : z.1 141 (24 * i) = nI e0 := (hR.2.2.1 0 (by omega)).trans he01
  have h83 : ∀ b : Bool, b = ((decide (X9.2.1 = 42) || decide (X9.2.1 = xKd C)) && (decide (xKy C = 0) || decide (xKe C = R.2.2.2.1))) → K 83 [some (.ref (ad 126)), some (.int (nI j)), some (.int (nI i)), some (.int (nI n)), some (.int (bI b)), some (.int (nI e0)), none] [] z := by
    intro b hb
    refine hB.aload_n d_Md_fits_83 rfl ?_
    refine hB.getC (Or.inl fa_Md_31) d_Md_fits_84 (by decide) sK_126 rfl ?_
    refine hB.iload_n d_Md_fits_87 rfl ?_
    refine hB.zald d_Md_fits_88 (by decide) rfl rfl (by omega) (by decide) ?_
    rw [hE9.2.2.2.2.1]
    refine hB.if_eq d_Md_fits_89 (tgt := 122) rfl (fun q89 => ?_) (fun q89 => ?_)
    · refine hB.aload_n d_Md_fits_122 rfl ?_
      refine hB.getC (Or.inl fa_Md_34) d_Md_fits_123 (by decide) sK_126 rfl ?_
      refine hB.iload_n d_Md_fits_126 rfl ?_
      refine hB.iald d_Md_fits_127 (by decide) rfl rfl (by omega) (by decide) ?_
      refine h128 b _ _ _ ?_ ?_
      · first
          | (have h9 : z.1 133 j = X9.2.2.2.2.2 := hE9.2.2.2.2.2; rw [h9]; have := hN.1; have := hN.2; exact ⟨by omega, by omega⟩; done)
          | (rw [hval]; exact hV)
      · first
          | (have hlast : (if X9.2.2.2.2.1 = 0 then X9.2.2.2.2.2 else R.2.2.2.2.2) = z.1 133 j := (if_pos q89).trans hE9.2.2.2.2.2.symm
             unfold aFit rAd
             rw [hlast, hb]
             cases (decide (X9.2.1 = 42) || decide (X9.2.1 = xKd C)) <;> cases (decide (xKy C = 0) || decide (xKe C = R.2.2.2.1)) <;> simp
             done)
          | (have hlast : (if X9.2.2.2.2.1 = 0 then X9.2.2.2.2.2 else R.2.2.2.2.2) = z.1 137 eL := (if_neg q89).trans hval.symm
             unfold aFit rAd
             rw [hlast, hb]
             cases (decide (X9.2.1 = 42) || decide (X9.2.1 = xKd C)) <;> cases (decide (xKy C = 0) || decide (xKe C = R.2.2.2.1)) <;> simp)
    · refine hB.iload_n d_Md_fits_92 rfl ?_
      refine hB.if_lt d_Md_fits_93 (tgt := 122) rfl (fun q93 => absurd q93 (nI_pos (by omega))) (fun q93 => ?_)
      refine hB.aload_n d_Md_fits_96 rfl ?_
      refine hB.getC (Or.inl fa_Md_46) d_Md_fits_97 (by decide) sK_126 rfl ?_
      refine hB.aload_n d_Md_fits_100 rfl ?_
      refine hB.getC (Or.inl fa_Md_58) d_Md_fits_101 (by decide) sK_126 rfl ?_
      refine hB.bipush d_Md_fits_104 (v := 24) rfl ?_
      refine hB.iload_n d_Md_fits_106 rfl ?_
      refine hB.imul d_Md_fits_107 ?_
      refine hB.aload_n d_Md_fits_108 rfl ?_
      refine hB.getC (Or.inl fa_Md_55) d_Md_fits_109 (by decide) sK_126 rfl ?_
      refine hB.iload_n d_Md_fits_112 rfl ?_
      refine hB.iald d_Md_fits_113 (by decide) rfl rfl (by omega) (by decide) ?_
      refine hB.iadd d_Md_fits_114 ?_
      refine hB.iconst d_Md_fits_115 (v := 1) rfl ?_
      refine hB.isub d_Md_fits_116 ?_
      have e9 : (24 : Int32) * nI i + z.1 140 i - 1 = nI (24 * i + R.2.1 - 1) := by
        rw [hR.2.1, mul24, show (1 : Int32) = nI 1 from rfl, pk_sub (by omega)]
      refine hB.iald d_Md_fits_117 (by decide) rfl e9 (by omega) (by decide) ?_
      have heL2 : z.1 141 (24 * i + R.2.1 - 1) = nI eL := by
        rw [show 24 * i + R.2.1 - 1 = 24 * i + (R.2.1 - 1) by omega, hR.2.2.1 _ (by omega)]
        exact heL
      refine hB.iald d_Md_fits_118 (by decide) rfl heL2 (by omega) (by decide) ?_
      refine hB.goto d_Md_fits_119 (tgt := 128) rfl ?_
      refine h128 b _ _ _ ?_ ?_
      · first
          | (have h9 : z.1 133 j = X9.2.2.2.2.2 := hE9.2.2.2.2.2; rw [h9]; have := hN.1; have := hN.2; exact ⟨by omega, by omega⟩; done)
          | (rw [hval]; exact hV)
      · first
          | (have hlast : (if X9.2.2.2.2.1 = 0 then X9.2.2.2.2.2 else R.2.2.2.2.2) = z.1 133 j := (if_pos q89).trans hE9.2.2.2.2.2.symm
             unfold aFit rAd
             rw [hlast, hb]
             cases (decide (X9.2.1 = 42) || decide (X9.2.1 = xKd C)) <;> cases (decide (xKy C = 0) || decide (xKe C = R.2.2.2.1)) <;> simp
             done)
          | (have hlast : (if X9.2.2.2.2.1 = 0 then X9.2.2.2.2.2 else R.2.2.2.2.2) = z.1 137 eL := (if_neg q89).trans hval.symm
             unfold aFit rAd
             rw [hlast, hb]
             cases (decide (X9.2.1 = 42) || decide (X9.2.1 = xKd C)) <;> cases (decide (xKy C = 0) || decide (xKe C = R.2.2.2.1)) <;> simp)
  have h81 : ∀ b : Bool, b = ((decide (X9.2.1 = 42) || decide (X9.2.1 = xKd C)) && (decide (xKy C = 0) || decide (xKe C = R.2.2.2.1))) → ∀ b0 : Bool, K 81 [some (.ref (ad 126)), some (.int (nI j)), some (.int (nI i)), some (.int (nI n)), some (.int (bI b0)), some (.int (nI e0)), none] [.int (bI b)] z := by
    intro b hb b0
    refine hB.istore d_Md_fits_81 (Nat.le_of_ble_eq_true rfl) ?_
    exact h83 b hb
  have h31 : ∀ b : Bool, b = (decide (X9.2.1 = 42) || decide (X9.2.1 = xKd C)) → K 31 [some (.ref (ad 126)), some (.int (nI j)), some (.int (nI i)), some (.int (nI n)), none, none, none] [.int (bI b)] z := by
    intro b hb
    refine hB.istore d_Md_fits_31 (Nat.le_of_ble_eq_true rfl) ?_
    refine hB.iload_n d_Md_fits_33 rfl ?_
    refine hB.if_lt d_Md_fits_34 (tgt := 83) rfl (fun q34 => absurd q34 (nI_pos (by omega))) (fun q34 => ?_)
    refine hB.aload_n d_Md_fits_37 rfl ?_
    refine hB.getC (Or.inl fa_Md_58) d_Md_fits_38 (by decide) sK_126 rfl ?_
    refine hB.bipush d_Md_fits_41 (v := 24) rfl ?_
    refine hB.iload_n d_Md_fits_43 rfl ?_
    refine hB.imul d_Md_fits_44 ?_
    refine hB.iald d_Md_fits_45 (by decide) rfl ((Int32.ofNat_mul 24 i).symm : (24 : Int32) * nI i = nI (24 * i)) (by omega) (by decide) ?_
    rw [he02]
    refine hB.istore d_Md_fits_46 (Nat.le_of_ble_eq_true rfl) ?_
    refine hB.iload d_Md_fits_48 rfl ?_
    refine hB.if_eq d_Md_fits_50 (tgt := 80) rfl (fun q50 => ?_) (fun q50 => ?_)
    · refine hB.iconst d_Md_fits_80 (v := 0) rfl ?_
      first
        | (refine h81 false ?_ b; have h9 := bI_0 q50; rw [← hb, h9]; rfl; done)
        | (refine h81 true ?_ b; have h9 := bI_1 q50; have h8 : xKy C = 0 := q57; rw [← hb, h9]; simp [h8]; done)
        | (refine h81 true ?_ b; have h9 := bI_1 q50; have h8 : xKe C = R.2.2.2.1 := q73; rw [← hb, h9]; simp [h8]; done)
        | (refine h81 false ?_ b; have h9 := bI_1 q50; have h8 : ¬ xKe C = R.2.2.2.1 := q73; have h7 : ¬ xKy C = 0 := q57; rw [← hb, h9]; simp [h8, h7])
    · refine hB.aload_n d_Md_fits_53 rfl ?_
      refine hB.getI (Or.inl fa_Md_111) d_Md_fits_54 (by decide) sK_126 rfl ?_
      rw [hC.2.2.2.2.2.1]
      refine hB.if_eq d_Md_fits_57 (tgt := 76) rfl (fun q57 => ?_) (fun q57 => ?_)
      · refine hB.iconst d_Md_fits_76 (v := 1) rfl ?_
        refine hB.goto d_Md_fits_77 (tgt := 81) rfl ?_
        first
          | (refine h81 false ?_ b; have h9 := bI_0 q50; rw [← hb, h9]; rfl; done)
          | (refine h81 true ?_ b; have h9 := bI_1 q50; have h8 : xKy C = 0 := q57; rw [← hb, h9]; simp [h8]; done)
          | (refine h81 true ?_ b; have h9 := bI_1 q50; have h8 : xKe C = R.2.2.2.1 := q73; rw [← hb, h9]; simp [h8]; done)
          | (refine h81 false ?_ b; have h9 := bI_1 q50; have h8 : ¬ xKe C = R.2.2.2.1 := q73; have h7 : ¬ xKy C = 0 := q57; rw [← hb, h9]; simp [h8, h7])
      · refine hB.aload_n d_Md_fits_60 rfl ?_
        refine hB.getC (Or.inl fa_Md_43) d_Md_fits_61 (by decide) sK_126 rfl ?_
        refine hB.iload_n d_Md_fits_64 rfl ?_
        refine hB.iald d_Md_fits_65 (by decide) rfl rfl (by omega) (by decide) ?_
        refine hB.aload_n d_Md_fits_66 rfl ?_
        refine hB.getC (Or.inl fa_Md_43) d_Md_fits_67 (by decide) sK_126 rfl ?_
        refine hB.iload d_Md_fits_70 rfl ?_
        refine hB.iald d_Md_fits_72 (by decide) rfl rfl (by omega) (by decide) ?_
        rw [hC.2.2.1, hkey]
        refine hB.icmp_ne d_Md_fits_73 (tgt := 80) rfl (fun q73 => ?_) (fun q73 => ?_)
        · refine hB.iconst d_Md_fits_80 (v := 0) rfl ?_
          first
            | (refine h81 false ?_ b; have h9 := bI_0 q50; rw [← hb, h9]; rfl; done)
            | (refine h81 true ?_ b; have h9 := bI_1 q50; have h8 : xKy C = 0 := q57; rw [← hb, h9]; simp [h8]; done)
            | (refine h81 true ?_ b; have h9 := bI_1 q50; have h8 : xKe C = R.2.2.2.1 := q73; rw [← hb, h9]; simp [h8]; done)
            | (refine h81 false ?_ b; have h9 := bI_1 q50; have h8 : ¬ xKe C = R.2.2.2.1 := q73; have h7 : ¬ xKy C = 0 := q57; rw [← hb, h9]; simp [h8, h7])
        · refine hB.iconst d_Md_fits_76 (v := 1) rfl ?_
          refine hB.goto d_Md_fits_77 (tgt := 81) rfl ?_
          first
            | (refine h81 false ?_ b; have h9 := bI_0 q50; rw [← hb, h9]; rfl; done)
            | (refine h81 true ?_ b; have h9 := bI_1 q50; have h8 : xKy C = 0 := q57; rw [← hb, h9]; simp [h8]; done)
            | (refine h81 true ?_ b; have h9 := bI_1 q50; have h8 : xKe C = R.2.2.2.1 := q73; rw [← hb, h9]; simp [h8]; done)
            | (refine h81 false ?_ b; have h9 := bI_1 q50; have h8 : ¬ xKe C = R.2.2.2.1 := q73; have h7 : ¬ xKy C = 0 := q57; rw [← hb, h9]; simp [h8, h7])
  refine hB.aload_n d_Md_fits_0 rfl ?_
  refine hB.getC (Or.inl fa_Md_17) d_Md_fits_1 (by decide) sK_126 rfl ?_
  refine hB.iload_n d_Md_fits_4 rfl ?_
  refine hB.cald d_Md_fits_5 (by decide) rfl rfl (by omega) (by decide) ?_
  refine hB.bipush d_Md_fits_6 (v := 42) rfl ?_
  rw [hE9.1]
  refine hB.icmp_eq d_Md_fits_8 (tgt := 26) rfl (fun q8 => ?_) (fun q8 => ?_)
  · refine hB.iconst d_Md_fits_26 (v := 1) rfl ?_
    refine hB.goto d_Md_fits_27 (tgt := 31) rfl ?_
    first
      | (refine h31 true ?_; have h9 : X9.2.1 = 42 := q8; simp [h9]; done)
      | (refine h31 true ?_; have h9 : X9.2.1 = xKd C := q23; simp [h9]; done)
      | (refine h31 false ?_; have h8 : ¬ X9.2.1 = 42 := q8; have h9 : ¬ X9.2.1 = xKd C := q23; simp [h8, h9])
  · refine hB.aload_n d_Md_fits_11 rfl ?_
    refine hB.getC (Or.inl fa_Md_17) d_Md_fits_12 (by decide) sK_126 rfl ?_
    refine hB.iload_n d_Md_fits_15 rfl ?_
    refine hB.cald d_Md_fits_16 (by decide) rfl rfl (by omega) (by decide) ?_
    refine hB.aload_n d_Md_fits_17 rfl ?_
    refine hB.getC (Or.inl fa_Md_40) d_Md_fits_18 (by decide) sK_126 rfl ?_
    refine hB.iload_n d_Md_fits_21 rfl ?_
    refine hB.cald d_Md_fits_22 (by decide) rfl rfl (by omega) (by decide) ?_
    rw [hE9.1, hC.2.1]
    refine hB.icmp_ne d_Md_fits_23 (tgt := 30) rfl (fun q23 => ?_) (fun q23 => ?_)
    · refine hB.iconst d_Md_fits_30 (v := 0) rfl ?_
      first
        | (refine h31 true ?_; have h9 : X9.2.1 = 42 := q8; simp [h9]; done)
        | (refine h31 true ?_; have h9 : X9.2.1 = xKd C := q23; simp [h9]; done)
        | (refine h31 false ?_; have h8 : ¬ X9.2.1 = 42 := q8; have h9 : ¬ X9.2.1 = xKd C := q23; simp [h8, h9])
    · refine hB.iconst d_Md_fits_26 (v := 1) rfl ?_
      refine hB.goto d_Md_fits_27 (tgt := 31) rfl ?_
      first
        | (refine h31 true ?_; have h9 : X9.2.1 = 42 := q8; simp [h9]; done)
        | (refine h31 true ?_; have h9 : X9.2.1 = xKd C := q23; simp [h9]; done)
        | (refine h31 false ?_; have h8 : ¬ X9.2.1 = 42 := q8; have h9 : ¬ X9.2.1 = xKd C := q23; simp [h8, h9])
