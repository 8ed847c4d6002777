theorem bI_fit (b : Bool) : fits .boolean (.int (bI b)) = true := by cases b <;> rfl
theorem sRf_el {z : sT} {p j : Nat} (hp : p = 8 ∨ p = 11) : sRf z (p + 1) (pb p + 1) j = pb p + j := by
  unfold sRf
  rw [if_neg (by omega)]
  omega
theorem sRf_0 {z : sT} {i j : Nat} : sRf z i 0 j = z.2.1 i j := rfl
set_option maxRecDepth 100000 in
set_option maxHeartbeats 4000000 in
theorem k_Pt_clear (l : Launch) (g : mG) (ad : Nat → Nat) (z : sT) (pt : Nat) (hp : pt = 8 ∨ pt = 11) : sC l y_Pt_clear c_Pt_clear 1 none 0 g ad [.ref (ad pt)] z (fun r w => r = none ∧ w = sI (sI (sI (sI z pt 2 0) pt 3 0) pt 4 0) pt 5 0) := by
  refine sC.intro (own := R_Pt) rfl (by decide) (by decide) (by simp [Value.category]) (Nat.le_of_ble_eq_true rfl) (fun K hB hE => ?_)
  show K 0 [some (.ref (ad pt))] [] z
  refine hB.aload_n d_Pt_clear_0 rfl ?_
  refine hB.iconst d_Pt_clear_1 (v := 0) rfl ?_
  refine hB.putI (Or.inl fa_Pt_22) d_Pt_clear_2 (by omega) (sK_pt hp) rfl rfl rfl ?_
  refine hB.aload_n d_Pt_clear_5 rfl ?_
  refine hB.iconst d_Pt_clear_6 (v := 0) rfl ?_
  refine hB.putI (Or.inl fa_Pt_26) d_Pt_clear_7 (by omega) (sK_pt hp) rfl rfl rfl ?_
  refine hB.aload_n d_Pt_clear_10 rfl ?_
  refine hB.iconst d_Pt_clear_11 (v := 0) rfl ?_
  refine hB.putI (Or.inl fa_Pt_29) d_Pt_clear_12 (by omega) (sK_pt hp) rfl rfl rfl ?_
  refine hB.aload_n d_Pt_clear_15 rfl ?_
  refine hB.iconst d_Pt_clear_16 (v := 0) rfl ?_
  refine hB.putI (Or.inl fa_Pt_33) d_Pt_clear_17 (by omega) (sK_pt hp) rfl rfl rfl ?_
  exact hE.2.2 _ _ _ d_Pt_clear_20 rfl ⟨rfl, rfl⟩
set_option maxRecDepth 100000 in
set_option maxHeartbeats 4000000 in
theorem k_Pt_countElement (l : Launch) (g : mG) (ad : Nat → Nat) (z : sT) (pt k ns : Nat) (hp : pt = 8 ∨ pt = 11) (hk : z.1 pt 2 = nI k) (hk8 : k < 8) (hs : z.1 pt 3 = nI ns) (hns : ns ≤ k) : sC l y_Pt_countElement c_Pt_countElement 1 none 0 g ad [.ref (ad pt)] z (fun r w => r = none ∧ w = (if z.1 (pb pt + k) 0 = 0 then sI (sI (sI z (pt + 2) ns (nI k)) pt 3 (nI (ns + 1))) pt 2 (nI (k + 1)) else sI z pt 2 (nI (k + 1)))) := by
  refine sC.intro (own := R_Pt) rfl (by decide) (by decide) (by simp [Value.category]) (Nat.le_of_ble_eq_true rfl) (fun K hB hE => ?_)
  show K 0 [some (.ref (ad pt))] [] z
  have hpb := pb_in hp
  refine hB.aload_n d_Pt_countElement_0 rfl ?_
  refine hB.getI (Or.inl fa_Pt_22) d_Pt_countElement_1 (by omega) (sK_pt hp) rfl ?_
  refine hB.bipush d_Pt_countElement_4 (v := 8) rfl ?_
  refine hB.icmp_ge d_Pt_countElement_6 (tgt := 57) rfl (fun q6 => absurd q6 (by rw [hk]; exact nI_ge (b := 8) hk8 (by decide))) (fun q6 => ?_)
  refine hB.aload_n d_Pt_countElement_9 rfl ?_
  refine hB.getC (Or.inl fa_Pt_11) d_Pt_countElement_10 (by omega) (sK_pt hp) rfl ?_
  refine hB.aload_n d_Pt_countElement_13 rfl ?_
  refine hB.getI (Or.inl fa_Pt_22) d_Pt_countElement_14 (by omega) (sK_pt hp) rfl ?_
  refine hB.aald5 d_Pt_countElement_17 (by omega) (sK_els hp) hk (by omega) (by decide) ?_
  rw [sRf_el hp]
  refine hB.getI (Or.inr fa_Pt_36) d_Pt_countElement_18 (by omega) (sK_el (by omega) (by omega)) rfl ?_
  refine hB.if_ne d_Pt_countElement_21 (tgt := 47) rfl (fun q21 => ?_) (fun q21 => ?_)
  · refine hB.aload_n d_Pt_countElement_47 rfl ?_
    refine hB.dup d_Pt_countElement_48 rfl ?_
    refine hB.getI (Or.inl fa_Pt_22) d_Pt_countElement_49 (by omega) (sK_pt hp) rfl ?_
    refine hB.iconst d_Pt_countElement_52 (v := 1) rfl ?_
    refine hB.iadd d_Pt_countElement_53 ?_
    refine hB.putI (Or.inl fa_Pt_22) d_Pt_countElement_54 (by omega) (sK_pt hp) rfl rfl rfl ?_
    exact hE.2.2 _ _ _ d_Pt_countElement_57 rfl ⟨rfl, by first
      | (rw [if_neg q21, hk, nI_succ]; done)
      | (have e1 : (sI z (pt + 2) ns (z.1 pt 2)).1 pt 3 = nI ns := by simpa [sI] using hs
         have e2 : (sI (sI z (pt + 2) ns (nI k)) pt 3 (nI (ns + 1))).1 pt 2 = nI k := by simpa [sI] using hk
         rw [if_pos q21, e1, ← nI_succ, hk, e2, ← nI_succ])⟩
  · refine hB.aload_n d_Pt_countElement_24 rfl ?_
    refine hB.getC (Or.inl fa_Pt_18) d_Pt_countElement_25 (by omega) (sK_pt hp) rfl ?_
    refine hB.aload_n d_Pt_countElement_28 rfl ?_
    refine hB.getI (Or.inl fa_Pt_26) d_Pt_countElement_29 (by omega) (sK_pt hp) rfl ?_
    refine hB.aload_n d_Pt_countElement_32 rfl ?_
    refine hB.getI (Or.inl fa_Pt_22) d_Pt_countElement_33 (by omega) (sK_pt hp) rfl ?_
    refine hB.iast d_Pt_countElement_36 (by omega) (sK_pl hp) hs (by omega) (by decide) ?_
    refine hB.aload_n d_Pt_countElement_37 rfl ?_
    refine hB.dup d_Pt_countElement_38 rfl ?_
    refine hB.getI (Or.inl fa_Pt_26) d_Pt_countElement_39 (by omega) (sK_pt hp) rfl ?_
    refine hB.iconst d_Pt_countElement_42 (v := 1) rfl ?_
    refine hB.iadd d_Pt_countElement_43 ?_
    refine hB.putI (Or.inl fa_Pt_26) d_Pt_countElement_44 (by omega) (sK_pt hp) rfl rfl rfl ?_
    refine hB.aload_n d_Pt_countElement_47 rfl ?_
    refine hB.dup d_Pt_countElement_48 rfl ?_
    refine hB.getI (Or.inl fa_Pt_22) d_Pt_countElement_49 (by omega) (sK_pt hp) rfl ?_
    refine hB.iconst d_Pt_countElement_52 (v := 1) rfl ?_
    refine hB.iadd d_Pt_countElement_53 ?_
    refine hB.putI (Or.inl fa_Pt_22) d_Pt_countElement_54 (by omega) (sK_pt hp) rfl rfl rfl ?_
    exact hE.2.2 _ _ _ d_Pt_countElement_57 rfl ⟨rfl, by first
      | (rw [if_neg q21, hk, nI_succ]; done)
      | (have e1 : (sI z (pt + 2) ns (z.1 pt 2)).1 pt 3 = nI ns := by simpa [sI] using hs
         have e2 : (sI (sI z (pt + 2) ns (nI k)) pt 3 (nI (ns + 1))).1 pt 2 = nI k := by simpa [sI] using hk
         rw [if_pos q21, e1, ← nI_succ, hk, e2, ← nI_succ])⟩
set_option maxRecDepth 100000 in
set_option maxHeartbeats 4000000 in
theorem k_Pt_mayEnd (l : Launch) (g : mG) (ad : Nat → Nat) (z : sT) (pt k : Nat) (hp : pt = 8 ∨ pt = 11) (hk : z.1 pt 2 = nI k) (hk8 : k ≤ 8) : sC l y_Pt_mayEnd c_Pt_mayEnd 1 (some .boolean) 0 g ad [.ref (ad pt)] z (fun r w => r = some (.int (bI (decide (0 < k) && (decide (z.1 (pb pt + (k - 1)) 0 = 0) && decide (z.1 (pb pt + (k - 1)) 2 = 0))))) ∧ w = z) := by
  refine sC.intro (own := R_Pt) rfl (by decide) (by decide) (by simp [Value.category]) (Nat.le_of_ble_eq_true rfl) (fun K hB hE => ?_)
  show K 0 [some (.ref (ad pt))] [] z
  have hpb := pb_in hp
  refine hB.aload_n d_Pt_mayEnd_0 rfl ?_
  refine hB.getI (Or.inl fa_Pt_22) d_Pt_mayEnd_1 (by omega) (sK_pt hp) rfl ?_
  refine hB.if_le d_Pt_mayEnd_4 (tgt := 45) rfl (fun q4 => ?_) (fun q4 => ?_)
  · refine hB.iconst d_Pt_mayEnd_45 (v := 0) rfl ?_
    exact hE.1 _ _ _ _ _ d_Pt_mayEnd_46 rfl rfl ⟨by first
      | (have h9 : ¬ 0 < k := fun q => absurd q4 (by rw [hk]; exact nI_nle q (by omega))
         simp [bI, h9]; done)
      | (simp [bI, hk0, q21]; done)
      | (simp [bI, hk0, q21, q38]), rfl⟩
  · have hk0 : 0 < k := by
      rcases Nat.eq_zero_or_pos k with h | h
      · exact absurd (by rw [hk, h]; exact Int32.le_refl _) q4
      · exact h
    have hk1 : z.1 pt 2 - 1 = nI (k - 1) := by
      rw [hk, show (1 : Int32) = nI 1 from rfl, pk_sub hk0]
    refine hB.aload_n d_Pt_mayEnd_7 rfl ?_
    refine hB.getC (Or.inl fa_Pt_11) d_Pt_mayEnd_8 (by omega) (sK_pt hp) rfl ?_
    refine hB.aload_n d_Pt_mayEnd_11 rfl ?_
    refine hB.getI (Or.inl fa_Pt_22) d_Pt_mayEnd_12 (by omega) (sK_pt hp) rfl ?_
    refine hB.iconst d_Pt_mayEnd_15 (v := 1) rfl ?_
    refine hB.isub d_Pt_mayEnd_16 ?_
    refine hB.aald5 d_Pt_mayEnd_17 (by omega) (sK_els hp) hk1 (by omega) (by decide) ?_
    rw [sRf_el hp]
    refine hB.getI (Or.inr fa_Pt_36) d_Pt_mayEnd_18 (by omega) (sK_el (by omega) (by omega)) rfl ?_
    refine hB.if_ne d_Pt_mayEnd_21 (tgt := 45) rfl (fun q21 => ?_) (fun q21 => ?_)
    · refine hB.iconst d_Pt_mayEnd_45 (v := 0) rfl ?_
      exact hE.1 _ _ _ _ _ d_Pt_mayEnd_46 rfl rfl ⟨by first
      | (have h9 : ¬ 0 < k := fun q => absurd q4 (by rw [hk]; exact nI_nle q (by omega))
         simp [bI, h9]; done)
      | (simp [bI, hk0, q21]; done)
      | (simp [bI, hk0, q21, q38]), rfl⟩
    · refine hB.aload_n d_Pt_mayEnd_24 rfl ?_
      refine hB.getC (Or.inl fa_Pt_11) d_Pt_mayEnd_25 (by omega) (sK_pt hp) rfl ?_
      refine hB.aload_n d_Pt_mayEnd_28 rfl ?_
      refine hB.getI (Or.inl fa_Pt_22) d_Pt_mayEnd_29 (by omega) (sK_pt hp) rfl ?_
      refine hB.iconst d_Pt_mayEnd_32 (v := 1) rfl ?_
      refine hB.isub d_Pt_mayEnd_33 ?_
      refine hB.aald5 d_Pt_mayEnd_34 (by omega) (sK_els hp) hk1 (by omega) (by decide) ?_
      rw [sRf_el hp]
      refine hB.getI (Or.inr fa_Pt_39) d_Pt_mayEnd_35 (by omega) (sK_el (by omega) (by omega)) rfl ?_
      refine hB.if_ne d_Pt_mayEnd_38 (tgt := 45) rfl (fun q38 => ?_) (fun q38 => ?_)
      · refine hB.iconst d_Pt_mayEnd_45 (v := 0) rfl ?_
        exact hE.1 _ _ _ _ _ d_Pt_mayEnd_46 rfl rfl ⟨by first
      | (have h9 : ¬ 0 < k := fun q => absurd q4 (by rw [hk]; exact nI_nle q (by omega))
         simp [bI, h9]; done)
      | (simp [bI, hk0, q21]; done)
      | (simp [bI, hk0, q21, q38]), rfl⟩
      · refine hB.iconst d_Pt_mayEnd_41 (v := 1) rfl ?_
        refine hB.goto d_Pt_mayEnd_42 (tgt := 46) rfl ?_
        exact hE.1 _ _ _ _ _ d_Pt_mayEnd_46 rfl rfl ⟨by first
      | (have h9 : ¬ 0 < k := fun q => absurd q4 (by rw [hk]; exact nI_nle q (by omega))
         simp [bI, h9]; done)
      | (simp [bI, hk0, q21]; done)
      | (simp [bI, hk0, q21, q38]), rfl⟩
theorem sI_rd {z : sT} {n p pt k : Nat} {x : Int32} (h : rdA z n p) (hp : pt = 8 ∨ pt = 11) : rdA (sI z pt k x) n p := by
  obtain ⟨h1, h2, h3, h4, h5⟩ := h
  have e1 : ¬ 1 = pt := by omega
  have e2 : ¬ 2 = pt := by omega
  refine ⟨?_, ?_, h3, h4, fun i hi => ?_⟩
  · simpa [sI, e1] using h1
  · simpa [sI, e1] using h2
  · simpa [sI, e2] using h5 i hi
theorem sI_tx {z : sT} {pt k : Nat} {x : Int32} (hp : pt = 8 ∨ pt = 11) : (sI z pt k x).1 2 = z.1 2 := sI_row (by omega)
theorem sI_sPl {z : sT} {pt k q : Nat} {x : Int32} (hp : pt = 8 ∨ pt = 11) : sPl (sI z pt k x) q = sI (sPl z q) pt k x := sI_comm (Or.inl (by omega))
set_option maxRecDepth 100000 in
set_option maxHeartbeats 4000000 in
theorem k_Rd_readEnd (l : Launch) (g : mG) (ad : Nat → Nat) (z : sT) (n p pt : Nat) (hp : pt = 8 ∨ pt = 11) (hR : rdA z n p) : sC l y_Rd_readEnd c_Rd_readEnd 2 (some .boolean) 3 g ad [.ref (ad 1), .ref (ad pt)] z (fun r w => r = some (.int (bI (cEd (z.1 2) n p).1)) ∧ ∃ x : Int32, w = sI (sI (sPl z (cEd (z.1 2) n p).2.1) pt 4 (cEd (z.1 2) n p).2.2.1) pt 5 x ∧ ((cEd (z.1 2) n p).1 = true → x = (cEd (z.1 2) n p).2.2.2)) := by
  refine sC.intro (own := R_Rd) rfl (by decide) (by decide) (by simp [Value.category]) (Nat.le_of_ble_eq_true rfl) (fun K hB hE => ?_)
  show K 0 [some (.ref (ad 1)), some (.ref (ad pt))] [] z
  have h10 : ∀ (x : Nat) (b : Bool), x ≤ n → cEd (z.1 2) n p = cEn (z.1 2) n x (bI b) → K 10 [some (.ref (ad 1)), some (.ref (ad pt))] [] (sI (sPl z x) pt 4 (bI b)) := by
    intro x b hx hc
    have hA : rdA (sI (sPl z x) pt 4 (bI b)) n x := sI_rd (hR.pl hx) hp
    have etx : (sI (sPl z x) pt 4 (bI b)).1 2 = z.1 2 := by rw [sI_tx hp, sPl_tx]
    refine hB.aload_n d_Rd_readEnd_10 rfl ?_
    refine hB.bipush d_Rd_readEnd_11 (v := 64) rfl ?_
    refine hB.callV lk_Rd_79 cd_Rd_passes (k_Rd_passes l g ad _ n x hA 64) rfl (by decide) sK_1 d_Rd_readEnd_13 rfl rfl (by decide) (by simp [Value.category]) ?_
    rintro _ w9 ⟨rfl, hw9⟩
    rw [hw9, etx]
    refine hB.if_ne d_Rd_readEnd_16 (tgt := 21) rfl (fun q16 => ?_) (fun q16 => ?_)
    · have h64 : pA (z.1 2) n x = 64 := by simpa using bI_1 q16
      have hxn : x < n := pA_lt (by rw [h64]; decide)
      rw [if_pos h64]
      have e1 : sI (sI (sPl z x) pt 4 (bI b)) 1 2 (nI (x + 1)) = sI (sPl z (x + 1)) pt 4 (bI b) := by
        show sPl (sI (sPl z x) pt 4 (bI b)) (x + 1) = _
        rw [sI_sPl hp, sPl_sPl]
      rw [e1]
      have hA2 : rdA (sI (sPl z (x + 1)) pt 4 (bI b)) n (x + 1) := sI_rd (hR.pl (by omega)) hp
      have e0 : cEn (z.1 2) n x (bI b) = (decide (0 ≤ (cDs (z.1 2) n 3 0 (-1) (x + 1)).1), (cDs (z.1 2) n 3 0 (-1) (x + 1)).2, bI b, (cDs (z.1 2) n 3 0 (-1) (x + 1)).1) := by unfold cEn; rw [if_pos h64]
      rw [hc, e0] at hE
      refine hB.aload_n d_Rd_readEnd_21 rfl ?_
      refine hB.aload_n d_Rd_readEnd_22 rfl ?_
      refine hB.iconst d_Rd_readEnd_23 (v := 3) rfl ?_
      refine hB.callV lk_Rd_86 cd_Rd_readDigits (k_Rd_readDigits l g ad _ n (x + 1) hA2 3 (by decide)) rfl (by decide) sK_1 d_Rd_readEnd_24 rfl rfl (by decide) (by simp [Value.category]) ?_
      rintro _ w9 ⟨rfl, hw9⟩
      rw [hw9, sI_tx hp, sPl_tx, sI_sPl hp, sPl_sPl]
      refine hB.putI (Or.inr fa_Rd_96) d_Rd_readEnd_27 (by omega) (sK_pt hp) rfl rfl rfl ?_
      refine hB.aload_n d_Rd_readEnd_30 rfl ?_
      refine hB.getI (Or.inr fa_Rd_96) d_Rd_readEnd_31 (by omega) (sK_pt hp) rfl ?_
      have e7 : ∀ y : Int32, (sI (sI (sPl z (cDs (z.1 2) n 3 0 (-1) (x + 1)).2) pt 4 (bI b)) pt 5 y).1 pt 5 = y := fun y => by simp [sI]
      rw [e7]
      refine hB.if_lt d_Rd_readEnd_34 (tgt := 41) rfl (fun q34 => ?_) (fun q34 => ?_)
      · refine hB.iconst d_Rd_readEnd_41 (v := 0) rfl ?_
        exact hE.1 _ _ _ _ _ d_Rd_readEnd_42 rfl rfl ⟨by first | (have h9 := Int32.not_lt.mp q34; simp [bI, h9]; done) | (have h9 := Int32.not_le.mpr q34; simp [bI, h9]), _, rfl, fun _ => rfl⟩
      · refine hB.iconst d_Rd_readEnd_37 (v := 1) rfl ?_
        refine hB.goto d_Rd_readEnd_38 (tgt := 42) rfl ?_
        exact hE.1 _ _ _ _ _ d_Rd_readEnd_42 rfl rfl ⟨by first | (have h9 := Int32.not_lt.mp q34; simp [bI, h9]; done) | (have h9 := Int32.not_le.mpr q34; simp [bI, h9]), _, rfl, fun _ => rfl⟩
    · refine hB.iconst d_Rd_readEnd_19 (v := 0) rfl ?_
      exact hE.1 _ _ _ _ _ d_Rd_readEnd_20 rfl rfl (by
          have h64 : ¬ pA (z.1 2) n x = 64 := by simpa using bI_0 q16
          have e0 : cEn (z.1 2) n x (bI b) = (false, x, bI b, 0) := by unfold cEn; rw [if_neg h64]
          rw [hc, e0, if_neg h64]
          exact ⟨rfl, (sI (sPl z x) pt 4 (bI b)).1 pt 5, (sI_same rfl).symm, fun q => by cases q⟩)
  refine hB.aload_n d_Rd_readEnd_0 rfl ?_
  refine hB.aload_n d_Rd_readEnd_1 rfl ?_
  refine hB.bipush d_Rd_readEnd_2 (v := 35) rfl ?_
  refine hB.callV lk_Rd_79 cd_Rd_passes (k_Rd_passes l g ad z n p hR 35) rfl (by decide) sK_1 d_Rd_readEnd_4 rfl rfl (by decide) (by simp [Value.category]) ?_
  rintro _ w9 ⟨rfl, hw9⟩
  rw [hw9]
  refine hB.putI (Or.inr fa_Rd_93) d_Rd_readEnd_7 (by omega) (sK_pt hp) rfl (bI_nar _) (bI_fit _) ?_
  by_cases h35 : pA (z.1 2) n p = 35
  · have hpn : p < n := pA_lt (by rw [h35]; decide)
    rw [if_pos h35]
    refine h10 (p + 1) _ (by omega) ?_
    unfold cEd
    rw [if_pos h35]
    simp [bI, h35]
  · rw [if_neg h35]
    have e9 : sI z pt 4 (bI (decide (pA (z.1 2) n p = 35))) = sI (sPl z p) pt 4 (bI (decide (pA (z.1 2) n p = 35))) := by rw [hR.self]
    rw [e9]
    refine h10 p _ hR.2.2.2.1 ?_
    unfold cEd
    rw [if_neg h35]
    simp [bI, h35]
