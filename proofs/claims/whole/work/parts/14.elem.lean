theorem cE_in {tx : Nat → Int32} {n k p : Nat} (hp : p ≤ n) : (cC2 tx n k p).2.1 ≤ n := by
  unfold cC2
  split
  · rename_i h
    have : p < n := pA_lt (by rw [h.2]; decide)
    show p + 1 ≤ n
    omega
  · split
    · rename_i h
      have : p < n := pA_lt (by rw [h]; decide)
      exact (cDs_in 2 0 (p + 1) (-1) (by omega)).2
    · exact (cDs_in 2 0 p (-1) hp).2
theorem cE3_in {tx : Nat → Int32} {n k p : Nat} {bar kd rep : Int32} (hp : p ≤ n) : (cE3 tx n k p bar kd rep).2.1 ≤ n := by
  unfold cE3
  split
  · rename_i h
    have := pTs_lt h
    exact cE_in (by omega)
  · exact hp
theorem cE2_in {tx : Nat → Int32} {n k p : Nat} {bar kd : Int32} (hp : p ≤ n) : (cE2 tx n k p bar kd).2.1 ≤ n := by
  unfold cE2
  split
  · rename_i h
    have : p < n := pA_lt (by rw [h]; decide)
    split
    · exact hp
    · exact cE3_in (by omega)
  · exact cE3_in hp
theorem cE1_in {tx : Nat → Int32} {n k p : Nat} {bar : Int32} (hp : p ≤ n) : (cE1 tx n k p bar).2.1 ≤ n := by
  unfold cE1
  split
  · rename_i h
    have := pKd_lt h
    exact cE2_in (by omega)
  · exact hp
theorem cEl_in {tx : Nat → Int32} {n k p : Nat} (hp : p ≤ n) : (cEl tx n k p).2.1 ≤ n := by
  unfold cEl
  split
  · rename_i h
    have : p < n := pA_lt (by rw [h]; decide)
    split
    · exact hp
    · exact cE1_in (by omega)
  · exact cE1_in hp
set_option maxRecDepth 100000 in
set_option maxHeartbeats 4000000 in
theorem k_Rd_readElement (l : Launch) (g : mG) (ad : Nat → Nat) (z : sT) (n k e p : Nat) (hz : rd0 z n) (hp : p ≤ n) (hk : k < 8) (he : 14 ≤ e ∧ e < 30) : sC l y_Rd_readElement c_Rd_readElement 4 (some .boolean) 4 g ad [.ref (ad 1), .ref (ad e), .int (nI k)] (sPl z p) (fun r w => r = some (.int (bI (cEl (z.1 2) n k p).1)) ∧ ∃ E : pE, w = sQ z e (cEl (z.1 2) n k p).2.1 E ∧ ((cEl (z.1 2) n k p).1 = true → E = (cEl (z.1 2) n k p).2.2)) := by
  refine sC.intro (own := R_Rd) rfl (by decide) (by decide) (by simp [Value.category]) (Nat.le_of_ble_eq_true rfl) (fun K hB hE => ?_)
  show K 0 [some (.ref (ad 1)), some (.ref (ad e)), some (.int (nI k)), none] [] (sPl z p)
  have h114 : ∀ (x : Nat) (bar kd rep : Int32), x ≤ n → cEl (z.1 2) n k p = cE3 (z.1 2) n k x bar kd rep → K 114 [some (.ref (ad 1)), some (.ref (ad e)), some (.int (nI k)), some (.int (bI (decide (k = 7))))] [] (sQ z e x (bar, kd, rep, 32, 0, 0)) := by
    intro x bar kd rep hx hc
    rw [hc] at hE
    refine hB.aload_n d_Rd_readElement_114 rfl ?_
    refine hB.callV lk_Rd_70 cd_Rd_isTestAhead (k_Rd_isTestAhead l g ad _ n x (hz.q he.1 hx)) rfl (by decide) sK_1 d_Rd_readElement_115 rfl rfl (by decide) (by simp [Value.category]) ?_
    rintro _ w9 ⟨rfl, hw9⟩
    rw [hw9, sQ_tx he.1]
    refine hB.if_eq d_Rd_readElement_118 (tgt := 130) rfl (fun q118 => ?_) (fun q118 => ?_)
    · have hts := bI_0 q118
      have e0 : cE3 (z.1 2) n k x bar kd rep = (true, x, (bar, kd, rep, 32, 0, 0)) := by unfold cE3; rw [hts]; rfl
      rw [e0] at hE
      refine hB.iconst d_Rd_readElement_130 (v := 1) rfl ?_
      refine hB.goto d_Rd_readElement_131 (tgt := 135) rfl ?_
      exact hE.1 _ _ _ _ _ d_Rd_readElement_135 rfl rfl ⟨by first | rfl | (rw [hok]; rfl), _, rfl, fun _ => rfl⟩
    · have hts := bI_1 q118
      have e0 : cE3 (z.1 2) n k x bar kd rep = ((cC2 (z.1 2) n k (x + 1)).1, (cC2 (z.1 2) n k (x + 1)).2.1, (bar, kd, rep, pA (z.1 2) n x, (cC2 (z.1 2) n k (x + 1)).2.2)) := by unfold cE3; rw [if_pos hts]
      rw [e0] at hE
      refine hB.aload_n d_Rd_readElement_121 rfl ?_
      refine hB.aload_n d_Rd_readElement_122 rfl ?_
      refine hB.iload_n d_Rd_readElement_123 rfl ?_
      refine hB.callV lk_Rd_73 cd_Rd_readCondition (k_Rd_readCondition l g ad z n k e x bar kd rep hz (pTs_lt hts) hk he) rfl (by decide) sK_1 d_Rd_readElement_124 rfl rfl (by decide) (by simp [Value.category]) ?_
      rintro _ w9 ⟨rfl, hw9⟩
      rw [hw9]
      refine hB.if_eq d_Rd_readElement_127 (tgt := 134) rfl (fun q127 => ?_) (fun q127 => ?_)
      · have hok := bI_0 q127
        refine hB.iconst d_Rd_readElement_134 (v := 0) rfl ?_
        exact hE.1 _ _ _ _ _ d_Rd_readElement_135 rfl rfl ⟨by first | rfl | (rw [hok]; rfl), _, rfl, fun _ => rfl⟩
      · have hok := bI_1 q127
        refine hB.iconst d_Rd_readElement_130 (v := 1) rfl ?_
        refine hB.goto d_Rd_readElement_131 (tgt := 135) rfl ?_
        exact hE.1 _ _ _ _ _ d_Rd_readElement_135 rfl rfl ⟨by first | rfl | (rw [hok]; rfl), _, rfl, fun _ => rfl⟩
  have h77 : ∀ (x : Nat) (bar kd : Int32), x ≤ n → (bar = 0 ∨ bar = 1) → cEl (z.1 2) n k p = cE2 (z.1 2) n k x bar kd → K 77 [some (.ref (ad 1)), some (.ref (ad e)), some (.int (nI k)), some (.int (bI (decide (k = 7))))] [] (sQ z e x (bar, kd, 0, 32, 0, 0)) := by
    intro x bar kd hx hbar hc
    refine hB.aload_n d_Rd_readElement_77 rfl ?_
    refine hB.callV lk_Rd_52 cd_Rd_ahead (k_Rd_ahead l g ad _ n x (hz.q he.1 hx)) rfl (by decide) sK_1 d_Rd_readElement_78 rfl rfl (by decide) (by simp [Value.category]) ?_
    rintro _ w9 ⟨rfl, hw9⟩
    rw [hw9, sQ_tx he.1]
    refine hB.bipush d_Rd_readElement_81 (v := 43) rfl ?_
    refine hB.icmp_ne d_Rd_readElement_83 (tgt := 114) rfl (fun q83 => ?_) (fun q83 => ?_)
    · have e0 : cE2 (z.1 2) n k x bar kd = cE3 (z.1 2) n k x bar kd 0 := by unfold cE2; rw [if_neg q83]
      exact h114 _ _ _ _ hx (hc.trans e0)
    · have q83 : ¬ ¬ pA (z.1 2) n x = 43 := fun q => q q83
      have hx2 : x < n := pA_lt (by rw [Classical.not_not.mp q83]; decide)
      refine hB.aload_n d_Rd_readElement_86 rfl ?_
      refine hB.getI (Or.inr fa_Rd_56) d_Rd_readElement_87 (by omega) (sK_el (by omega) (by omega)) rfl ?_
      rw [sQ_at0]
      refine hB.if_ne d_Rd_readElement_90 (tgt := 97) rfl (fun q90 => ?_) (fun q90 => ?_)
      · refine hB.iconst d_Rd_readElement_97 (v := 0) rfl ?_
        exact hE.1 _ _ _ _ _ d_Rd_readElement_98 rfl rfl (by
          have h2 : bar = 1 ∨ k = 7 := by
            first
              | (rcases hbar with h | h
                 · exact absurd h q90
                 · exact Or.inl h)
              | (have h9 := bI_1 q94; exact Or.inr (by simpa using h9))
          have e0 : cE2 (z.1 2) n k x bar kd = (false, x, pE0) := by unfold cE2; rw [if_pos (Classical.not_not.mp q83), if_pos h2]
          rw [hc, e0]
          exact ⟨rfl, _, rfl, fun q => by cases q⟩)
      · refine hB.iload_n d_Rd_readElement_93 rfl ?_
        refine hB.if_eq d_Rd_readElement_94 (tgt := 99) rfl (fun q94 => ?_) (fun q94 => ?_)
        · refine hB.aload_n d_Rd_readElement_99 rfl ?_
          refine hB.iconst d_Rd_readElement_100 (v := 1) rfl ?_
          refine hB.putI (Or.inr fa_Rd_67) d_Rd_readElement_101 (by omega) (sK_el (by omega) (by omega)) rfl rfl rfl ?_
          rw [sQ_2]
          refine hB.aload_n d_Rd_readElement_104 rfl ?_
          refine hB.dup d_Rd_readElement_105 rfl ?_
          refine hB.getI (Or.inl fa_Rd_19) d_Rd_readElement_106 (by decide) sK_1 rfl ?_
          refine hB.iconst d_Rd_readElement_109 (v := 1) rfl ?_
          refine hB.iadd d_Rd_readElement_110 ?_
          refine hB.putI (Or.inl fa_Rd_19) d_Rd_readElement_111 (by decide) sK_1 rfl rfl rfl ?_
          rw [sQ_p he.1, ← nI_succ, sQ_pl he.1]
          have h2 : ¬ (bar = 1 ∨ k = 7) := by
            rintro (h | h)
            · have q9 : bar = 0 := q90
              rw [h] at q9
              exact absurd q9 (by decide)
            · have h9 := bI_0 q94
              simp [h] at h9
          have e0 : cE2 (z.1 2) n k x bar kd = cE3 (z.1 2) n k (x + 1) bar kd 1 := by unfold cE2; rw [if_pos (Classical.not_not.mp q83), if_neg h2]
          exact h114 _ _ _ _ (by omega) (hc.trans e0)
        · refine hB.iconst d_Rd_readElement_97 (v := 0) rfl ?_
          exact hE.1 _ _ _ _ _ d_Rd_readElement_98 rfl rfl (by
          have h2 : bar = 1 ∨ k = 7 := by
            first
              | (rcases hbar with h | h
                 · exact absurd h q90
                 · exact Or.inl h)
              | (have h9 := bI_1 q94; exact Or.inr (by simpa using h9))
          have e0 : cE2 (z.1 2) n k x bar kd = (false, x, pE0) := by unfold cE2; rw [if_pos (Classical.not_not.mp q83), if_pos h2]
          rw [hc, e0]
          exact ⟨rfl, _, rfl, fun q => by cases q⟩)
  have h50 : ∀ (x : Nat) (bar : Int32), x ≤ n → (bar = 0 ∨ bar = 1) → cEl (z.1 2) n k p = cE1 (z.1 2) n k x bar → K 50 [some (.ref (ad 1)), some (.ref (ad e)), some (.int (nI k)), some (.int (bI (decide (k = 7))))] [] (sQ z e x (bar, 42, 0, 32, 0, 0)) := by
    intro x bar hx hbar hc
    have hA := hz.q (e := e) (p := x) (E := (bar, 42, 0, 32, 0, 0)) he.1 hx
    refine hB.aload_n d_Rd_readElement_50 rfl ?_
    refine hB.callV lk_Rd_60 cd_Rd_isKindAhead (k_Rd_isKindAhead l g ad _ n x hA) rfl (by decide) sK_1 d_Rd_readElement_51 rfl rfl (by decide) (by simp [Value.category]) ?_
    rintro _ w9 ⟨rfl, hw9⟩
    rw [hw9, sQ_tx he.1]
    refine hB.if_ne d_Rd_readElement_54 (tgt := 59) rfl (fun q54 => ?_) (fun q54 => ?_)
    · refine hB.aload_n d_Rd_readElement_59 rfl ?_
      refine hB.aload_n d_Rd_readElement_60 rfl ?_
      refine hB.callV lk_Rd_52 cd_Rd_ahead (k_Rd_ahead l g ad _ n x hA) rfl (by decide) sK_1 d_Rd_readElement_61 rfl rfl (by decide) (by simp [Value.category]) ?_
      rintro _ w9 ⟨rfl, hw9⟩
      rw [hw9]
      refine hB.putI (Or.inr fa_Rd_63) d_Rd_readElement_64 (by omega) (sK_el (by omega) (by omega)) rfl hA.nar hA.fit ?_
      rw [sQ_1, sQ_tx he.1]
      refine hB.aload_n d_Rd_readElement_67 rfl ?_
      refine hB.dup d_Rd_readElement_68 rfl ?_
      refine hB.getI (Or.inl fa_Rd_19) d_Rd_readElement_69 (by decide) sK_1 rfl ?_
      refine hB.iconst d_Rd_readElement_72 (v := 1) rfl ?_
      refine hB.iadd d_Rd_readElement_73 ?_
      refine hB.putI (Or.inl fa_Rd_19) d_Rd_readElement_74 (by decide) sK_1 rfl rfl rfl ?_
      rw [sQ_p he.1, ← nI_succ, sQ_pl he.1]
      have hkd := bI_1 q54
      have e0 : cE1 (z.1 2) n k x bar = cE2 (z.1 2) n k (x + 1) bar (pA (z.1 2) n x) := by unfold cE1; rw [if_pos hkd]
      have := pKd_lt hkd
      exact h77 _ _ _ (by omega) hbar (hc.trans e0)
    · refine hB.iconst d_Rd_readElement_57 (v := 0) rfl ?_
      exact hE.1 _ _ _ _ _ d_Rd_readElement_58 rfl rfl (by
          have hkd := bI_0 q54
          have e0 : cE1 (z.1 2) n k x bar = (false, x, pE0) := by unfold cE1; rw [hkd]; rfl
          rw [hc, e0]
          exact ⟨rfl, _, rfl, fun q => by cases q⟩)
  have h12 : K 12 [some (.ref (ad 1)), some (.ref (ad e)), some (.int (nI k)), some (.int (bI (decide (k = 7))))] [] (sPl z p) := by
    refine hB.aload_n d_Rd_readElement_12 rfl ?_
    refine hB.callVN lk_Rd_49 cd_El_clear (k_El_clear l g ad (sPl z p) e he) rfl (by omega) (sK_el (by omega) (by omega)) d_Rd_readElement_13 rfl rfl (by decide) (by simp [Value.category]) ?_
    rintro _ w9 ⟨rfl, hw9⟩
    rw [hw9]
    show K 16 _ _ (sQ z e p (0, 42, 0, 32, 0, 0))
    refine hB.aload_n d_Rd_readElement_16 rfl ?_
    refine hB.callV lk_Rd_52 cd_Rd_ahead (k_Rd_ahead l g ad _ n p (hz.q he.1 hp)) rfl (by decide) sK_1 d_Rd_readElement_17 rfl rfl (by decide) (by simp [Value.category]) ?_
    rintro _ w9 ⟨rfl, hw9⟩
    rw [hw9, sQ_tx he.1]
    refine hB.bipush d_Rd_readElement_20 (v := 33) rfl ?_
    refine hB.icmp_ne d_Rd_readElement_22 (tgt := 50) rfl (fun q22 => ?_) (fun q22 => ?_)
    · have e0 : cEl (z.1 2) n k p = cE1 (z.1 2) n k p 0 := by unfold cEl; rw [if_neg q22]
      exact h50 _ _ hp (Or.inl rfl) e0
    · have q22 : ¬ ¬ pA (z.1 2) n p = 33 := fun q => q q22
      refine hB.iload_n d_Rd_readElement_25 rfl ?_
      refine hB.if_eq d_Rd_readElement_26 (tgt := 33) rfl (fun q26 => ?_) (fun q26 => ?_)
      · refine hB.iconst d_Rd_readElement_33 (v := 0) rfl ?_
        exact hE.1 _ _ _ _ _ d_Rd_readElement_34 rfl rfl (by
          have h2 : k = 0 ∨ k = 7 := by
            first
              | (rcases Nat.eq_zero_or_pos k with h | h
                 · exact Or.inl h
                 · exact absurd q26 (nI_ne0 h (by omega)))
              | (have h9 := bI_1 q30; exact Or.inr (by simpa using h9))
          have e0 : cEl (z.1 2) n k p = (false, p, pE0) := by unfold cEl; rw [if_pos (Classical.not_not.mp q22), if_pos h2]
          rw [e0]
          exact ⟨rfl, _, rfl, fun q => by cases q⟩)
      · refine hB.iload_n d_Rd_readElement_29 rfl ?_
        refine hB.if_eq d_Rd_readElement_30 (tgt := 35) rfl (fun q30 => ?_) (fun q30 => ?_)
        · refine hB.aload_n d_Rd_readElement_35 rfl ?_
          refine hB.iconst d_Rd_readElement_36 (v := 1) rfl ?_
          refine hB.putI (Or.inr fa_Rd_56) d_Rd_readElement_37 (by omega) (sK_el (by omega) (by omega)) rfl rfl rfl ?_
          rw [sQ_0]
          refine hB.aload_n d_Rd_readElement_40 rfl ?_
          refine hB.dup d_Rd_readElement_41 rfl ?_
          refine hB.getI (Or.inl fa_Rd_19) d_Rd_readElement_42 (by decide) sK_1 rfl ?_
          refine hB.iconst d_Rd_readElement_45 (v := 1) rfl ?_
          refine hB.iadd d_Rd_readElement_46 ?_
          refine hB.putI (Or.inl fa_Rd_19) d_Rd_readElement_47 (by decide) sK_1 rfl rfl rfl ?_
          rw [sQ_p he.1, ← nI_succ, sQ_pl he.1]
          have h2 : ¬ (k = 0 ∨ k = 7) := by
            rintro (h | h)
            · exact q26 (by rw [h]; rfl)
            · have h9 := bI_0 q30
              simp [h] at h9
          have hp2 : p < n := pA_lt (by rw [Classical.not_not.mp q22]; decide)
          have e0 : cEl (z.1 2) n k p = cE1 (z.1 2) n k (p + 1) 1 := by unfold cEl; rw [if_pos (Classical.not_not.mp q22), if_neg h2]
          exact h50 _ _ (by omega) (Or.inr rfl) e0
        · refine hB.iconst d_Rd_readElement_33 (v := 0) rfl ?_
          exact hE.1 _ _ _ _ _ d_Rd_readElement_34 rfl rfl (by
          have h2 : k = 0 ∨ k = 7 := by
            first
              | (rcases Nat.eq_zero_or_pos k with h | h
                 · exact Or.inl h
                 · exact absurd q26 (nI_ne0 h (by omega)))
              | (have h9 := bI_1 q30; exact Or.inr (by simpa using h9))
          have e0 : cEl (z.1 2) n k p = (false, p, pE0) := by unfold cEl; rw [if_pos (Classical.not_not.mp q22), if_pos h2]
          rw [e0]
          exact ⟨rfl, _, rfl, fun q => by cases q⟩)
  refine hB.iload_n d_Rd_readElement_0 rfl ?_
  refine hB.bipush d_Rd_readElement_1 (v := 7) rfl ?_
  refine hB.icmp_ne d_Rd_readElement_3 (tgt := 10) rfl (fun q3 => ?_) (fun q3 => ?_)
  · have h7 : bI (decide (k = 7)) = 0 := by
      have : ¬ k = 7 := fun q => q3 (by rw [q]; rfl)
      simp [bI, this]
    rw [h7] at h12
    refine hB.iconst d_Rd_readElement_10 (v := 0) rfl ?_
    refine hB.istore_n d_Rd_readElement_11 (Nat.le_of_ble_eq_true rfl) ?_
    exact h12
  · have h7 : bI (decide (k = 7)) = 1 := by
      have : k = 7 := (nI_eq (a := k) (b := 7) (by omega) (by omega)).mp q3
      simp [bI, this]
    rw [h7] at h12
    refine hB.iconst d_Rd_readElement_6 (v := 1) rfl ?_
    refine hB.goto d_Rd_readElement_7 (tgt := 11) rfl ?_
    refine hB.istore_n d_Rd_readElement_11 (Nat.le_of_ble_eq_true rfl) ?_
    exact h12
