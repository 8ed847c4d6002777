def rTs (t v b : Int32) : Bool := if t = 60 then decide (v < b) else if t = 61 then decide (v = b) else if t = 62 then decide (b < v) else true
def rAd (E : pE) (kind value last : Int32) : Bool := (decide (E.2.1 = 42) || decide (E.2.1 = kind)) && rTs E.2.2.2.1 value (if E.2.2.2.2.1 = 0 then E.2.2.2.2.2 else last)
def elOf (z : sT) (e : Nat) : pE := (z.1 e 0, z.1 e 1, z.1 e 2, z.1 e 3, z.1 e 4, z.1 e 5)
theorem i32_ne {x : Int32} {k : Int32} {n : Int} (h : ¬ x = k) (hk : k.toInt = n) : x.toInt ≠ n := fun q => h (Int32.toInt_inj.mp (q.trans hk.symm))
set_option maxRecDepth 100000 in
set_option maxHeartbeats 4000000 in
theorem k_El_admits (l : Launch) (g : mG) (ad : Nat → Nat) (z : sT) (e : Nat) (he : 14 ≤ e ∧ e < 30) (last : Int32) : sC l y_El_admits c_El_admits 4 (some .boolean) 0 g ad [.ref (ad e), .ref (ad 7), .int last] z (fun r w => r = some (.int (bI (rAd (elOf z e) (z.1 7 1) (z.1 7 3) last))) ∧ w = z) := by
  refine sC.intro (own := R_El) rfl (by decide) (by decide) (by simp [Value.category]) (Nat.le_of_ble_eq_true rfl) (fun K hB hE => ?_)
  show K 0 [some (.ref (ad e)), some (.ref (ad 7)), some (.int last), none] [] z
  have h37 : ∀ lim : Int32, (decide ((elOf z e).2.1 = 42) || decide ((elOf z e).2.1 = z.1 7 1)) = true → (if (elOf z e).2.2.2.2.1 = 0 then (elOf z e).2.2.2.2.2 else last) = lim → K 37 [some (.ref (ad e)), some (.ref (ad 7)), some (.int last), none] [.int lim] z := by
    intro lim hk0 hlim
    refine hB.istore_n d_El_admits_37 (Nat.le_of_ble_eq_true rfl) ?_
    refine hB.aload_n d_El_admits_38 rfl ?_
    refine hB.getI (Or.inl fa_El_22) d_El_admits_39 (by omega) (sK_el (by omega) (by omega)) rfl ?_
    by_cases h60 : z.1 e 3 = 60
    · have e0 : rAd (elOf z e) (z.1 7 1) (z.1 7 3) last = decide (z.1 7 3 < lim) := by
        unfold rAd; rw [hk0, Bool.true_and, ← hlim]; simp [rTs, elOf, h60]
      rw [h60]
      refine hB.tableIn d_El_admits_42 (tgt := 68) (by decide) (by decide) rfl rfl ?_
      refine hB.aload_n d_El_admits_68 rfl ?_
      refine hB.getI (Or.inr fa_El_35) d_El_admits_69 (by decide) sK_7 rfl ?_
      refine hB.iload_n d_El_admits_72 rfl ?_
      refine hB.icmp_ge d_El_admits_73 (tgt := 80) rfl (fun q73 => ?_) (fun q73 => ?_)
      · refine hB.iconst d_El_admits_80 (v := 0) rfl ?_
        exact hE.1 _ _ _ _ _ d_El_admits_81 rfl rfl ⟨by rw [e0]; first | (have h9 := Int32.not_lt.mpr q73; simp [bI, h9]; done) | (have h9 := Int32.not_le.mp q73; simp [bI, h9]), rfl⟩
      · refine hB.iconst d_El_admits_76 (v := 1) rfl ?_
        refine hB.goto d_El_admits_77 (tgt := 81) rfl ?_
        exact hE.1 _ _ _ _ _ d_El_admits_81 rfl rfl ⟨by rw [e0]; first | (have h9 := Int32.not_lt.mpr q73; simp [bI, h9]; done) | (have h9 := Int32.not_le.mp q73; simp [bI, h9]), rfl⟩
    · by_cases h61 : z.1 e 3 = 61
      · have e0 : rAd (elOf z e) (z.1 7 1) (z.1 7 3) last = decide (z.1 7 3 = lim) := by
          unfold rAd; rw [hk0, Bool.true_and, ← hlim]; simp [rTs, elOf, h61]
        rw [h61]
        refine hB.tableIn d_El_admits_42 (tgt := 82) (by decide) (by decide) rfl rfl ?_
        refine hB.aload_n d_El_admits_82 rfl ?_
        refine hB.getI (Or.inr fa_El_35) d_El_admits_83 (by decide) sK_7 rfl ?_
        refine hB.iload_n d_El_admits_86 rfl ?_
        refine hB.icmp_ne d_El_admits_87 (tgt := 94) rfl (fun q87 => ?_) (fun q87 => ?_)
        · refine hB.iconst d_El_admits_94 (v := 0) rfl ?_
          exact hE.1 _ _ _ _ _ d_El_admits_95 rfl rfl ⟨by rw [e0]; simp [bI, q87], rfl⟩
        · refine hB.iconst d_El_admits_90 (v := 1) rfl ?_
          refine hB.goto d_El_admits_91 (tgt := 95) rfl ?_
          exact hE.1 _ _ _ _ _ d_El_admits_95 rfl rfl ⟨by rw [e0]; simp [bI, q87], rfl⟩
      · by_cases h62 : z.1 e 3 = 62
        · have e0 : rAd (elOf z e) (z.1 7 1) (z.1 7 3) last = decide (lim < z.1 7 3) := by
            unfold rAd; rw [hk0, Bool.true_and, ← hlim]; simp [rTs, elOf, h62]
          rw [h62]
          refine hB.tableIn d_El_admits_42 (tgt := 96) (by decide) (by decide) rfl rfl ?_
          refine hB.aload_n d_El_admits_96 rfl ?_
          refine hB.getI (Or.inr fa_El_35) d_El_admits_97 (by decide) sK_7 rfl ?_
          refine hB.iload_n d_El_admits_100 rfl ?_
          refine hB.icmp_le d_El_admits_101 (tgt := 108) rfl (fun q101 => ?_) (fun q101 => ?_)
          · refine hB.iconst d_El_admits_108 (v := 0) rfl ?_
            exact hE.1 _ _ _ _ _ d_El_admits_109 rfl rfl ⟨by rw [e0]; first | (have h9 := Int32.not_lt.mpr q101; simp [bI, h9]; done) | (have h9 := Int32.not_le.mp q101; simp [bI, h9]), rfl⟩
          · refine hB.iconst d_El_admits_104 (v := 1) rfl ?_
            refine hB.goto d_El_admits_105 (tgt := 109) rfl ?_
            exact hE.1 _ _ _ _ _ d_El_admits_109 rfl rfl ⟨by rw [e0]; first | (have h9 := Int32.not_lt.mpr q101; simp [bI, h9]; done) | (have h9 := Int32.not_le.mp q101; simp [bI, h9]), rfl⟩
        · have e0 : rAd (elOf z e) (z.1 7 1) (z.1 7 3) last = true := by
            unfold rAd; rw [hk0, Bool.true_and]; simp [rTs, elOf, h60, h61, h62]
          have n60 := i32_ne h60 (n := 60) (by decide)
          have n61 := i32_ne h61 (n := 61) (by decide)
          have n62 := i32_ne h62 (n := 62) (by decide)
          refine hB.tableOut d_El_admits_42 (tgt := 110) (by omega) rfl ?_
          refine hB.iconst d_El_admits_110 (v := 1) rfl ?_
          exact hE.1 _ _ _ _ _ d_El_admits_111 rfl rfl ⟨by rw [e0]; rfl, rfl⟩
  have h22 : (decide ((elOf z e).2.1 = 42) || decide ((elOf z e).2.1 = z.1 7 1)) = true → K 22 [some (.ref (ad e)), some (.ref (ad 7)), some (.int last), none] [] z := by
    intro hk0
    refine hB.aload_n d_El_admits_22 rfl ?_
    refine hB.getI (Or.inl fa_El_25) d_El_admits_23 (by omega) (sK_el (by omega) (by omega)) rfl ?_
    refine hB.if_eq d_El_admits_26 (tgt := 33) rfl (fun q26 => ?_) (fun q26 => ?_)
    · have hw := q26
      refine hB.aload_n d_El_admits_33 rfl ?_
      refine hB.getI (Or.inl fa_El_28) d_El_admits_34 (by omega) (sK_el (by omega) (by omega)) rfl ?_
      exact h37 _ hk0 (by simp [elOf, hw])
    · have hw := q26
      refine hB.iload_n d_El_admits_29 rfl ?_
      refine hB.goto d_El_admits_30 (tgt := 37) rfl ?_
      exact h37 _ hk0 (by simp [elOf, hw])
  refine hB.aload_n d_El_admits_0 rfl ?_
  refine hB.getI (Or.inl fa_El_15) d_El_admits_1 (by omega) (sK_el (by omega) (by omega)) rfl ?_
  refine hB.bipush d_El_admits_4 (v := 42) rfl ?_
  refine hB.icmp_eq d_El_admits_6 (tgt := 22) rfl (fun q6 => ?_) (fun q6 => ?_)
  · exact h22 (by first | (simp [elOf, q6]; done) | simp [elOf, q17])
  · refine hB.aload_n d_El_admits_9 rfl ?_
    refine hB.getI (Or.inl fa_El_15) d_El_admits_10 (by omega) (sK_el (by omega) (by omega)) rfl ?_
    refine hB.aload_n d_El_admits_13 rfl ?_
    refine hB.getI (Or.inr fa_El_32) d_El_admits_14 (by decide) sK_7 rfl ?_
    refine hB.icmp_eq d_El_admits_17 (tgt := 22) rfl (fun q17 => ?_) (fun q17 => ?_)
    · exact h22 (by first | (simp [elOf, q6]; done) | simp [elOf, q17])
    · refine hB.iconst d_El_admits_20 (v := 0) rfl ?_
      exact hE.1 _ _ _ _ _ d_El_admits_21 rfl rfl ⟨by
      have e0 : rAd (elOf z e) (z.1 7 1) (z.1 7 3) last = false := by
        unfold rAd
        have h1 : decide ((elOf z e).2.1 = 42) = false := decide_eq_false q6
        have h2 : decide ((elOf z e).2.1 = z.1 7 1) = false := decide_eq_false q17
        rw [h1, h2]; rfl
      rw [e0]; rfl, rfl⟩
set_option maxRecDepth 100000 in
set_option maxHeartbeats 4000000 in
theorem k_Pt_isLastStep (l : Launch) (g : mG) (ad : Nat → Nat) (z : sT) (pt : Nat) (x : Int32) (hp : pt = 8 ∨ pt = 11) : sC l y_Pt_isLastStep c_Pt_isLastStep 2 (some .boolean) 0 g ad [.ref (ad pt), .int x] z (fun r w => r = some (.int (bI (decide (x = z.1 pt 3 - 1)))) ∧ w = z) := by
  refine sC.intro (own := R_Pt) rfl (by decide) (by decide) (by simp [Value.category]) (Nat.le_of_ble_eq_true rfl) (fun K hB hE => ?_)
  show K 0 [some (.ref (ad pt)), some (.int x)] [] z
  refine hB.iload_n d_Pt_isLastStep_0 rfl ?_
  refine hB.aload_n d_Pt_isLastStep_1 rfl ?_
  refine hB.getI (Or.inl fa_Pt_26) d_Pt_isLastStep_2 (by omega) (sK_pt hp) rfl ?_
  refine hB.iconst d_Pt_isLastStep_5 (v := 1) rfl ?_
  refine hB.isub d_Pt_isLastStep_6 ?_
  refine hB.icmp_ne d_Pt_isLastStep_7 (tgt := 14) rfl (fun q7 => ?_) (fun q7 => ?_)
  · refine hB.iconst d_Pt_isLastStep_14 (v := 0) rfl ?_
    exact hE.1 _ _ _ _ _ d_Pt_isLastStep_15 rfl rfl ⟨by simp [bI, q7], rfl⟩
  · refine hB.iconst d_Pt_isLastStep_10 (v := 1) rfl ?_
    refine hB.goto d_Pt_isLastStep_11 (tgt := 15) rfl ?_
    exact hE.1 _ _ _ _ _ d_Pt_isLastStep_15 rfl rfl ⟨by simp [bI, q7], rfl⟩
set_option maxRecDepth 100000 in
set_option maxHeartbeats 4000000 in
theorem k_Pt_stepPlace (l : Launch) (g : mG) (ad : Nat → Nat) (z : sT) (pt s ns : Nat) (hp : pt = 8 ∨ pt = 11) (hs : z.1 pt 3 = nI ns) (hn : ns ≤ 8) (hsn : s < ns) : sC l y_Pt_stepPlace c_Pt_stepPlace 2 (some .int) 1 g ad [.ref (ad pt), .int (nI s)] z (fun r w => r = some (.int (z.1 (pt + 2) s)) ∧ w = z) := by
  refine sC.intro (own := R_Pt) rfl (by decide) (by decide) (by simp [Value.category]) (Nat.le_of_ble_eq_true rfl) (fun K hB hE => ?_)
  show K 0 [some (.ref (ad pt)), some (.int (nI s))] [] z
  refine hB.iload_n d_Pt_stepPlace_0 rfl ?_
  refine hB.iconst d_Pt_stepPlace_1 (v := 0) rfl ?_
  refine hB.aload_n d_Pt_stepPlace_2 rfl ?_
  refine hB.getI (Or.inl fa_Pt_26) d_Pt_stepPlace_3 (by omega) (sK_pt hp) rfl ?_
  refine hB.iconst d_Pt_stepPlace_6 (v := 1) rfl ?_
  refine hB.isub d_Pt_stepPlace_7 ?_
  refine hB.callSN lk_Pt_42 cd_Pw_isWithin (k_Pw_isWithin l g ad z (nI s) 0 (z.1 pt 3 - 1)) d_Pt_stepPlace_8 rfl rfl (by decide) (by simp [Value.category]) ?_
  rintro _ w9 ⟨rfl, hw9⟩
  have hw8 := hw9.symm
  clear hw9
  subst hw8
  have h1 : fWi (nI s) 0 (z.1 pt 3 - 1) = 1 := by
    have e1 : z.1 pt 3 - 1 = nI (ns - 1) := by rw [hs, show (1 : Int32) = nI 1 from rfl, pk_sub (by omega)]
    rw [e1]
    unfold fWi
    rw [if_neg (nI_pos (by omega)), if_neg (nI_nlt (by omega) (by omega))]
  rw [h1]
  refine hB.if_eq d_Pt_stepPlace_11 (tgt := 23) rfl (fun q11 => absurd q11 (by decide)) (fun q11 => ?_)
  refine hB.aload_n d_Pt_stepPlace_14 rfl ?_
  refine hB.getC (Or.inl fa_Pt_18) d_Pt_stepPlace_15 (by omega) (sK_pt hp) rfl ?_
  refine hB.iload_n d_Pt_stepPlace_18 rfl ?_
  refine hB.iald d_Pt_stepPlace_19 (by omega) (sK_pl hp) rfl (by omega) (by decide) ?_
  refine hB.goto d_Pt_stepPlace_20 (tgt := 24) rfl ?_
  exact hE.1 _ _ _ _ _ d_Pt_stepPlace_24 rfl rfl ⟨rfl, rfl⟩
set_option maxRecDepth 100000 in
set_option maxHeartbeats 4000000 in
theorem k_Pt_stepElement (l : Launch) (g : mG) (ad : Nat → Nat) (z : sT) (pt s ns x : Nat) (hp : pt = 8 ∨ pt = 11) (hs : z.1 pt 3 = nI ns) (hn : ns ≤ 8) (hsn : s < ns) (hx : z.1 (pt + 2) s = nI x) (hx8 : x < 8) : sC l y_Pt_stepElement c_Pt_stepElement 2 (some (.object "PatternWatch$Element")) 2 g ad [.ref (ad pt), .int (nI s)] z (fun r w => r = some (.ref (ad (pb pt + x))) ∧ w = z) := by
  refine sC.intro (own := R_Pt) rfl (by decide) (by decide) (by simp [Value.category]) (Nat.le_of_ble_eq_true rfl) (fun K hB hE => ?_)
  show K 0 [some (.ref (ad pt)), some (.int (nI s))] [] z
  refine hB.aload_n d_Pt_stepElement_0 rfl ?_
  refine hB.getC (Or.inl fa_Pt_11) d_Pt_stepElement_1 (by omega) (sK_pt hp) rfl ?_
  refine hB.aload_n d_Pt_stepElement_4 rfl ?_
  refine hB.iload_n d_Pt_stepElement_5 rfl ?_
  refine hB.callV lk_Pt_46 cd_Pt_stepPlace (k_Pt_stepPlace l g ad z pt s ns hp hs hn hsn) rfl (by omega) (sK_pt hp) d_Pt_stepElement_6 rfl rfl (by decide) (by simp [Value.category]) ?_
  rintro _ w9 ⟨rfl, hw9⟩
  have hw8 := hw9.symm
  clear hw9
  subst hw8
  refine hB.aald5 d_Pt_stepElement_9 (by omega) (sK_els hp) hx (by omega) (by decide) ?_
  rw [sRf_el hp]
  exact hE.2.1 _ _ _ _ _ d_Pt_stepElement_10 rfl (Or.inr ⟨_, rfl⟩) ⟨rfl, rfl⟩
def sTk (z : sT) (r c : Nat) (s : Int32) : sT := sI (sI (sI (sI (sI z (r + 48) c (z.1 7 0)) r 1 (nI (c + 1))) r 2 s) r 6 (z.1 7 0)) r 7 (z.1 7 3)
theorem sI_7 {z : sT} {r k j : Nat} {x : Int32} (hr : 30 ≤ r) : (sI z r k x).1 7 j = z.1 7 j := by rw [sI_row (by omega)]
set_option maxRecDepth 100000 in
set_option maxHeartbeats 4000000 in
theorem k_Ru_take (l : Launch) (g : mG) (ad : Nat → Nat) (z : sT) (r c : Nat) (s : Int32) (hr : 30 ≤ r ∧ r < 78) (hc : z.1 r 1 = nI c) (hc9 : c < 19) : sC l y_Ru_take c_Ru_take 3 none 0 g ad [.ref (ad r), .ref (ad 7), .int s] z (fun r9 w => r9 = none ∧ w = sTk z r c s) := by
  refine sC.intro (own := R_Ru) rfl (by decide) (by decide) (by simp [Value.category]) (Nat.le_of_ble_eq_true rfl) (fun K hB hE => ?_)
  show K 0 [some (.ref (ad r)), some (.ref (ad 7)), some (.int s)] [] z
  refine hB.aload_n d_Ru_take_0 rfl ?_
  refine hB.getI (Or.inl fa_Ru_15) d_Ru_take_1 (by omega) (sK_run (by omega) (by omega)) rfl ?_
  refine hB.bipush d_Ru_take_4 (v := 19) rfl ?_
  refine hB.icmp_ge d_Ru_take_6 (tgt := 32) rfl (fun q6 => absurd q6 (by rw [hc]; exact nI_ge (b := 19) hc9 (by decide))) (fun q6 => ?_)
  refine hB.aload_n d_Ru_take_9 rfl ?_
  refine hB.getC (Or.inl fa_Ru_9) d_Ru_take_10 (by omega) (sK_run (by omega) (by omega)) rfl ?_
  refine hB.aload_n d_Ru_take_13 rfl ?_
  refine hB.getI (Or.inl fa_Ru_15) d_Ru_take_14 (by omega) (sK_run (by omega) (by omega)) rfl ?_
  refine hB.aload_n d_Ru_take_17 rfl ?_
  refine hB.getI (Or.inr fa_Ru_19) d_Ru_take_18 (by decide) sK_7 rfl ?_
  refine hB.iast d_Ru_take_21 (by omega) (sK_tk (by omega) (by omega)) hc (by omega) (by decide) ?_
  refine hB.aload_n d_Ru_take_22 rfl ?_
  refine hB.dup d_Ru_take_23 rfl ?_
  refine hB.getI (Or.inl fa_Ru_15) d_Ru_take_24 (by omega) (sK_run (by omega) (by omega)) rfl ?_
  refine hB.iconst d_Ru_take_27 (v := 1) rfl ?_
  refine hB.iadd d_Ru_take_28 ?_
  refine hB.putI (Or.inl fa_Ru_15) d_Ru_take_29 (by omega) (sK_run (by omega) (by omega)) rfl rfl rfl ?_
  refine hB.aload_n d_Ru_take_32 rfl ?_
  refine hB.iload_n d_Ru_take_33 rfl ?_
  refine hB.putI (Or.inl fa_Ru_43) d_Ru_take_34 (by omega) (sK_run (by omega) (by omega)) rfl rfl rfl ?_
  refine hB.aload_n d_Ru_take_37 rfl ?_
  refine hB.aload_n d_Ru_take_38 rfl ?_
  refine hB.getI (Or.inr fa_Ru_19) d_Ru_take_39 (by decide) sK_7 rfl ?_
  refine hB.putI (Or.inl fa_Ru_46) d_Ru_take_42 (by omega) (sK_run (by omega) (by omega)) rfl rfl rfl ?_
  refine hB.aload_n d_Ru_take_45 rfl ?_
  refine hB.aload_n d_Ru_take_46 rfl ?_
  refine hB.getI (Or.inr fa_Ru_49) d_Ru_take_47 (by decide) sK_7 rfl ?_
  refine hB.putI (Or.inl fa_Ru_52) d_Ru_take_50 (by omega) (sK_run (by omega) (by omega)) rfl rfl rfl ?_
  exact hE.2.2 _ _ _ d_Ru_take_53 rfl ⟨rfl, by
      have e1 : (sI z (r + 48) c (z.1 7 0)).1 r 1 = nI c := by rw [sI_row (by omega)]; exact hc
      unfold sTk
      rw [e1, ← nI_succ]
      simp only [sI_7 (show 30 ≤ r by omega), sI_7 (show 30 ≤ r + 48 by omega)]⟩
set_option maxRecDepth 100000 in
set_option maxHeartbeats 4000000 in
theorem k_Ru_begin (l : Launch) (g : mG) (ad : Nat → Nat) (z : sT) (r : Nat) (hr : 30 ≤ r ∧ r < 78) : sC l y_Ru_begin c_Ru_begin 2 none 1 g ad [.ref (ad r), .ref (ad 7)] z (fun r9 w => r9 = none ∧ w = sTk (sI (sI (sI (sI z r 1 0) r 3 (z.1 7 0)) r 4 (z.1 7 2)) r 5 (z.1 7 4)) r 0 0) := by
  refine sC.intro (own := R_Ru) rfl (by decide) (by decide) (by simp [Value.category]) (Nat.le_of_ble_eq_true rfl) (fun K hB hE => ?_)
  show K 0 [some (.ref (ad r)), some (.ref (ad 7))] [] z
  refine hB.aload_n d_Ru_begin_0 rfl ?_
  refine hB.iconst d_Ru_begin_1 (v := 0) rfl ?_
  refine hB.putI (Or.inl fa_Ru_15) d_Ru_begin_2 (by omega) (sK_run (by omega) (by omega)) rfl rfl rfl ?_
  refine hB.aload_n d_Ru_begin_5 rfl ?_
  refine hB.aload_n d_Ru_begin_6 rfl ?_
  refine hB.getI (Or.inr fa_Ru_19) d_Ru_begin_7 (by decide) sK_7 rfl ?_
  refine hB.putI (Or.inl fa_Ru_24) d_Ru_begin_10 (by omega) (sK_run (by omega) (by omega)) rfl rfl rfl ?_
  refine hB.aload_n d_Ru_begin_13 rfl ?_
  refine hB.aload_n d_Ru_begin_14 rfl ?_
  refine hB.getI (Or.inr fa_Ru_27) d_Ru_begin_15 (by decide) sK_7 rfl ?_
  refine hB.putI (Or.inl fa_Ru_30) d_Ru_begin_18 (by omega) (sK_run (by omega) (by omega)) rfl rfl rfl ?_
  refine hB.aload_n d_Ru_begin_21 rfl ?_
  refine hB.aload_n d_Ru_begin_22 rfl ?_
  refine hB.getI (Or.inr fa_Ru_33) d_Ru_begin_23 (by decide) sK_7 rfl ?_
  refine hB.putI (Or.inl fa_Ru_36) d_Ru_begin_26 (by omega) (sK_run (by omega) (by omega)) rfl rfl rfl ?_
  refine hB.aload_n d_Ru_begin_29 rfl ?_
  refine hB.aload_n d_Ru_begin_30 rfl ?_
  refine hB.iconst d_Ru_begin_31 (v := 0) rfl ?_
  refine hB.callV lk_Ru_39 cd_Ru_take (k_Ru_take l g ad _ r 0 0 hr (by simp [sI]; rfl) (by omega)) rfl (by omega) (sK_run (by omega) (by omega)) d_Ru_begin_32 rfl rfl (by decide) (by simp [Value.category]) ?_
  rintro _ w9 ⟨rfl, hw9⟩
  have hw8 := hw9.symm
  clear hw9
  subst hw8
  exact hE.2.2 _ _ _ d_Ru_begin_35 rfl ⟨rfl, by simp only [sI_7 (show 30 ≤ r by omega)]⟩
def sCf (z : sT) (q r : Nat) : sT := sI (sI (sI (sI (sI (sI (sI (sCp z (q + 48) (r + 48) 19) r 1 (z.1 q 1)) r 2 (z.1 q 2)) r 3 (z.1 q 3)) r 4 (z.1 q 4)) r 5 (z.1 q 5)) r 6 (z.1 q 6)) r 7 (z.1 q 7)
theorem sCp_row {z : sT} {a b n i : Nat} (h : i ≠ b) : (sCp z a b n).1 i = z.1 i := by
  funext j
  simp [sCp, h]
set_option maxRecDepth 100000 in
set_option maxHeartbeats 4000000 in
theorem k_Ru_copyFrom (l : Launch) (g : mG) (ad : Nat → Nat) (z : sT) (r q : Nat) (hr : 30 ≤ r ∧ r < 78) (hq : 30 ≤ q ∧ q < 78) (hrq : r ≠ q) : sC l y_Ru_copyFrom c_Ru_copyFrom 2 none 1 g ad [.ref (ad r), .ref (ad q)] z (fun r9 w => r9 = none ∧ w = sCf z q r) := by
  refine sC.intro (own := R_Ru) rfl (by decide) (by decide) (by simp [Value.category]) (Nat.le_of_ble_eq_true rfl) (fun K hB hE => ?_)
  show K 0 [some (.ref (ad r)), some (.ref (ad q))] [] z
  refine hB.aload_n d_Ru_copyFrom_0 rfl ?_
  refine hB.getC (Or.inl fa_Ru_9) d_Ru_copyFrom_1 (by omega) (sK_run (by omega) (by omega)) rfl ?_
  refine hB.iconst d_Ru_copyFrom_4 (v := 0) rfl ?_
  refine hB.aload_n d_Ru_copyFrom_5 rfl ?_
  refine hB.getC (Or.inl fa_Ru_9) d_Ru_copyFrom_6 (by omega) (sK_run (by omega) (by omega)) rfl ?_
  refine hB.iconst d_Ru_copyFrom_9 (v := 0) rfl ?_
  refine hB.bipush d_Ru_copyFrom_10 (v := 19) rfl ?_
  refine hB.copyi (mIn 536 (by decide +kernel) rfl) (mIn 538 (by decide +kernel) rfl) (mIn 537 (by decide +kernel) rfl) (mIn 66 (by decide +kernel) rfl) rfl d_Ru_copyFrom_12 (by omega) (sK_tk (by omega) (by omega)) (by omega) (sK_tk (by omega) (by omega)) rfl (c9 := 19) rfl (by decide) (by decide) (by decide) ?_
  refine hB.aload_n d_Ru_copyFrom_15 rfl ?_
  refine hB.aload_n d_Ru_copyFrom_16 rfl ?_
  refine hB.getI (Or.inl fa_Ru_15) d_Ru_copyFrom_17 (by omega) (sK_run (by omega) (by omega)) rfl ?_
  refine hB.putI (Or.inl fa_Ru_15) d_Ru_copyFrom_20 (by omega) (sK_run (by omega) (by omega)) rfl rfl rfl ?_
  refine hB.aload_n d_Ru_copyFrom_23 rfl ?_
  refine hB.aload_n d_Ru_copyFrom_24 rfl ?_
  refine hB.getI (Or.inl fa_Ru_43) d_Ru_copyFrom_25 (by omega) (sK_run (by omega) (by omega)) rfl ?_
  refine hB.putI (Or.inl fa_Ru_43) d_Ru_copyFrom_28 (by omega) (sK_run (by omega) (by omega)) rfl rfl rfl ?_
  refine hB.aload_n d_Ru_copyFrom_31 rfl ?_
  refine hB.aload_n d_Ru_copyFrom_32 rfl ?_
  refine hB.getI (Or.inl fa_Ru_24) d_Ru_copyFrom_33 (by omega) (sK_run (by omega) (by omega)) rfl ?_
  refine hB.putI (Or.inl fa_Ru_24) d_Ru_copyFrom_36 (by omega) (sK_run (by omega) (by omega)) rfl rfl rfl ?_
  refine hB.aload_n d_Ru_copyFrom_39 rfl ?_
  refine hB.aload_n d_Ru_copyFrom_40 rfl ?_
  refine hB.getI (Or.inl fa_Ru_30) d_Ru_copyFrom_41 (by omega) (sK_run (by omega) (by omega)) rfl ?_
  refine hB.putI (Or.inl fa_Ru_30) d_Ru_copyFrom_44 (by omega) (sK_run (by omega) (by omega)) rfl rfl rfl ?_
  refine hB.aload_n d_Ru_copyFrom_47 rfl ?_
  refine hB.aload_n d_Ru_copyFrom_48 rfl ?_
  refine hB.getI (Or.inl fa_Ru_36) d_Ru_copyFrom_49 (by omega) (sK_run (by omega) (by omega)) rfl ?_
  refine hB.putI (Or.inl fa_Ru_36) d_Ru_copyFrom_52 (by omega) (sK_run (by omega) (by omega)) rfl rfl rfl ?_
  refine hB.aload_n d_Ru_copyFrom_55 rfl ?_
  refine hB.aload_n d_Ru_copyFrom_56 rfl ?_
  refine hB.getI (Or.inl fa_Ru_46) d_Ru_copyFrom_57 (by omega) (sK_run (by omega) (by omega)) rfl ?_
  refine hB.putI (Or.inl fa_Ru_46) d_Ru_copyFrom_60 (by omega) (sK_run (by omega) (by omega)) rfl rfl rfl ?_
  refine hB.aload_n d_Ru_copyFrom_63 rfl ?_
  refine hB.aload_n d_Ru_copyFrom_64 rfl ?_
  refine hB.getI (Or.inl fa_Ru_52) d_Ru_copyFrom_65 (by omega) (sK_run (by omega) (by omega)) rfl ?_
  refine hB.putI (Or.inl fa_Ru_52) d_Ru_copyFrom_68 (by omega) (sK_run (by omega) (by omega)) rfl rfl rfl ?_
  exact hE.2.2 _ _ _ d_Ru_copyFrom_71 rfl ⟨rfl, by
      have e1 : ∀ k, (sCp z (q + 48) (r + 48) 19).1 q k = z.1 q k := fun k => by rw [sCp_row (by omega)]
      have e2 : ∀ (z9 : sT) (k j : Nat) (x : Int32), (sI z9 r k x).1 q j = z9.1 q j := fun z9 k j x => by rw [sI_row (Ne.symm hrq)]
      unfold sCf
      simp only [e1, e2]⟩
set_option maxRecDepth 100000 in
set_option maxHeartbeats 4000000 in
theorem k_RL_clear (l : Launch) (g : mG) (ad : Nat → Nat) (z : sT) (q : Nat) (hq : q = 3 ∨ q = 5) : sC l y_RL_clear c_RL_clear 1 none 0 g ad [.ref (ad q)] z (fun r w => r = none ∧ w = sI z q 1 0) := by
  refine sC.intro (own := R_RL) rfl (by decide) (by decide) (by simp [Value.category]) (Nat.le_of_ble_eq_true rfl) (fun K hB hE => ?_)
  show K 0 [some (.ref (ad q))] [] z
  refine hB.aload_n d_RL_clear_0 rfl ?_
  refine hB.iconst d_RL_clear_1 (v := 0) rfl ?_
  refine hB.putI (Or.inl fa_RL_18) d_RL_clear_2 (by omega) (sK_rl hq) rfl rfl rfl ?_
  exact hE.2.2 _ _ _ d_RL_clear_5 rfl ⟨rfl, rfl⟩
set_option maxRecDepth 100000 in
set_option maxHeartbeats 4000000 in
theorem k_RL_has (l : Launch) (g : mG) (ad : Nat → Nat) (z : sT) (q : Nat) (x : Int32) (hq : q = 3 ∨ q = 5) : sC l y_RL_has c_RL_has 2 (some .boolean) 1 g ad [.ref (ad q), .int x] z (fun r w => r = some (.int (fWi x 0 (z.1 q 1 - 1))) ∧ w = z) := by
  refine sC.intro (own := R_RL) rfl (by decide) (by decide) (by simp [Value.category]) (Nat.le_of_ble_eq_true rfl) (fun K hB hE => ?_)
  show K 0 [some (.ref (ad q)), some (.int x)] [] z
  refine hB.iload_n d_RL_has_0 rfl ?_
  refine hB.iconst d_RL_has_1 (v := 0) rfl ?_
  refine hB.aload_n d_RL_has_2 rfl ?_
  refine hB.getI (Or.inl fa_RL_18) d_RL_has_3 (by omega) (sK_rl hq) rfl ?_
  refine hB.iconst d_RL_has_6 (v := 1) rfl ?_
  refine hB.isub d_RL_has_7 ?_
  refine hB.callSN lk_RL_22 cd_Pw_isWithin (k_Pw_isWithin l g ad z x 0 (z.1 q 1 - 1)) d_RL_has_8 rfl rfl (by decide) (by simp [Value.category]) ?_
  rintro _ w9 ⟨rfl, hw9⟩
  have hw8 := hw9.symm
  clear hw9
  subst hw8
  exact hE.1 _ _ _ _ _ d_RL_has_11 rfl (fWi_nar _ _ _) ⟨rfl, rfl⟩
set_option maxRecDepth 100000 in
set_option maxHeartbeats 4000000 in
theorem k_RL_add (l : Launch) (g : mG) (ad : Nat → Nat) (z : sT) (q c : Nat) (hq : q = 3 ∨ q = 5) (hc : z.1 q 1 = nI c) (hc4 : c ≤ 24) : sC l y_RL_add c_RL_add 1 (some (.object "PatternWatch$Run")) 0 g ad [.ref (ad q)] z (fun r w => (c < 24 → r = some (.ref (ad (z.2.1 (q + 1) c))) ∧ w = sI z q 1 (nI (c + 1))) ∧ (¬ c < 24 → r = some .null ∧ w = z)) := by
  refine sC.intro (own := R_RL) rfl (by decide) (by decide) (by simp [Value.category]) (Nat.le_of_ble_eq_true rfl) (fun K hB hE => ?_)
  show K 0 [some (.ref (ad q))] [] z
  refine hB.aload_n d_RL_add_0 rfl ?_
  refine hB.getI (Or.inl fa_RL_18) d_RL_add_1 (by omega) (sK_rl hq) rfl ?_
  refine hB.bipush d_RL_add_4 (v := 24) rfl ?_
  refine hB.icmp_lt d_RL_add_6 (tgt := 11) rfl (fun q6 => ?_) (fun q6 => ?_)
  · have hc9 : c < 24 := by rw [hc] at q6; exact (nI_ltI (b := 24) (by omega) (by decide)).mp q6
    refine hB.aload_n d_RL_add_11 rfl ?_
    refine hB.dup d_RL_add_12 rfl ?_
    refine hB.getI (Or.inl fa_RL_18) d_RL_add_13 (by omega) (sK_rl hq) rfl ?_
    refine hB.iconst d_RL_add_16 (v := 1) rfl ?_
    refine hB.iadd d_RL_add_17 ?_
    refine hB.putI (Or.inl fa_RL_18) d_RL_add_18 (by omega) (sK_rl hq) rfl rfl rfl ?_
    rw [hc, ← nI_succ]
    refine hB.aload_n d_RL_add_21 rfl ?_
    refine hB.getC (Or.inl fa_RL_11) d_RL_add_22 (by omega) (sK_rl hq) rfl ?_
    refine hB.aload_n d_RL_add_25 rfl ?_
    refine hB.getI (Or.inl fa_RL_18) d_RL_add_26 (by omega) (sK_rl hq) rfl ?_
    refine hB.iconst d_RL_add_29 (v := 1) rfl ?_
    refine hB.isub d_RL_add_30 ?_
    have e1 : (sI z q 1 (nI (c + 1))).1 q 1 - 1 = nI c := by
      have : (sI z q 1 (nI (c + 1))).1 q 1 = nI (c + 1) := by simp [sI]
      rw [this, nI_pred]
    refine hB.aald4 d_RL_add_31 (by omega) (sK_rows hq) e1 (by omega) (by decide) ?_
    rw [sRf_0]
    exact hE.2.1 _ _ _ _ _ d_RL_add_32 rfl (Or.inr ⟨_, rfl⟩) ⟨fun _ => ⟨rfl, rfl⟩, fun h => absurd hc9 h⟩
  · refine hB.anull d_RL_add_9 ?_
    exact hE.2.1 _ _ _ _ _ d_RL_add_10 rfl (Or.inl rfl) ⟨fun h => absurd (by rw [hc]; exact nI_lt (b := 24) h (by decide)) q6, fun _ => ⟨rfl, rfl⟩⟩
