def sRow (z : sT) (last : Bool) (c3 c5 : Nat) : Option Nat × sT := if last then (some (z.2.1 6 c5), sI z 5 1 (nI (c5 + 1))) else if c3 < 24 then (some (z.2.1 4 c3), sI z 3 1 (nI (c3 + 1))) else (none, sI z 0 9 (z.1 0 9 + 1))
def sRv (ad : Nat → Nat) (o : Option Nat) : Value := match o with
  | some a => .ref (ad a)
  | none => .null
def sGo (z : sT) (r : Nat) (c : Nat) (s : Nat) (o : Option Nat × sT) : sT := match o.1 with
  | some a => sTk (sCf o.2 r a) a c (nI s)
  | none => o.2
theorem last_eq {s ns : Nat} {x : Int32} (hx : x = nI ns) (hs : s < ns) (h8 : ns ≤ 8) : decide (nI s = x - 1) = decide (s + 1 = ns) := by
  rw [hx, show (1 : Int32) = nI 1 from rfl, pk_sub (by omega)]
  by_cases h : s + 1 = ns
  · rw [show ns - 1 = s by omega]; simp [h]
  · have : ¬ nI s = nI (ns - 1) := fun q => h (by have := (nI_eq (a := s) (b := ns - 1) (by omega) (by omega)).mp q; omega)
    simp [this, h]
set_option maxRecDepth 100000 in
set_option maxHeartbeats 4000000 in
theorem k_Pw_rowForStep (l : Launch) (g : mG) (ad : Nat → Nat) (z : sT) (s ns c3 c5 : Nat) (hp : z.2.1 0 4 = 8 ∨ z.2.1 0 4 = 11) (hns : z.1 (z.2.1 0 4) 3 = nI ns) (hn8 : ns ≤ 8) (hs : s < ns) (hc3 : z.1 3 1 = nI c3) (hc34 : c3 ≤ 24) (hc5 : z.1 5 1 = nI c5) (hc54 : s + 1 = ns → c5 < 24) : sC l y_Pw_rowForStep c_Pw_rowForStep 3 (some (.object "PatternWatch$Run")) 2 g ad [.ref (ad 0), .int (nI s)] z (fun r9 w => r9 = some (sRv ad (sRow z (decide (s + 1 = ns)) c3 c5).1) ∧ w = (sRow z (decide (s + 1 = ns)) c3 c5).2) := by
  refine sC.intro (own := R_Pw) rfl (by decide) (by decide) (by simp [Value.category]) (Nat.le_of_ble_eq_true rfl) (fun K hB hE => ?_)
  show K 0 [some (.ref (ad 0)), some (.int (nI s)), none] [] z
  refine hB.aload_n d_Pw_rowForStep_0 rfl ?_
  refine hB.getR (Or.inl fa_Pw_36) d_Pw_rowForStep_1 (by decide) sK_0 rfl ?_
  refine hB.iload_n d_Pw_rowForStep_4 rfl ?_
  refine hB.callVN lk_Pw_196 cd_Pt_isLastStep (k_Pt_isLastStep l g ad z (z.2.1 0 4) (nI s) hp) rfl (by omega) (sK_pt hp) d_Pw_rowForStep_5 rfl rfl (by decide) (by simp [Value.category]) ?_
  rintro _ w9 ⟨rfl, hw9⟩
  rw [hw9, last_eq hns hs hn8]
  refine hB.if_eq d_Pw_rowForStep_8 (tgt := 19) rfl (fun q8 => ?_) (fun q8 => ?_)
  · refine hB.aload_n d_Pw_rowForStep_19 rfl ?_
    refine hB.getC (Or.inl fa_Pw_19) d_Pw_rowForStep_20 (by decide) sK_0 rfl ?_
    have h8 : ¬ s + 1 = ns := by simpa using bI_0 q8
    refine hB.callVN lk_Pw_246 cd_RL_add (k_RL_add l g ad z 3 c3 (Or.inl rfl) hc3 hc34) rfl (by decide) (sK_rl (Or.inl rfl)) d_Pw_rowForStep_23 rfl rfl (by decide) (by simp [Value.category]) ?_
    rintro r8 w8 ⟨h1, h2⟩
    by_cases hl : c3 < 24
    · obtain ⟨rfl, rfl⟩ := h1 hl
      refine hB.astore_n d_Pw_rowForStep_26 (Nat.le_of_ble_eq_true rfl) ?_
      refine hB.aload_n d_Pw_rowForStep_27 rfl ?_
      refine hB.ifnonnull d_Pw_rowForStep_28 (tgt := 41) rfl ?_
      refine hB.aload_n d_Pw_rowForStep_41 rfl ?_
      exact hE.2.1 _ _ _ _ _ d_Pw_rowForStep_42 rfl (Or.inr ⟨_, rfl⟩) (by simp [sRow, h8, hl, sRv])
    · obtain ⟨rfl, hw⟩ := h2 hl
      rw [hw]
      refine hB.astore_nN d_Pw_rowForStep_26 (Nat.le_of_ble_eq_true rfl) ?_
      refine hB.aload_nN d_Pw_rowForStep_27 rfl ?_
      refine hB.ifnonnullN d_Pw_rowForStep_28 ?_
      refine hB.aload_n d_Pw_rowForStep_31 rfl ?_
      refine hB.dup d_Pw_rowForStep_32 rfl ?_
      refine hB.getI (Or.inl fa_Pw_157) d_Pw_rowForStep_33 (by decide) sK_0 rfl ?_
      refine hB.iconst d_Pw_rowForStep_36 (v := 1) rfl ?_
      refine hB.iadd d_Pw_rowForStep_37 ?_
      refine hB.putI (Or.inl fa_Pw_157) d_Pw_rowForStep_38 (by decide) sK_0 rfl rfl rfl ?_
      refine hB.aload_nN d_Pw_rowForStep_41 rfl ?_
      exact hE.2.1 _ _ _ _ _ d_Pw_rowForStep_42 rfl (Or.inl rfl) (by simp [sRow, h8, hl, sRv])
  · refine hB.aload_n d_Pw_rowForStep_11 rfl ?_
    refine hB.getC (Or.inl fa_Pw_23) d_Pw_rowForStep_12 (by decide) sK_0 rfl ?_
    have h8 : s + 1 = ns := by simpa using bI_1 q8
    have hc := hc54 h8
    refine hB.callVN lk_Pw_246 cd_RL_add (k_RL_add l g ad z 5 c5 (Or.inr rfl) hc5 (by omega)) rfl (by decide) (sK_rl (Or.inr rfl)) d_Pw_rowForStep_15 rfl rfl (by decide) (by simp [Value.category]) ?_
    rintro r8 w8 ⟨h1, -⟩
    obtain ⟨rfl, rfl⟩ := h1 hc
    exact hE.2.1 _ _ _ _ _ d_Pw_rowForStep_18 rfl (Or.inr ⟨_, rfl⟩) (by simp [sRow, h8, sRv])
theorem sRow_in {z : sT} {s ns c3 c5 a : Nat} (hrow : ∀ j, j < 24 → 30 ≤ z.2.1 4 j ∧ z.2.1 4 j < 78) (hmrow : ∀ j, j < 24 → 30 ≤ z.2.1 6 j ∧ z.2.1 6 j < 78) (hc54 : s + 1 = ns → c5 < 24) (h : (sRow z (decide (s + 1 = ns)) c3 c5).1 = some a) : 30 ≤ a ∧ a < 78 := by
  unfold sRow at h
  by_cases h1 : s + 1 = ns
  · simp only [h1, decide_true, if_true] at h
    cases h
    exact hmrow c5 (hc54 h1)
  · simp only [h1, decide_false, Bool.false_eq_true, if_false] at h
    by_cases h2 : c3 < 24
    · rw [if_pos h2] at h
      cases h
      exact hrow c3 h2
    · rw [if_neg h2] at h
      cases h
theorem sRow_run {z : sT} {last : Bool} {c3 c5 r : Nat} (hr : 30 ≤ r) : (sRow z last c3 c5).2.1 r = z.1 r := by
  unfold sRow
  split
  · exact sI_row (by omega)
  · split
    · exact sI_row (by omega)
    · exact sI_row (by omega)
theorem sRow_2 {z : sT} {last : Bool} {c3 c5 : Nat} : (sRow z last c3 c5).2.2 = z.2 := by
  unfold sRow
  split
  · rfl
  · split <;> rfl
set_option maxRecDepth 100000 in
set_option maxHeartbeats 4000000 in
theorem k_Pw_goOnApart (l : Launch) (g : mG) (ad : Nat → Nat) (z : sT) (r c s ns c3 c5 : Nat) (hp : z.2.1 0 4 = 8 ∨ z.2.1 0 4 = 11) (hns : z.1 (z.2.1 0 4) 3 = nI ns) (hn8 : ns ≤ 8) (hs : s < ns) (hc3 : z.1 3 1 = nI c3) (hc34 : c3 ≤ 24) (hc5 : z.1 5 1 = nI c5) (hc54 : s + 1 = ns → c5 < 24) (hr : 30 ≤ r ∧ r < 78) (hc : z.1 r 1 = nI c) (hc9 : c < 19) (hrow : ∀ j, j < 24 → 30 ≤ z.2.1 4 j ∧ z.2.1 4 j < 78) (hmrow : ∀ j, j < 24 → 30 ≤ z.2.1 6 j ∧ z.2.1 6 j < 78) (hne : ∀ a, (sRow z (decide (s + 1 = ns)) c3 c5).1 = some a → a ≠ r) : sC l y_Pw_goOnApart c_Pw_goOnApart 4 none 3 g ad [.ref (ad 0), .ref (ad r), .int (nI s)] z (fun r9 w => r9 = none ∧ w = sGo z r c s (sRow z (decide (s + 1 = ns)) c3 c5)) := by
  refine sC.intro (own := R_Pw) rfl (by decide) (by decide) (by simp [Value.category]) (Nat.le_of_ble_eq_true rfl) (fun K hB hE => ?_)
  show K 0 [some (.ref (ad 0)), some (.ref (ad r)), some (.int (nI s)), none] [] z
  refine hB.aload_n d_Pw_goOnApart_0 rfl ?_
  refine hB.iload_n d_Pw_goOnApart_1 rfl ?_
  refine hB.callV lk_Pw_234 cd_Pw_rowForStep (k_Pw_rowForStep l g ad z s ns c3 c5 hp hns hn8 hs hc3 hc34 hc5 hc54) rfl (by decide) sK_0 d_Pw_goOnApart_2 rfl rfl (by decide) (by simp [Value.category]) ?_
  rintro _ w9 ⟨rfl, hw9⟩
  rw [hw9]
  cases ho : (sRow z (decide (s + 1 = ns)) c3 c5).1 with
  | none =>
    refine hB.astore_nN d_Pw_goOnApart_5 (Nat.le_of_ble_eq_true rfl) ?_
    refine hB.aload_nN d_Pw_goOnApart_6 rfl ?_
    refine hB.ifnullN d_Pw_goOnApart_7 (tgt := 24) rfl ?_
    exact hE.2.2 _ _ _ d_Pw_goOnApart_24 rfl ⟨rfl, by unfold sGo; rw [ho]⟩
  | some a =>
    have ha := sRow_in hrow hmrow hc54 ho
    have har := hne a ho
    refine hB.astore_n d_Pw_goOnApart_5 (Nat.le_of_ble_eq_true rfl) ?_
    refine hB.aload_n d_Pw_goOnApart_6 rfl ?_
    refine hB.ifnull d_Pw_goOnApart_7 ?_
    refine hB.aload_n d_Pw_goOnApart_10 rfl ?_
    refine hB.aload_n d_Pw_goOnApart_11 rfl ?_
    refine hB.callVN lk_Pw_238 cd_Ru_copyFrom (k_Ru_copyFrom l g ad (sRow z (decide (s + 1 = ns)) c3 c5).2 a r ha hr har) rfl (by omega) (sK_run (by omega) (by omega)) d_Pw_goOnApart_12 rfl rfl (by decide) (by simp [Value.category]) ?_
    rintro _ w9 ⟨rfl, hw9⟩
    have hw8 := hw9.symm
    clear hw9
    subst hw8
    refine hB.aload_n d_Pw_goOnApart_15 rfl ?_
    refine hB.aload_n d_Pw_goOnApart_16 rfl ?_
    refine hB.getC (Or.inl fa_Pw_29) d_Pw_goOnApart_17 (by decide) sK_0 rfl ?_
    refine hB.iload_n d_Pw_goOnApart_20 rfl ?_
    refine hB.callVN lk_Pw_203 cd_Ru_take (k_Ru_take l g ad _ a c (nI s) ha (by rw [sCf_at (by omega) (by omega), sRow_run (by omega)]; exact hc) hc9) rfl (by omega) (sK_run (by omega) (by omega)) d_Pw_goOnApart_21 rfl rfl (by decide) (by simp [Value.category]) ?_
    rintro _ w9 ⟨rfl, hw9⟩
    have hw8 := hw9.symm
    clear hw9
    subst hw8
    exact hE.2.2 _ _ _ d_Pw_goOnApart_24 rfl ⟨rfl, by unfold sGo; rw [ho]⟩
