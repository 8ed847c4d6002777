def gC (S : gS) (kd ke va pa : Int32) : eC := ((gPt S).2.1, (gPt S).1, (gPt S).2.2.1, (gPt S).2.2.2, (gFg S).2.1, kd, ke, va, (gFg S).1 + pa)
def gA (S : gS) (C : eC) : aA := aLook C ([], [], [], (gFg S).2.2.2.1, (gFg S).2.2.2.2.1, (gFg S).2.2.2.2.2) (gRs S)
def gL (S : gS) (C : eC) : List rR := (gA S C).1 ++ (gA S C).2.1
def gEv (S : gS) (C : eC) : gS := (gTx S, gN S, gFt S, gPt S, gL S C ++ bgL C (rm24 (gL S C)), (gA S C).2.2.1 ++ bgM C, (xTi C, (gFg S).2.1 + 1, (gFg S).2.2.1 + nI ((gA S C).2.2.1 ++ bgM C).length, (gA S C).2.2.2.1 + bgD C (rm24 (gL S C)), (gA S C).2.2.2.2.1, (gA S C).2.2.2.2.2))
def sE7 (z : sT) (kd ke va pa : Int32) : sT := sI (sI (sI (sI (sI (sI (sI z 7 0 (z.1 0 7)) 7 1 kd) 7 2 ke) 7 3 va) 7 4 (z.1 7 4 + pa)) 0 7 (z.1 0 7 + 1)) 5 1 0
theorem sE7_row {z : sT} {kd ke va pa : Int32} {a : Nat} (h0 : a ≠ 0) (h5 : a ≠ 5) (h7 : a ≠ 7) : (sE7 z kd ke va pa).1 a = z.1 a := by
  unfold sE7
  rw [sI_row h5, sI_row h0, sI_row h7, sI_row h7, sI_row h7, sI_row h7, sI_row h7]
theorem clA.ev {z : sT} {S : gS} {kd ke va pa : Int32} (h : clA z S) : evC (sE7 z kd ke va pa) (z.2.1 0 4) (gC S kd ke va pa) ∧ rwA (sE7 z kd ke va pa) ∧ lsA (sE7 z kd ke va pa) 3 (gRs S) ∧ lsA (sE7 z kd ke va pa) 5 [] := by
  obtain ⟨h1, h3, h4, h5, h6, h7, h8, h9, h10, h11, h12, h13, h14, h15, h16, h17, h18⟩ := h
  have hp : z.2.1 0 4 = 8 ∨ z.2.1 0 4 = 11 := h1.elim (fun q => Or.inl q.1) (fun q => Or.inr q.1)
  have hpb := pb_in hp
  refine ⟨⟨rfl, hp, ?_, h4, ?_, ?_, ?_, ?_, ?_, ?_, ?_⟩, h9, ?_, ⟨?_, by show 0 ≤ 24; omega, fun i R hi => by simp at hi⟩⟩
  · exact h3.keep hp (fun a a1 a2 => sE7_row (by omega) (by omega) (by omega)) h4
  · rw [sE7_row (by omega) (by omega) (by omega)]; exact h5
  · rw [sE7_row (by omega) (by omega) (by omega)]; exact h6
  · simp [sE7, sI, gC, xNu]; exact h14
  · simp [sE7, sI, gC, xKd]
  · simp [sE7, sI, gC, xKe]
  · simp [sE7, sI, gC, xVa]
  · simp [sE7, sI, gC, xTi]; exact h13
  · exact h10.keep h9 (Or.inl rfl) rfl (by rw [sE7_row (by omega) (by omega) (by omega)]) (fun a a1 a2 => sE7_row (by omega) (by omega) (by omega))
  · simp [sE7, sI]; rfl
theorem gA_ms {S : gS} {C : eC} (hok : ∀ Q ∈ gRs S, rOk C Q) (h1 : (xSl C).length = 1) : (gA S C).2.2.1 = [] := by
  have : gRs S = [] := by
    cases h : gRs S with
    | nil => rfl
    | cons R t =>
      have := (hok R (by rw [h]; exact List.mem_cons_self ..)).1
      omega
  unfold gA
  rw [this]
  rfl
theorem clA.evEnd {z w1 w2 : sT} {S : gS} {kd ke va pa : Int32} (h : clA z S) (h1 : lkA (sE7 z kd ke va pa) (z.2.1 0 4) (gC S kd ke va pa) (gA S (gC S kd ke va pa)) [] w1) (h2 : bgPost w1 (gC S kd ke va pa) (gL S (gC S kd ke va pa)) (gA S (gC S kd ke va pa)).2.2.1 w2) :
    clA (sI w2 0 8 (w2.1 0 8 + w2.1 5 1)) (gEv S (gC S kd ke va pa)) ∧ frC z (sI w2 0 8 (w2.1 0 8 + w2.1 5 1)) ∧ w2.1 5 1 = nI (gMs (gEv S (gC S kd ke va pa))).length := by
  obtain ⟨a1, a2, a3, a4, a5, a6, a7, a8, a9⟩ := h1
  obtain ⟨b1, b2, b3, b4, b5, b6, b7, b8⟩ := h2
  obtain ⟨h1, h3, h4, h5, h6, h7, h8, h9, h10, h11, h12, h13, h14, h15, h16, h17, h18⟩ := h
  have hp : z.2.1 0 4 = 8 ∨ z.2.1 0 4 = 11 := h1.elim (fun q => Or.inl q.1) (fun q => Or.inr q.1)
  have fr := a1.trans b1
  have zz := a9.trans b8
  have e0 : w2.2.1 0 = z.2.1 0 := fr.1
  have ev2 := a2.fr b1
  have h51 : w2.1 5 1 = nI (gMs (gEv S (gC S kd ke va pa))).length := b4.1
  have z0 : ∀ j, j ≠ 7 → (sE7 z kd ke va pa).1 0 j = z.1 0 j := fun j hj => by simp [sE7, sI, hj]
  have v0 : ∀ j, j ≠ 8 → (sI w2 0 8 (w2.1 0 8 + w2.1 5 1)).1 0 j = w2.1 0 j := fun j hj => by simp [sI, hj]
  have row : ∀ a, a ≠ 0 → (sI w2 0 8 (w2.1 0 8 + w2.1 5 1)).1 a = w2.1 a := fun a ha => sI_row ha
  have rw2 : rwA w2 := by
    unfold rwA
    rw [b2]
    exact a3
  refine ⟨⟨?_, ?_, h4, ?_, ?_, ⟨?_, h7.2.1, fun i hi => ?_⟩, ?_, rw2, ?_, ?_, ?_, ?_, ?_, ?_, ?_, ?_, ?_⟩, fun a ha => ?_, h51⟩
  · show (w2.2.1 0 4 = 8 ∧ w2.2.1 0 5 = 11) ∨ (w2.2.1 0 4 = 11 ∧ w2.2.1 0 5 = 8)
    rw [e0]; exact h1
  · show ptA (sI w2 0 8 (w2.1 0 8 + w2.1 5 1)) (w2.2.1 0 4) _ _
    rw [e0]
    exact ev2.2.2.1.keep hp (fun a q1 q2 => row a (by omega)) h4
  · show (sI w2 0 8 (w2.1 0 8 + w2.1 5 1)).1 (w2.2.1 0 4) 4 = _
    rw [e0, row _ (by omega)]
    exact ev2.2.2.2.2.1
  · show (sI w2 0 8 (w2.1 0 8 + w2.1 5 1)).1 (w2.2.1 0 4) 5 = _
    rw [e0, row _ (by omega)]
    exact ev2.2.2.2.2.2.1
  · rw [row 1 (by omega), fr.2 1 (by omega) (by omega) (by omega) (by omega), sE7_row (by omega) (by omega) (by omega)]
    exact h7.1
  · rw [row 2 (by omega), fr.2 2 (by omega) (by omega) (by omega) (by omega), sE7_row (by omega) (by omega) (by omega)]
    exact h7.2.2 i hi
  · rw [row 2 (by omega), fr.2 2 (by omega) (by omega) (by omega) (by omega), sE7_row (by omega) (by omega) (by omega)]
    exact h8
  · exact b3.keep rw2 (Or.inl rfl) rfl (by rw [row 3 (by omega)]) (fun a q1 q2 => row a (by omega))
  · exact b4.keep rw2 (Or.inr rfl) rfl (by rw [row 5 (by omega)]) (fun a q1 q2 => row a (by omega))
  · rw [v0 6 (by omega), zz 6 (by omega) (by omega) (by omega), z0 6 (by omega)]
    exact h12
  · rw [row 7 (by omega)]
    exact ev2.2.2.2.2.2.2.2.2.2.2
  · rw [v0 7 (by omega), zz 7 (by omega) (by omega) (by omega)]
    simp [sE7, sI, gEv, gFg]
    exact h14
  · have e8 : w2.1 0 8 = (gFg S).2.2.1 := by rw [zz 8 (by omega) (by omega) (by omega), z0 8 (by omega)]; exact h15
    rw [h51, e8]
    simp [sI, gEv, gFg, gMs]
  · rw [v0 9 (by omega), b5, a6]; rfl
  · rw [v0 10 (by omega), b6, a7]; rfl
  · rw [v0 11 (by omega), b7, a8]; rfl
  · rw [row a (by omega), fr.2 a (by omega) (by omega) (by omega) (by omega), sE7_row (by omega) (by omega) (by omega)]
set_option maxRecDepth 100000 in
set_option maxHeartbeats 4000000 in
theorem k_Pw_event (l : Launch) (g : mG) (ad : Nat → Nat) (z : sT) (S : gS) (hS : clA z S) (q : Nat) (hq : q < 65536) (ke va pa : Int32) (h1 : fWi (nI q) 65 70 = 1) (h2 : fWi ke 0 9 = 1) (h3 : fWi va (-100) 100 = 1) (h4 : fWi pa 0 1000 = 1) (hns : 0 < (gSl S).length) (hok : ∀ Q ∈ gRs S, rOk (gC S (nI q) ke va pa) Q) : sC l y_Pw_event c_Pw_event 5 (some .int) 6 g ad [.ref (ad 0), .int (nI q), .int ke, .int va, .int pa] z (fun r w => r = some (.int (nI (gMs (gEv S (gC S (nI q) ke va pa))).length)) ∧ clA w (gEv S (gC S (nI q) ke va pa)) ∧ frC z w) := by
  refine sC.intro (own := R_Pw) rfl (by decide) (by decide) (by simp [Value.category]) (Nat.le_of_ble_eq_true rfl) (fun K hB hE => ?_)
  show K 0 [some (.ref (ad 0)), some (.int (nI q)), some (.int ke), some (.int va), some (.int pa)] [] z
  have hp := hS.pt
  have hst : ¬ z.1 (z.2.1 0 4) 3 = 0 := by rw [hS.2.1.2.1]; exact nI_ne0 hns (by have := stO_len (gPt S).2.1 (gPt S).1; have := hS.2.2.1; omega)
  obtain ⟨hE1, hE2, hE3, hE4⟩ := hS.ev (kd := nI q) (ke := ke) (va := va) (pa := pa)
  refine hB.aload_n d_Pw_event_0 rfl ?_
  refine hB.getR (Or.inl fa_Pw_36) d_Pw_event_1 (by decide) sK_0 rfl ?_
  refine hB.getI (Or.inr fa_Pw_71) d_Pw_event_4 (by omega) (sK_pt hp) rfl ?_
  refine hB.if_ne d_Pw_event_7 (tgt := 20) rfl (fun q7 => ?_) (fun q7 => absurd q7 hst)
  refine hB.iload_n d_Pw_event_20 rfl ?_
  refine hB.callS lk_Pw_79 cd_Pw_isLetter (k_Pw_isLetter l g ad z (nI q)) d_Pw_event_21 rfl rfl (by decide) (by simp [Value.category]) ?_
  rintro _ w9 ⟨rfl, hw9⟩
  have hw8 := hw9.symm
  clear hw9
  subst hw8
  rw [h1]
  refine hB.if_eq d_Pw_event_24 (tgt := 60) rfl (fun q24 => absurd q24 (by decide)) (fun q24 => ?_)
  refine hB.iload_n d_Pw_event_27 rfl ?_
  refine hB.iconst d_Pw_event_28 (v := 0) rfl ?_
  refine hB.bipush d_Pw_event_29 (v := 9) rfl ?_
  refine hB.callS lk_Pw_82 cd_Pw_isWithin (k_Pw_isWithin l g ad z ke 0 9) d_Pw_event_31 rfl rfl (by decide) (by simp [Value.category]) ?_
  rintro _ w9 ⟨rfl, hw9⟩
  have hw8 := hw9.symm
  clear hw9
  subst hw8
  rw [h2]
  refine hB.if_eq d_Pw_event_34 (tgt := 60) rfl (fun q34 => absurd q34 (by decide)) (fun q34 => ?_)
  refine hB.iload_n d_Pw_event_37 rfl ?_
  refine hB.bipush d_Pw_event_38 (v := -100) rfl ?_
  refine hB.bipush d_Pw_event_40 (v := 100) rfl ?_
  refine hB.callS lk_Pw_82 cd_Pw_isWithin (k_Pw_isWithin l g ad z va (-100) 100) d_Pw_event_42 rfl rfl (by decide) (by simp [Value.category]) ?_
  rintro _ w9 ⟨rfl, hw9⟩
  have hw8 := hw9.symm
  clear hw9
  subst hw8
  rw [h3]
  refine hB.if_eq d_Pw_event_45 (tgt := 60) rfl (fun q45 => absurd q45 (by decide)) (fun q45 => ?_)
  refine hB.iload d_Pw_event_48 rfl ?_
  refine hB.iconst d_Pw_event_50 (v := 0) rfl ?_
  refine hB.sipush d_Pw_event_51 (v := 1000) rfl ?_
  refine hB.callS lk_Pw_82 cd_Pw_isWithin (k_Pw_isWithin l g ad z pa 0 1000) d_Pw_event_54 rfl rfl (by decide) (by simp [Value.category]) ?_
  rintro _ w9 ⟨rfl, hw9⟩
  have hw8 := hw9.symm
  clear hw9
  subst hw8
  rw [h4]
  refine hB.if_ne d_Pw_event_57 (tgt := 70) rfl (fun q57 => ?_) (fun q57 => absurd q57 (by decide))
  refine hB.aload_n d_Pw_event_70 rfl ?_
  refine hB.getC (Or.inl fa_Pw_29) d_Pw_event_71 (by decide) sK_0 rfl ?_
  refine hB.aload_n d_Pw_event_74 rfl ?_
  refine hB.getI (Or.inl fa_Pw_88) d_Pw_event_75 (by decide) sK_0 rfl ?_
  refine hB.putI (Or.inr fa_Pw_91) d_Pw_event_78 (by decide) sK_7 rfl rfl rfl ?_
  refine hB.aload_n d_Pw_event_81 rfl ?_
  refine hB.getC (Or.inl fa_Pw_29) d_Pw_event_82 (by decide) sK_0 rfl ?_
  refine hB.iload_n d_Pw_event_85 rfl ?_
  refine hB.putI (Or.inr fa_Pw_94) d_Pw_event_86 (by decide) sK_7 rfl (nar_char hq) (fit_char hq) ?_
  refine hB.aload_n d_Pw_event_89 rfl ?_
  refine hB.getC (Or.inl fa_Pw_29) d_Pw_event_90 (by decide) sK_0 rfl ?_
  refine hB.iload_n d_Pw_event_93 rfl ?_
  refine hB.putI (Or.inr fa_Pw_98) d_Pw_event_94 (by decide) sK_7 rfl rfl rfl ?_
  refine hB.aload_n d_Pw_event_97 rfl ?_
  refine hB.getC (Or.inl fa_Pw_29) d_Pw_event_98 (by decide) sK_0 rfl ?_
  refine hB.iload_n d_Pw_event_101 rfl ?_
  refine hB.putI (Or.inr fa_Pw_101) d_Pw_event_102 (by decide) sK_7 rfl rfl rfl ?_
  refine hB.aload_n d_Pw_event_105 rfl ?_
  refine hB.getC (Or.inl fa_Pw_29) d_Pw_event_106 (by decide) sK_0 rfl ?_
  refine hB.dup d_Pw_event_109 rfl ?_
  refine hB.getI (Or.inr fa_Pw_104) d_Pw_event_110 (by decide) sK_7 rfl ?_
  refine hB.iload d_Pw_event_113 rfl ?_
  refine hB.iadd d_Pw_event_115 ?_
  refine hB.putI (Or.inr fa_Pw_104) d_Pw_event_116 (by decide) sK_7 rfl rfl rfl ?_
  refine hB.aload_n d_Pw_event_119 rfl ?_
  refine hB.dup d_Pw_event_120 rfl ?_
  refine hB.getI (Or.inl fa_Pw_88) d_Pw_event_121 (by decide) sK_0 rfl ?_
  refine hB.iconst d_Pw_event_124 (v := 1) rfl ?_
  refine hB.iadd d_Pw_event_125 ?_
  refine hB.putI (Or.inl fa_Pw_88) d_Pw_event_126 (by decide) sK_0 rfl rfl rfl ?_
  refine hB.aload_n d_Pw_event_129 rfl ?_
  refine hB.getC (Or.inl fa_Pw_23) d_Pw_event_130 (by decide) sK_0 rfl ?_
  refine hB.callVN lk_Pw_107 cd_RL_clear (k_RL_clear l g ad _ 5 (Or.inr rfl)) rfl (by decide) (sK_rl (Or.inr rfl)) d_Pw_event_133 rfl rfl (by decide) (by simp [Value.category]) ?_
  rintro _ w9 ⟨rfl, hw9⟩
  have hw8 := hw9.symm
  clear hw9
  subst hw8
  have e9 : sI (sI (sI (sI (sI (sI (sI z 7 0 (z.1 0 7)) 7 1 (nI q)) 7 2 ke) 7 3 va) 7 4 ((sI (sI (sI (sI z 7 0 (z.1 0 7)) 7 1 (nI q)) 7 2 ke) 7 3 va).1 7 4 + pa)) 0 7 ((sI (sI (sI (sI (sI z 7 0 (z.1 0 7)) 7 1 (nI q)) 7 2 ke) 7 3 va) 7 4 ((sI (sI (sI (sI z 7 0 (z.1 0 7)) 7 1 (nI q)) 7 2 ke) 7 3 va).1 7 4 + pa)).1 0 7 + 1)) 5 1 0 = sE7 z (nI q) ke va pa := by
    have e1 : (sI (sI (sI (sI z 7 0 (z.1 0 7)) 7 1 (nI q)) 7 2 ke) 7 3 va).1 7 4 = z.1 7 4 := by simp [sI]
    rw [e1]
    have e2 : (sI (sI (sI (sI (sI z 7 0 (z.1 0 7)) 7 1 (nI q)) 7 2 ke) 7 3 va) 7 4 (z.1 7 4 + pa)).1 0 7 = z.1 0 7 := by simp [sI]
    rw [e2]
    rfl
  rw [e9]
  refine hB.aload_n d_Pw_event_136 rfl ?_
  refine hB.callV lk_Pw_110 cd_Pw_lookAtRuns (k_Pw_lookAtRuns l g ad (sE7 z (nI q) ke va pa) (z.2.1 0 4) (gC S (nI q) ke va pa) (gRs S) hE1 hE2 hE3 hE4 hok) rfl (by decide) sK_0 d_Pw_event_137 rfl rfl (by decide) (by simp [Value.category]) ?_
  rintro _ w1 ⟨rfl, hlk⟩
  have z9 : ∀ j, j ≠ 7 → (sE7 z (nI q) ke va pa).1 0 j = z.1 0 j := fun j hj => by simp [sE7, sI, hj]
  rw [z9 9 (by omega), z9 10 (by omega), z9 11 (by omega), hS.2.2.2.2.2.2.2.2.2.2.2.2.2.2.1, hS.2.2.2.2.2.2.2.2.2.2.2.2.2.2.2.1, hS.2.2.2.2.2.2.2.2.2.2.2.2.2.2.2.2] at hlk
  change lkA (sE7 z (nI q) ke va pa) (z.2.1 0 4) (gC S (nI q) ke va pa) (gA S (gC S (nI q) ke va pa)) [] w1 at hlk
  refine hB.aload_n d_Pw_event_140 rfl ?_
  refine hB.callV lk_Pw_113 cd_Pw_beginRun (k_begin l g ad hlk.2.1 hlk.2.2.1 hlk.2.2.2.1 hlk.2.2.2.2.1 hns (fun q9 => by rw [gA_ms hok q9]; decide)) rfl (by decide) sK_0 d_Pw_event_141 rfl rfl (by decide) (by simp [Value.category]) ?_
  rintro _ w2 ⟨rfl, hbg⟩
  obtain ⟨c1, c2, c3⟩ := hS.evEnd hlk hbg
  refine hB.aload_n d_Pw_event_144 rfl ?_
  refine hB.dup d_Pw_event_145 rfl ?_
  refine hB.getI (Or.inl fa_Pw_116) d_Pw_event_146 (by decide) sK_0 rfl ?_
  refine hB.aload_n d_Pw_event_149 rfl ?_
  refine hB.getC (Or.inl fa_Pw_23) d_Pw_event_150 (by decide) sK_0 rfl ?_
  refine hB.getI (Or.inr fa_Pw_119) d_Pw_event_153 (by decide) (sK_rl (Or.inr rfl)) rfl ?_
  refine hB.iadd d_Pw_event_156 ?_
  refine hB.putI (Or.inl fa_Pw_116) d_Pw_event_157 (by decide) sK_0 rfl rfl rfl ?_
  refine hB.aload_n d_Pw_event_160 rfl ?_
  refine hB.getC (Or.inl fa_Pw_23) d_Pw_event_161 (by decide) sK_0 rfl ?_
  refine hB.getI (Or.inr fa_Pw_119) d_Pw_event_164 (by decide) (sK_rl (Or.inr rfl)) rfl ?_
  exact hE.1 _ _ _ _ _ d_Pw_event_167 rfl rfl ⟨by rw [sI_row (by omega), c3], c1, c2⟩
set_option maxRecDepth 100000 in
set_option maxHeartbeats 4000000 in
theorem x_event1 (l : Launch) (htl : l.stackTraces = false) (g : mG) (ad : Nat → Nat) (z : sT) (S : gS) (hS : clA z S) (q : Nat) (hq : q < 65536) (ke va pa : Int32) (hns : (gSl S).length = 0) : xC l y_Pw_event c_Pw_event 5 (some .int) 6 g ad [.ref (ad 0), .int (nI q), .int ke, .int va, .int pa] z X_ISE (fun w => w = z) := by
  refine xC.intro htl xf_ISE rfl (by decide) (by simp [Value.category]) (Nat.le_of_ble_eq_true rfl) (fun K hB hX => ?_)
  show K 0 [some (.ref (ad 0)), some (.int (nI q)), some (.int ke), some (.int va), some (.int pa)] [] z
  have hp := hS.pt
  have hst : z.1 (z.2.1 0 4) 3 = 0 := by rw [hS.2.1.2.1, show (stO (gPt S).2.1 (gPt S).1).length = 0 from hns]; rfl
  refine hB.aload_n d_Pw_event_0 rfl ?_
  refine hB.getR (Or.inl fa_Pw_36) d_Pw_event_1 (by decide) sK_0 rfl ?_
  refine hB.getI (Or.inr fa_Pw_71) d_Pw_event_4 (by omega) (sK_pt hp) rfl ?_
  refine hB.if_ne d_Pw_event_7 (tgt := 20) rfl (fun q7 => absurd hst q7) (fun q7 => ?_)
  exact hX 10 _ 76 _ "no pattern is loaded" _ _ d_Pw_event_10 d_Pw_event_13 d_Pw_event_14 d_Pw_event_16 d_Pw_event_19 rfl xk_ISE xi_ISE xa_ISE (by decide) rfl
set_option maxRecDepth 100000 in
set_option maxHeartbeats 4000000 in
theorem x_event2 (l : Launch) (htl : l.stackTraces = false) (g : mG) (ad : Nat → Nat) (z : sT) (S : gS) (hS : clA z S) (q : Nat) (hq : q < 65536) (ke va pa : Int32) (hns : 0 < (gSl S).length) (hbad : ¬ (fWi (nI q) 65 70 = 1 ∧ fWi ke 0 9 = 1 ∧ fWi va (-100) 100 = 1 ∧ fWi pa 0 1000 = 1)) : xC l y_Pw_event c_Pw_event 5 (some .int) 6 g ad [.ref (ad 0), .int (nI q), .int ke, .int va, .int pa] z X_IAE (fun w => w = z) := by
  refine xC.intro htl xf_IAE rfl (by decide) (by simp [Value.category]) (Nat.le_of_ble_eq_true rfl) (fun K hB hX => ?_)
  show K 0 [some (.ref (ad 0)), some (.int (nI q)), some (.int ke), some (.int va), some (.int pa)] [] z
  have hp := hS.pt
  have hst : ¬ z.1 (z.2.1 0 4) 3 = 0 := by rw [hS.2.1.2.1]; exact nI_ne0 hns (by have := stO_len (gPt S).2.1 (gPt S).1; have := hS.2.2.1; omega)
  refine hB.aload_n d_Pw_event_0 rfl ?_
  refine hB.getR (Or.inl fa_Pw_36) d_Pw_event_1 (by decide) sK_0 rfl ?_
  refine hB.getI (Or.inr fa_Pw_71) d_Pw_event_4 (by omega) (sK_pt hp) rfl ?_
  refine hB.if_ne d_Pw_event_7 (tgt := 20) rfl (fun q7 => ?_) (fun q7 => absurd q7 hst)
  refine hB.iload_n d_Pw_event_20 rfl ?_
  refine hB.callS lk_Pw_79 cd_Pw_isLetter (k_Pw_isLetter l g ad z (nI q)) d_Pw_event_21 rfl rfl (by decide) (by simp [Value.category]) ?_
  rintro _ w9 ⟨rfl, hw9⟩
  have hw8 := hw9.symm
  clear hw9
  subst hw8
  refine hB.if_eq d_Pw_event_24 (tgt := 60) rfl (fun q24 => ?_) (fun q24 => ?_)
  · exact hX 60 _ 86 _ "no such event" _ _ d_Pw_event_60 d_Pw_event_63 d_Pw_event_64 d_Pw_event_66 d_Pw_event_69 rfl xk_IAE xi_IAE xa_IAE (by decide) rfl
  · refine hB.iload_n d_Pw_event_27 rfl ?_
    refine hB.iconst d_Pw_event_28 (v := 0) rfl ?_
    refine hB.bipush d_Pw_event_29 (v := 9) rfl ?_
    refine hB.callS lk_Pw_82 cd_Pw_isWithin (k_Pw_isWithin l g ad z ke 0 9) d_Pw_event_31 rfl rfl (by decide) (by simp [Value.category]) ?_
    rintro _ w9 ⟨rfl, hw9⟩
    have hw8 := hw9.symm
    clear hw9
    subst hw8
    refine hB.if_eq d_Pw_event_34 (tgt := 60) rfl (fun q34 => ?_) (fun q34 => ?_)
    · exact hX 60 _ 86 _ "no such event" _ _ d_Pw_event_60 d_Pw_event_63 d_Pw_event_64 d_Pw_event_66 d_Pw_event_69 rfl xk_IAE xi_IAE xa_IAE (by decide) rfl
    · refine hB.iload_n d_Pw_event_37 rfl ?_
      refine hB.bipush d_Pw_event_38 (v := -100) rfl ?_
      refine hB.bipush d_Pw_event_40 (v := 100) rfl ?_
      refine hB.callS lk_Pw_82 cd_Pw_isWithin (k_Pw_isWithin l g ad z va (-100) 100) d_Pw_event_42 rfl rfl (by decide) (by simp [Value.category]) ?_
      rintro _ w9 ⟨rfl, hw9⟩
      have hw8 := hw9.symm
      clear hw9
      subst hw8
      refine hB.if_eq d_Pw_event_45 (tgt := 60) rfl (fun q45 => ?_) (fun q45 => ?_)
      · exact hX 60 _ 86 _ "no such event" _ _ d_Pw_event_60 d_Pw_event_63 d_Pw_event_64 d_Pw_event_66 d_Pw_event_69 rfl xk_IAE xi_IAE xa_IAE (by decide) rfl
      · refine hB.iload d_Pw_event_48 rfl ?_
        refine hB.iconst d_Pw_event_50 (v := 0) rfl ?_
        refine hB.sipush d_Pw_event_51 (v := 1000) rfl ?_
        refine hB.callS lk_Pw_82 cd_Pw_isWithin (k_Pw_isWithin l g ad z pa 0 1000) d_Pw_event_54 rfl rfl (by decide) (by simp [Value.category]) ?_
        rintro _ w9 ⟨rfl, hw9⟩
        have hw8 := hw9.symm
        clear hw9
        subst hw8
        refine hB.if_ne d_Pw_event_57 (tgt := 70) rfl (fun q57 => ?_) (fun q57 => ?_)
        · exact absurd ⟨(fWi_01 _ _ _).resolve_left q24, (fWi_01 _ _ _).resolve_left q34, (fWi_01 _ _ _).resolve_left q45, (fWi_01 _ _ _).resolve_left q57⟩ hbad
        · exact hX 60 _ 86 _ "no such event" _ _ d_Pw_event_60 d_Pw_event_63 d_Pw_event_64 d_Pw_event_66 d_Pw_event_69 rfl xk_IAE xi_IAE xa_IAE (by decide) rfl
