theorem fWi_no {x : Int32} {n : Nat} (hn : n < 2 ^ 31) (h : fWi x 0 (nI n - 1) = 0) : x < 0 ∨ nI n ≤ x := by
  by_cases h0 : x < 0
  · exact Or.inl h0
  · refine Or.inr ?_
    obtain ⟨j, hj, rfl⟩ := nI_of h0
    rcases Nat.lt_or_ge j n with hl | hl
    · rw [fWi_of hn hl] at h
      exact absurd h (by decide)
    · exact nI_le hl hj
theorem mdA.code {z : sT} {S : gS} {E : Nat} (h : mdA z S E) (u : Int32) : mdA (sI z 126 0 u) S E := by
  obtain ⟨⟨a1, a2, a3⟩, ⟨p1, p2, p3, p4, p5, p6⟩, ⟨r1, r2⟩, ⟨m1, m2⟩, f0, f1, f2, f3, f4, f5, f6⟩ := h
  refine ⟨⟨by rw [sI_ne (by omega)]; exact a1, fun i hi => by rw [sI_row (by omega)]; exact a2 i hi, by rw [sI_ne (by omega)]; exact a3⟩, ⟨by rw [sI_ne (by omega)]; exact p1, by rw [sI_ne (by omega)]; exact p2, fun s x hs => by rw [sI_row (by omega)]; exact p3 s x hs, fun j hj => (p4 j hj).fr (fun a q1 q2 => by rw [sI_row (by omega)]), by rw [sI_ne (by omega)]; exact p5, by rw [sI_ne (by omega)]; exact p6⟩, ⟨by rw [sI_ne (by omega)]; exact r1, fun i R hR => ?_⟩, ⟨by rw [sI_ne (by omega)]; exact m1, fun i R hR => ?_⟩, f0, by rw [sI_ne (by omega)]; exact f1, by rw [sI_ne (by omega)]; exact f2, by rw [sI_ne (by omega)]; exact f3, by rw [sI_ne (by omega)]; exact f4, by rw [sI_ne (by omega)]; exact f5, by rw [sI_ne (by omega)]; exact f6⟩
  · have := r2 i R hR
    unfold mdR at this ⊢
    rw [sI_row (by omega), sI_row (by omega), sI_row (by omega), sI_row (by omega), sI_row (by omega), sI_row (by omega)]
    exact this
  · have := m2 i R hR
    unfold mdM at this ⊢
    rw [sI_row (by omega), sI_row (by omega)]
    exact this
theorem mdA.text {z w : sT} {S S2 : gS} {E : Nat} (h : mdA z S E) (h2 : ∀ a, a ≠ 126 → a ≠ 127 → w.1 a = z.1 a) (h3 : ∀ j, j ≠ 1 → w.1 126 j = z.1 126 j) (h4 : w.1 126 1 = nI (gN S2)) (h5 : ∀ i, i < gN S2 → w.1 127 i = gTx S2 i) (hS : S2.2.2 = S.2.2) : mdA w S2 E := by
  obtain ⟨⟨a1, a2, a3⟩, ⟨p1, p2, p3, p4, p5, p6⟩, ⟨r1, r2⟩, ⟨m1, m2⟩, f0, f1, f2, f3, f4, f5, f6⟩ := h
  have eP : gPt S2 = gPt S := by unfold gPt; rw [hS]
  have eR : gRs S2 = gRs S := by unfold gRs; rw [hS]
  have eM : gMs S2 = gMs S := by unfold gMs; rw [hS]
  have eF : gFg S2 = gFg S := by unfold gFg; rw [hS]
  have eG : gFt S2 = gFt S := by unfold gFt; rw [hS]
  have eS : gSl S2 = gSl S := by unfold gSl; rw [eP]
  unfold mdA mdP
  rw [eP, eR, eM, eF, eG, eS]
  refine ⟨⟨h4, h5, by rw [h3 3 (by omega)]; exact a3⟩, ⟨by rw [h3 4 (by omega)]; exact p1, by rw [h3 16 (by omega)]; exact p2, fun s x hs => by rw [h2 134 (by omega) (by omega)]; exact p3 s x hs, fun j hj => (p4 j hj).fr (fun a q1 q2 => by rw [h2 a (by omega) (by omega)]), by rw [h3 12 (by omega)]; exact p5, by rw [h3 14 (by omega)]; exact p6⟩, ⟨by rw [h3 24 (by omega)]; exact r1, fun i R hR => ?_⟩, ⟨by rw [h3 30 (by omega)]; exact m1, fun i R hR => ?_⟩, f0, by rw [h3 18 (by omega)]; exact f1, by rw [h3 19 (by omega)]; exact f2, by rw [h3 33 (by omega)]; exact f3, by rw [h3 34 (by omega)]; exact f4, by rw [h3 35 (by omega)]; exact f5, by rw [h3 36 (by omega)]; exact f6⟩
  · have := r2 i R hR
    unfold mdR at this ⊢
    rw [h2 139 (by omega) (by omega), h2 140 (by omega) (by omega), h2 141 (by omega) (by omega), h2 136 (by omega) (by omega), h2 137 (by omega) (by omega), h2 138 (by omega) (by omega)]
    exact this
  · have := m2 i R hR
    unfold mdM at this ⊢
    rw [h2 142 (by omega) (by omega), h2 143 (by omega) (by omega)]
    exact this
theorem k_mType (l : Launch) (g : mG) (ad : Nat → Nat) (z : sT) {S : gS} {E : Nat} (hA : mdA z S E) (hO : gOk S E) (q : Nat) (hq : q < 65536) : sC l y_Md_type c_Md_type 2 (some .boolean) 0 g ad [.ref (ad 126), .int (nI q)] z (fun r w => r = some (.int (bI (decide (33 ≤ q ∧ q ≤ 126 ∧ gN S < 40)))) ∧ mdA w (gTy S q) E ∧ frL z w) := by
  refine (k_Md_type l g ad z (gN S) q hA.1.1 hO.1.1 hq).mono (fun r w hr => ?_)
  obtain ⟨h1, rfl⟩ := hr
  refine ⟨h1, ?_⟩
  unfold gTy
  by_cases hc : 33 ≤ q ∧ q ≤ 126 ∧ gN S < 40
  · rw [if_pos hc, if_pos hc]
    refine ⟨(hA.code 0).text (fun a q1 q2 => by rw [sI_row q1, sI_row q2]) (fun j hj => by rw [sI_ne hj, sI_row (by omega)]) (by rw [sI_eq]; rfl) (fun i hi => ?_) rfl, rfl, fun a ha => by rw [sI_row (by omega), sI_row (by omega), sI_row (by omega)]⟩
    show (sI (sI (sI z 126 0 0) 127 (gN S) (nI q)) 126 1 (nI (gN S + 1))).1 127 i = upd (gTx S) (gN S) (nI q) i
    rw [sI_row (by omega)]
    unfold upd
    by_cases hi2 : i = gN S
    · subst hi2
      rw [sI_eq, if_pos rfl]
    · rw [sI_ne hi2, sI_row (by omega), if_neg hi2]
      have hi3 : i < gN S + 1 := hi
      exact hA.1.2.1 i (by omega)
  · rw [if_neg hc, if_neg hc]
    exact ⟨hA.code 0, rfl, fun a ha => sI_row (by omega)⟩
theorem k_mWipe (l : Launch) (g : mG) (ad : Nat → Nat) (z : sT) {S : gS} {E : Nat} (hA : mdA z S E) : sC l y_Md_wipe c_Md_wipe 1 none 0 g ad [.ref (ad 126)] z (fun r w => r = none ∧ mdA w (gTx S, 0, S.2.2) E ∧ frL z w) := by
  refine (k_Md_wipe l g ad z).mono (fun r w hr => ?_)
  obtain ⟨h1, rfl⟩ := hr
  exact ⟨h1, (hA.code 0).text (fun a q1 q2 => by rw [sI_row q1]) (fun j hj => sI_ne hj) (by rw [sI_eq]; rfl) (fun i hi => absurd hi (Nat.not_lt_zero i)) rfl, rfl, fun a ha => by rw [sI_row (by omega), sI_row (by omega)]⟩
set_option maxRecDepth 100000 in
set_option maxHeartbeats 4000000 in
theorem k_Md_fault (l : Launch) (g : mG) (ad : Nat → Nat) (z : sT) (S : gS) (E9 : Nat) (hA : mdA z S E9) (hO : gOk S E9) : sC l y_Md_fault c_Md_fault 1 (some .int) 0 g ad [.ref (ad 126)] z (fun r w => r = some (.int (gFt S)) ∧ w = sI z 126 0 0) := by
  refine sC.intro (own := R_Md) rfl (by decide) (by decide) (by simp [Value.category]) (Nat.le_of_ble_eq_true rfl) (fun K hB hE => ?_)
  show K 0 [some (.ref (ad 126))] [] z
  refine hB.aload_n d_Md_fault_0 rfl ?_
  refine hB.iconst d_Md_fault_1 (v := 0) rfl ?_
  refine hB.putI (Or.inl fa_Md_67) d_Md_fault_2 (by decide) sK_126 rfl rfl rfl ?_
  refine hB.aload_n d_Md_fault_5 rfl ?_
  refine hB.getI (Or.inl fa_Md_13) d_Md_fault_6 (by decide) sK_126 rfl ?_
  exact hE.1 _ _ _ _ _ d_Md_fault_9 rfl rfl ⟨by rw [sI_ne (by omega), hA.1.2.2], rfl⟩
set_option maxRecDepth 100000 in
set_option maxHeartbeats 4000000 in
theorem k_Md_runs (l : Launch) (g : mG) (ad : Nat → Nat) (z : sT) (S : gS) (E9 : Nat) (hA : mdA z S E9) (hO : gOk S E9) : sC l y_Md_runs c_Md_runs 1 (some .int) 0 g ad [.ref (ad 126)] z (fun r w => r = some (.int (nI (gRs S).length)) ∧ w = sI z 126 0 0) := by
  refine sC.intro (own := R_Md) rfl (by decide) (by decide) (by simp [Value.category]) (Nat.le_of_ble_eq_true rfl) (fun K hB hE => ?_)
  show K 0 [some (.ref (ad 126))] [] z
  refine hB.aload_n d_Md_runs_0 rfl ?_
  refine hB.iconst d_Md_runs_1 (v := 0) rfl ?_
  refine hB.putI (Or.inl fa_Md_67) d_Md_runs_2 (by decide) sK_126 rfl rfl rfl ?_
  refine hB.aload_n d_Md_runs_5 rfl ?_
  refine hB.getI (Or.inl fa_Md_123) d_Md_runs_6 (by decide) sK_126 rfl ?_
  exact hE.1 _ _ _ _ _ d_Md_runs_9 rfl rfl ⟨by rw [sI_ne (by omega), hA.2.2.1.1], rfl⟩
set_option maxRecDepth 100000 in
set_option maxHeartbeats 4000000 in
theorem k_mFig1 (l : Launch) (g : mG) (ad : Nat → Nat) (z : sT) (S : gS) (E9 : Nat) (hA : mdA z S E9) (hO : gOk S E9) (k : Nat) (hk : k < 8) : sC l y_Md_figure c_Md_figure 2 (some .int) 0 g ad [.ref (ad 126), .int (nI k)] z (fun r w => r = some (.int (gFig S k)) ∧ w = sI z 126 0 0) := by
  refine sC.intro (own := R_Md) rfl (by decide) (by decide) (by simp [Value.category]) (Nat.le_of_ble_eq_true rfl) (fun K hB hE => ?_)
  show K 0 [some (.ref (ad 126)), some (.int (nI k))] [] z
  refine hB.aload_n d_Md_figure_0 rfl ?_
  refine hB.iload_n d_Md_figure_1 rfl ?_
  refine hB.if_lt d_Md_figure_2 (tgt := 11) rfl (fun q2 => absurd q2 (nI_pos (by omega))) (fun q2 => ?_)
  refine hB.iload_n d_Md_figure_5 rfl ?_
  refine hB.bipush d_Md_figure_6 (v := 7) rfl ?_
  refine hB.icmp_le d_Md_figure_8 (tgt := 15) rfl (fun q8 => ?_) (fun q8 => absurd (nI_le (b := 7) (by omega) (by decide)) q8)
  refine hB.iconst d_Md_figure_15 (v := 0) rfl ?_
  refine hB.putI (Or.inl fa_Md_67) d_Md_figure_16 (by decide) sK_126 rfl rfl rfl ?_
  refine hB.iload_n d_Md_figure_19 rfl ?_
  have hk8 : k = 0 ∨ k = 1 ∨ k = 2 ∨ k = 3 ∨ k = 4 ∨ k = 5 ∨ k = 6 ∨ k = 7 := by omega
  rcases hk8 with rfl | rfl | rfl | rfl | rfl | rfl | rfl | rfl
  · refine hB.tableIn d_Md_figure_20 (tgt := 68) (by decide) (by decide) rfl rfl ?_
    refine hB.aload_n d_Md_figure_68 rfl ?_
    refine hB.getI (Or.inl fa_Md_120) d_Md_figure_69 (by decide) sK_126 rfl ?_
    exact hE.1 _ _ _ _ _ d_Md_figure_72 rfl rfl ⟨by rw [sI_ne (by omega), hA.2.2.2.2.2.2.1]; rfl, rfl⟩
  · refine hB.tableIn d_Md_figure_20 (tgt := 73) (by decide) (by decide) rfl rfl ?_
    refine hB.aload_n d_Md_figure_73 rfl ?_
    refine hB.getI (Or.inl fa_Md_117) d_Md_figure_74 (by decide) sK_126 rfl ?_
    exact hE.1 _ _ _ _ _ d_Md_figure_77 rfl rfl ⟨by rw [sI_ne (by omega), hA.2.2.2.2.2.1]; exact congrArg (fun x => some (Value.int x)) hA.2.2.2.2.1.symm, rfl⟩
  · refine hB.tableIn d_Md_figure_20 (tgt := 78) (by decide) (by decide) rfl rfl ?_
    refine hB.aload_n d_Md_figure_78 rfl ?_
    refine hB.getI (Or.inl fa_Md_129) d_Md_figure_79 (by decide) sK_126 rfl ?_
    exact hE.1 _ _ _ _ _ d_Md_figure_82 rfl rfl ⟨by rw [sI_ne (by omega), hA.2.2.2.2.2.2.2.1]; rfl, rfl⟩
  · refine hB.tableIn d_Md_figure_20 (tgt := 83) (by decide) (by decide) rfl rfl ?_
    refine hB.aload_n d_Md_figure_83 rfl ?_
    refine hB.getI (Or.inl fa_Md_132) d_Md_figure_84 (by decide) sK_126 rfl ?_
    exact hE.1 _ _ _ _ _ d_Md_figure_87 rfl rfl ⟨by rw [sI_ne (by omega), hA.2.2.2.2.2.2.2.2.1]; rfl, rfl⟩
  · refine hB.tableIn d_Md_figure_20 (tgt := 88) (by decide) (by decide) rfl rfl ?_
    refine hB.aload_n d_Md_figure_88 rfl ?_
    refine hB.getI (Or.inl fa_Md_135) d_Md_figure_89 (by decide) sK_126 rfl ?_
    exact hE.1 _ _ _ _ _ d_Md_figure_92 rfl rfl ⟨by rw [sI_ne (by omega), hA.2.2.2.2.2.2.2.2.2.1]; rfl, rfl⟩
  · refine hB.tableIn d_Md_figure_20 (tgt := 93) (by decide) (by decide) rfl rfl ?_
    refine hB.aload_n d_Md_figure_93 rfl ?_
    refine hB.getI (Or.inl fa_Md_138) d_Md_figure_94 (by decide) sK_126 rfl ?_
    exact hE.1 _ _ _ _ _ d_Md_figure_97 rfl rfl ⟨by rw [sI_ne (by omega), hA.2.2.2.2.2.2.2.2.2.2]; rfl, rfl⟩
  · refine hB.tableIn d_Md_figure_20 (tgt := 98) (by decide) (by decide) rfl rfl ?_
    refine hB.aload_n d_Md_figure_98 rfl ?_
    refine hB.getI (Or.inl fa_Md_108) d_Md_figure_99 (by decide) sK_126 rfl ?_
    exact hE.1 _ _ _ _ _ d_Md_figure_102 rfl rfl ⟨by rw [sI_ne (by omega), hA.2.1.2.1]; rfl, rfl⟩
  · refine hB.tableIn d_Md_figure_20 (tgt := 103) (by decide) (by decide) rfl rfl ?_
    refine hB.aload_n d_Md_figure_103 rfl ?_
    refine hB.getI (Or.inl fa_Md_114) d_Md_figure_104 (by decide) sK_126 rfl ?_
    exact hE.1 _ _ _ _ _ d_Md_figure_107 rfl rfl ⟨by rw [sI_ne (by omega), hA.2.1.2.2.2.2.2]; rfl, rfl⟩
set_option maxRecDepth 100000 in
set_option maxHeartbeats 4000000 in
theorem k_mFig0 (l : Launch) (g : mG) (ad : Nat → Nat) (z : sT) (x : Int32) (hx : fWi x 0 7 = 0) : sC l y_Md_figure c_Md_figure 2 (some .int) 0 g ad [.ref (ad 126), .int x] z (fun r w => r = some (.int 0) ∧ w = sI z 126 0 1) := by
  refine sC.intro (own := R_Md) rfl (by decide) (by decide) (by simp [Value.category]) (Nat.le_of_ble_eq_true rfl) (fun K hB hE => ?_)
  show K 0 [some (.ref (ad 126)), some (.int x)] [] z
  have hno : x < 0 ∨ 7 < x := by
    unfold fWi at hx
    by_cases h0 : x < 0
    · exact Or.inl h0
    · rw [if_neg h0] at hx
      by_cases h7 : 7 < x
      · exact Or.inr h7
      · rw [if_neg h7] at hx; exact absurd hx (by decide)
  refine hB.aload_n d_Md_figure_0 rfl ?_
  refine hB.iload_n d_Md_figure_1 rfl ?_
  refine hB.if_lt d_Md_figure_2 (tgt := 11) rfl (fun q2 => ?_) (fun q2 => ?_)
  · refine hB.iconst d_Md_figure_11 (v := 1) rfl ?_
    refine hB.goto d_Md_figure_12 (tgt := 16) rfl ?_
    refine hB.putI (Or.inl fa_Md_67) d_Md_figure_16 (by decide) sK_126 rfl rfl rfl ?_
    refine hB.iload_n d_Md_figure_19 rfl ?_
    refine hB.tableOut d_Md_figure_20 (tgt := 108) (by rcases hno with h9 | h9; exact Or.inl (Int32.lt_iff_toInt_lt.mp h9); exact Or.inr (Int32.lt_iff_toInt_lt.mp h9)) rfl ?_
    refine hB.iconst d_Md_figure_108 (v := 0) rfl ?_
    exact hE.1 _ _ _ _ _ d_Md_figure_109 rfl rfl ⟨rfl, rfl⟩
  · refine hB.iload_n d_Md_figure_5 rfl ?_
    refine hB.bipush d_Md_figure_6 (v := 7) rfl ?_
    refine hB.icmp_le d_Md_figure_8 (tgt := 15) rfl (fun q8 => absurd q8 (Int32.not_le.mpr (hno.resolve_left q2))) (fun q8 => ?_)
    refine hB.iconst d_Md_figure_11 (v := 1) rfl ?_
    refine hB.goto d_Md_figure_12 (tgt := 16) rfl ?_
    refine hB.putI (Or.inl fa_Md_67) d_Md_figure_16 (by decide) sK_126 rfl rfl rfl ?_
    refine hB.iload_n d_Md_figure_19 rfl ?_
    refine hB.tableOut d_Md_figure_20 (tgt := 108) (by rcases hno with h9 | h9; exact Or.inl (Int32.lt_iff_toInt_lt.mp h9); exact Or.inr (Int32.lt_iff_toInt_lt.mp h9)) rfl ?_
    refine hB.iconst d_Md_figure_108 (v := 0) rfl ?_
    exact hE.1 _ _ _ _ _ d_Md_figure_109 rfl rfl ⟨rfl, rfl⟩
set_option maxRecDepth 100000 in
set_option maxHeartbeats 4000000 in
theorem k_mSize1 (l : Launch) (g : mG) (ad : Nat → Nat) (z : sT) (S : gS) (E9 : Nat) (hA : mdA z S E9) (hO : gOk S E9) (j : Nat) (R : rR) (hj : (gMs S)[j]? = some R) : sC l y_Md_size c_Md_size 2 (some .int) 0 g ad [.ref (ad 126), .int (nI j)] z (fun r w => r = some (.int (nI R.2.1)) ∧ w = sI z 126 0 0) := by
  refine sC.intro (own := R_Md) rfl (by decide) (by decide) (by simp [Value.category]) (Nat.le_of_ble_eq_true rfl) (fun K hB hE => ?_)
  show K 0 [some (.ref (ad 126)), some (.int (nI j))] [] z
  have hl := (List.getElem?_eq_some_iff.mp hj).1
  have h24 := hO.2.2.2.2.2.2.1
  have hR := hA.2.2.2.1.2 j R hj
  have hfd : z.1 126 30 = nI (gMs S).length := hA.2.2.2.1.1
  have hev := hO.2.2.2.2.2.2.2 R (List.mem_of_getElem? hj)
  refine hB.aload_n d_Md_size_0 rfl ?_
  refine hB.iload_n d_Md_size_1 rfl ?_
  refine hB.if_lt d_Md_size_2 (tgt := 13) rfl (fun q2 => absurd q2 (nI_pos (by omega))) (fun q2 => ?_)
  refine hB.iload_n d_Md_size_5 rfl ?_
  refine hB.aload_n d_Md_size_6 rfl ?_
  refine hB.getI (Or.inl fa_Md_126) d_Md_size_7 (by decide) sK_126 rfl ?_
  refine hB.icmp_lt d_Md_size_10 (tgt := 17) rfl (fun q10 => ?_) (fun q10 => absurd (by rw [hfd]; exact nI_lt hl (by omega)) q10)
  refine hB.iconst d_Md_size_17 (v := 0) rfl ?_
  refine hB.putI (Or.inl fa_Md_67) d_Md_size_18 (by decide) sK_126 rfl rfl rfl ?_
  refine hB.aload_n d_Md_size_21 rfl ?_
  refine hB.getI (Or.inl fa_Md_67) d_Md_size_22 (by decide) sK_126 rfl ?_
  refine hB.if_ne d_Md_size_25 (tgt := 37) rfl (fun q25 => absurd sI_eq q25) (fun q25 => ?_)
  refine hB.aload_n d_Md_size_28 rfl ?_
  refine hB.getC (Or.inl fa_Md_61) d_Md_size_29 (by decide) sK_126 rfl ?_
  refine hB.iload_n d_Md_size_32 rfl ?_
  refine hB.iald d_Md_size_33 (by decide) rfl rfl (by omega) (by decide) ?_
  refine hB.goto d_Md_size_34 (tgt := 38) rfl ?_
  exact hE.1 _ _ _ _ _ d_Md_size_38 rfl rfl ⟨by rw [sI_row (by omega), hR.1], rfl⟩
set_option maxRecDepth 100000 in
set_option maxHeartbeats 4000000 in
theorem k_mSize0 (l : Launch) (g : mG) (ad : Nat → Nat) (z : sT) (S : gS) (E9 : Nat) (hA : mdA z S E9) (hO : gOk S E9) (x : Int32) (hx : fWi x 0 (nI (gMs S).length - 1) = 0) : sC l y_Md_size c_Md_size 2 (some .int) 0 g ad [.ref (ad 126), .int x] z (fun r w => r = some (.int 0) ∧ w = sI z 126 0 1) := by
  refine sC.intro (own := R_Md) rfl (by decide) (by decide) (by simp [Value.category]) (Nat.le_of_ble_eq_true rfl) (fun K hB hE => ?_)
  show K 0 [some (.ref (ad 126)), some (.int x)] [] z
  have h24 := hO.2.2.2.2.2.2.1
  have hfd : z.1 126 30 = nI (gMs S).length := hA.2.2.2.1.1
  have hno := fWi_no (by omega) hx
  refine hB.aload_n d_Md_size_0 rfl ?_
  refine hB.iload_n d_Md_size_1 rfl ?_
  refine hB.if_lt d_Md_size_2 (tgt := 13) rfl (fun q2 => ?_) (fun q2 => ?_)
  · refine hB.iconst d_Md_size_13 (v := 1) rfl ?_
    refine hB.goto d_Md_size_14 (tgt := 18) rfl ?_
    refine hB.putI (Or.inl fa_Md_67) d_Md_size_18 (by decide) sK_126 rfl rfl rfl ?_
    refine hB.aload_n d_Md_size_21 rfl ?_
    refine hB.getI (Or.inl fa_Md_67) d_Md_size_22 (by decide) sK_126 rfl ?_
    refine hB.if_ne d_Md_size_25 (tgt := 37) rfl (fun q25 => ?_) (fun q25 => absurd q25 (by rw [sI_eq]; decide))
    refine hB.iconst d_Md_size_37 (v := 0) rfl ?_
    exact hE.1 _ _ _ _ _ d_Md_size_38 rfl rfl ⟨rfl, rfl⟩
  · refine hB.iload_n d_Md_size_5 rfl ?_
    refine hB.aload_n d_Md_size_6 rfl ?_
    refine hB.getI (Or.inl fa_Md_126) d_Md_size_7 (by decide) sK_126 rfl ?_
    refine hB.icmp_lt d_Md_size_10 (tgt := 17) rfl (fun q10 => absurd q10 (by rw [hfd]; exact Int32.not_lt.mpr (hno.resolve_left q2))) (fun q10 => ?_)
    refine hB.iconst d_Md_size_13 (v := 1) rfl ?_
    refine hB.goto d_Md_size_14 (tgt := 18) rfl ?_
    refine hB.putI (Or.inl fa_Md_67) d_Md_size_18 (by decide) sK_126 rfl rfl rfl ?_
    refine hB.aload_n d_Md_size_21 rfl ?_
    refine hB.getI (Or.inl fa_Md_67) d_Md_size_22 (by decide) sK_126 rfl ?_
    refine hB.if_ne d_Md_size_25 (tgt := 37) rfl (fun q25 => ?_) (fun q25 => absurd q25 (by rw [sI_eq]; decide))
    refine hB.iconst d_Md_size_37 (v := 0) rfl ?_
    exact hE.1 _ _ _ _ _ d_Md_size_38 rfl rfl ⟨rfl, rfl⟩
theorem mul24 {j k : Nat} : (24 : Int32) * nI j + nI k = nI (24 * j + k) := by
  rw [show (24 : Int32) * nI j = nI (24 * j) from (Int32.ofNat_mul 24 j).symm]
  exact nI_add (24 * j) k
set_option maxRecDepth 100000 in
set_option maxHeartbeats 4000000 in
theorem k_mAt1 (l : Launch) (g : mG) (ad : Nat → Nat) (z : sT) (S : gS) (E9 : Nat) (hA : mdA z S E9) (hO : gOk S E9) (j k : Nat) (R : rR) (hj : (gMs S)[j]? = some R) (hk : k < R.2.1) : sC l y_Md_at c_Md_at 3 (some .int) 0 g ad [.ref (ad 126), .int (nI j), .int (nI k)] z (fun r w => r = some (.int (R.2.2.1 k)) ∧ w = sI z 126 0 0) := by
  refine sC.intro (own := R_Md) rfl (by decide) (by decide) (by simp [Value.category]) (Nat.le_of_ble_eq_true rfl) (fun K hB hE => ?_)
  show K 0 [some (.ref (ad 126)), some (.int (nI j)), some (.int (nI k))] [] z
  have hl := (List.getElem?_eq_some_iff.mp hj).1
  have h24 := hO.2.2.2.2.2.2.1
  have hR := hA.2.2.2.1.2 j R hj
  have hfd : z.1 126 30 = nI (gMs S).length := hA.2.2.2.1.1
  have hev := hO.2.2.2.2.2.2.2 R (List.mem_of_getElem? hj)
  have h19 := hev.2.1
  refine hB.aload_n d_Md_at_0 rfl ?_
  refine hB.iload_n d_Md_at_1 rfl ?_
  refine hB.if_lt d_Md_at_2 (tgt := 13) rfl (fun q2 => absurd q2 (nI_pos (by omega))) (fun q2 => ?_)
  refine hB.iload_n d_Md_at_5 rfl ?_
  refine hB.aload_n d_Md_at_6 rfl ?_
  refine hB.getI (Or.inl fa_Md_126) d_Md_at_7 (by decide) sK_126 rfl ?_
  refine hB.icmp_lt d_Md_at_10 (tgt := 17) rfl (fun q10 => ?_) (fun q10 => absurd (by rw [hfd]; exact nI_lt hl (by omega)) q10)
  refine hB.iload_n d_Md_at_17 rfl ?_
  refine hB.if_lt d_Md_at_18 (tgt := 31) rfl (fun q18 => absurd q18 (nI_pos (by omega))) (fun q18 => ?_)
  refine hB.iload_n d_Md_at_21 rfl ?_
  refine hB.aload_n d_Md_at_22 rfl ?_
  refine hB.getC (Or.inl fa_Md_61) d_Md_at_23 (by decide) sK_126 rfl ?_
  refine hB.iload_n d_Md_at_26 rfl ?_
  refine hB.iald d_Md_at_27 (by decide) rfl rfl (by omega) (by decide) ?_
  refine hB.icmp_lt d_Md_at_28 (tgt := 35) rfl (fun q28 => ?_) (fun q28 => absurd (by rw [hR.1]; exact nI_lt hk (by omega)) q28)
  refine hB.iconst d_Md_at_35 (v := 0) rfl ?_
  refine hB.putI (Or.inl fa_Md_67) d_Md_at_36 (by decide) sK_126 rfl rfl rfl ?_
  refine hB.aload_n d_Md_at_39 rfl ?_
  refine hB.getI (Or.inl fa_Md_67) d_Md_at_40 (by decide) sK_126 rfl ?_
  refine hB.if_ne d_Md_at_43 (tgt := 60) rfl (fun q43 => absurd sI_eq q43) (fun q43 => ?_)
  refine hB.aload_n d_Md_at_46 rfl ?_
  refine hB.getC (Or.inl fa_Md_64) d_Md_at_47 (by decide) sK_126 rfl ?_
  refine hB.bipush d_Md_at_50 (v := 24) rfl ?_
  refine hB.iload_n d_Md_at_52 rfl ?_
  refine hB.imul d_Md_at_53 ?_
  refine hB.iload_n d_Md_at_54 rfl ?_
  refine hB.iadd d_Md_at_55 ?_
  refine hB.iald d_Md_at_56 (by decide) rfl mul24 (by omega) (by decide) ?_
  refine hB.goto d_Md_at_57 (tgt := 61) rfl ?_
  exact hE.1 _ _ _ _ _ d_Md_at_61 rfl rfl ⟨by rw [sI_row (by omega), hR.2 k hk], rfl⟩
set_option maxRecDepth 100000 in
set_option maxHeartbeats 4000000 in
theorem k_mAt0 (l : Launch) (g : mG) (ad : Nat → Nat) (z : sT) (S : gS) (E9 : Nat) (hA : mdA z S E9) (hO : gOk S E9) (x y : Int32) (hx : fWi x 0 (nI (gMs S).length - 1) = 0) : sC l y_Md_at c_Md_at 3 (some .int) 0 g ad [.ref (ad 126), .int x, .int y] z (fun r w => r = some (.int 0) ∧ w = sI z 126 0 1) := by
  refine sC.intro (own := R_Md) rfl (by decide) (by decide) (by simp [Value.category]) (Nat.le_of_ble_eq_true rfl) (fun K hB hE => ?_)
  show K 0 [some (.ref (ad 126)), some (.int x), some (.int y)] [] z
  have h24 := hO.2.2.2.2.2.2.1
  have hfd : z.1 126 30 = nI (gMs S).length := hA.2.2.2.1.1
  have hno := fWi_no (by omega) hx
  refine hB.aload_n d_Md_at_0 rfl ?_
  refine hB.iload_n d_Md_at_1 rfl ?_
  refine hB.if_lt d_Md_at_2 (tgt := 13) rfl (fun q2 => ?_) (fun q2 => ?_)
  · refine hB.iconst d_Md_at_13 (v := 1) rfl ?_
    refine hB.goto d_Md_at_14 (tgt := 36) rfl ?_
    refine hB.putI (Or.inl fa_Md_67) d_Md_at_36 (by decide) sK_126 rfl rfl rfl ?_
    refine hB.aload_n d_Md_at_39 rfl ?_
    refine hB.getI (Or.inl fa_Md_67) d_Md_at_40 (by decide) sK_126 rfl ?_
    refine hB.if_ne d_Md_at_43 (tgt := 60) rfl (fun q43 => ?_) (fun q43 => absurd q43 (by rw [sI_eq]; decide))
    refine hB.iconst d_Md_at_60 (v := 0) rfl ?_
    exact hE.1 _ _ _ _ _ d_Md_at_61 rfl rfl ⟨rfl, rfl⟩
  · refine hB.iload_n d_Md_at_5 rfl ?_
    refine hB.aload_n d_Md_at_6 rfl ?_
    refine hB.getI (Or.inl fa_Md_126) d_Md_at_7 (by decide) sK_126 rfl ?_
    refine hB.icmp_lt d_Md_at_10 (tgt := 17) rfl (fun q10 => absurd q10 (by rw [hfd]; exact Int32.not_lt.mpr (hno.resolve_left q2))) (fun q10 => ?_)
    refine hB.iconst d_Md_at_13 (v := 1) rfl ?_
    refine hB.goto d_Md_at_14 (tgt := 36) rfl ?_
    refine hB.putI (Or.inl fa_Md_67) d_Md_at_36 (by decide) sK_126 rfl rfl rfl ?_
    refine hB.aload_n d_Md_at_39 rfl ?_
    refine hB.getI (Or.inl fa_Md_67) d_Md_at_40 (by decide) sK_126 rfl ?_
    refine hB.if_ne d_Md_at_43 (tgt := 60) rfl (fun q43 => ?_) (fun q43 => absurd q43 (by rw [sI_eq]; decide))
    refine hB.iconst d_Md_at_60 (v := 0) rfl ?_
    exact hE.1 _ _ _ _ _ d_Md_at_61 rfl rfl ⟨rfl, rfl⟩
set_option maxRecDepth 100000 in
set_option maxHeartbeats 4000000 in
theorem k_mAt2 (l : Launch) (g : mG) (ad : Nat → Nat) (z : sT) (S : gS) (E9 : Nat) (hA : mdA z S E9) (hO : gOk S E9) (j : Nat) (y : Int32) (R : rR) (hj : (gMs S)[j]? = some R) (hy : fWi y 0 (nI R.2.1 - 1) = 0) : sC l y_Md_at c_Md_at 3 (some .int) 0 g ad [.ref (ad 126), .int (nI j), .int y] z (fun r w => r = some (.int 0) ∧ w = sI z 126 0 1) := by
  refine sC.intro (own := R_Md) rfl (by decide) (by decide) (by simp [Value.category]) (Nat.le_of_ble_eq_true rfl) (fun K hB hE => ?_)
  show K 0 [some (.ref (ad 126)), some (.int (nI j)), some (.int y)] [] z
  have hl := (List.getElem?_eq_some_iff.mp hj).1
  have h24 := hO.2.2.2.2.2.2.1
  have hR := hA.2.2.2.1.2 j R hj
  have hfd : z.1 126 30 = nI (gMs S).length := hA.2.2.2.1.1
  have hev := hO.2.2.2.2.2.2.2 R (List.mem_of_getElem? hj)
  have h19 := hev.2.1
  have hno := fWi_no (by omega) hy
  refine hB.aload_n d_Md_at_0 rfl ?_
  refine hB.iload_n d_Md_at_1 rfl ?_
  refine hB.if_lt d_Md_at_2 (tgt := 13) rfl (fun q2 => absurd q2 (nI_pos (by omega))) (fun q2 => ?_)
  refine hB.iload_n d_Md_at_5 rfl ?_
  refine hB.aload_n d_Md_at_6 rfl ?_
  refine hB.getI (Or.inl fa_Md_126) d_Md_at_7 (by decide) sK_126 rfl ?_
  refine hB.icmp_lt d_Md_at_10 (tgt := 17) rfl (fun q10 => ?_) (fun q10 => absurd (by rw [hfd]; exact nI_lt hl (by omega)) q10)
  refine hB.iload_n d_Md_at_17 rfl ?_
  refine hB.if_lt d_Md_at_18 (tgt := 31) rfl (fun q18 => ?_) (fun q18 => ?_)
  · refine hB.iconst d_Md_at_31 (v := 1) rfl ?_
    refine hB.goto d_Md_at_32 (tgt := 36) rfl ?_
    refine hB.putI (Or.inl fa_Md_67) d_Md_at_36 (by decide) sK_126 rfl rfl rfl ?_
    refine hB.aload_n d_Md_at_39 rfl ?_
    refine hB.getI (Or.inl fa_Md_67) d_Md_at_40 (by decide) sK_126 rfl ?_
    refine hB.if_ne d_Md_at_43 (tgt := 60) rfl (fun q43 => ?_) (fun q43 => absurd q43 (by rw [sI_eq]; decide))
    refine hB.iconst d_Md_at_60 (v := 0) rfl ?_
    exact hE.1 _ _ _ _ _ d_Md_at_61 rfl rfl ⟨rfl, rfl⟩
  · refine hB.iload_n d_Md_at_21 rfl ?_
    refine hB.aload_n d_Md_at_22 rfl ?_
    refine hB.getC (Or.inl fa_Md_61) d_Md_at_23 (by decide) sK_126 rfl ?_
    refine hB.iload_n d_Md_at_26 rfl ?_
    refine hB.iald d_Md_at_27 (by decide) rfl rfl (by omega) (by decide) ?_
    refine hB.icmp_lt d_Md_at_28 (tgt := 35) rfl (fun q28 => absurd q28 (by rw [hR.1]; exact Int32.not_lt.mpr (hno.resolve_left q18))) (fun q28 => ?_)
    refine hB.iconst d_Md_at_31 (v := 1) rfl ?_
    refine hB.goto d_Md_at_32 (tgt := 36) rfl ?_
    refine hB.putI (Or.inl fa_Md_67) d_Md_at_36 (by decide) sK_126 rfl rfl rfl ?_
    refine hB.aload_n d_Md_at_39 rfl ?_
    refine hB.getI (Or.inl fa_Md_67) d_Md_at_40 (by decide) sK_126 rfl ?_
    refine hB.if_ne d_Md_at_43 (tgt := 60) rfl (fun q43 => ?_) (fun q43 => absurd q43 (by rw [sI_eq]; decide))
    refine hB.iconst d_Md_at_60 (v := 0) rfl ?_
    exact hE.1 _ _ _ _ _ d_Md_at_61 rfl rfl ⟨rfl, rfl⟩
set_option maxRecDepth 100000 in
set_option maxHeartbeats 4000000 in
theorem k_mRun0 (l : Launch) (g : mG) (ad : Nat → Nat) (z : sT) (S : gS) (E9 : Nat) (hA : mdA z S E9) (hO : gOk S E9) (x y : Int32) (hx : fWi x 0 (nI (gRs S).length - 1) = 0) : sC l y_Md_run c_Md_run 3 (some .int) 0 g ad [.ref (ad 126), .int x, .int y] z (fun r w => r = some (.int 0) ∧ w = sI z 126 0 1) := by
  refine sC.intro (own := R_Md) rfl (by decide) (by decide) (by simp [Value.category]) (Nat.le_of_ble_eq_true rfl) (fun K hB hE => ?_)
  show K 0 [some (.ref (ad 126)), some (.int x), some (.int y)] [] z
  have h24 := hO.2.2.2.2.2.1.1
  have hct : z.1 126 24 = nI (gRs S).length := hA.2.2.1.1
  have hno := fWi_no (by omega) hx
  refine hB.aload_n d_Md_run_0 rfl ?_
  refine hB.iload_n d_Md_run_1 rfl ?_
  refine hB.if_lt d_Md_run_2 (tgt := 13) rfl (fun q2 => ?_) (fun q2 => ?_)
  · refine hB.iconst d_Md_run_13 (v := 1) rfl ?_
    refine hB.goto d_Md_run_14 (tgt := 31) rfl ?_
    refine hB.putI (Or.inl fa_Md_67) d_Md_run_31 (by decide) sK_126 rfl rfl rfl ?_
    refine hB.aload_n d_Md_run_34 rfl ?_
    refine hB.getI (Or.inl fa_Md_67) d_Md_run_35 (by decide) sK_126 rfl ?_
    refine hB.if_le d_Md_run_38 (tgt := 43) rfl (fun q38 => absurd q38 (by rw [sI_eq]; decide)) (fun q38 => ?_)
    refine hB.iconst d_Md_run_41 (v := 0) rfl ?_
    exact hE.1 _ _ _ _ _ d_Md_run_42 rfl rfl ⟨rfl, rfl⟩
  · refine hB.iload_n d_Md_run_5 rfl ?_
    refine hB.aload_n d_Md_run_6 rfl ?_
    refine hB.getI (Or.inl fa_Md_123) d_Md_run_7 (by decide) sK_126 rfl ?_
    refine hB.icmp_lt d_Md_run_10 (tgt := 17) rfl (fun q10 => absurd q10 (by rw [hct]; exact Int32.not_lt.mpr (hno.resolve_left q2))) (fun q10 => ?_)
    refine hB.iconst d_Md_run_13 (v := 1) rfl ?_
    refine hB.goto d_Md_run_14 (tgt := 31) rfl ?_
    refine hB.putI (Or.inl fa_Md_67) d_Md_run_31 (by decide) sK_126 rfl rfl rfl ?_
    refine hB.aload_n d_Md_run_34 rfl ?_
    refine hB.getI (Or.inl fa_Md_67) d_Md_run_35 (by decide) sK_126 rfl ?_
    refine hB.if_le d_Md_run_38 (tgt := 43) rfl (fun q38 => absurd q38 (by rw [sI_eq]; decide)) (fun q38 => ?_)
    refine hB.iconst d_Md_run_41 (v := 0) rfl ?_
    exact hE.1 _ _ _ _ _ d_Md_run_42 rfl rfl ⟨rfl, rfl⟩
set_option maxRecDepth 100000 in
set_option maxHeartbeats 4000000 in
theorem k_mRun2 (l : Launch) (g : mG) (ad : Nat → Nat) (z : sT) (S : gS) (E9 : Nat) (hA : mdA z S E9) (hO : gOk S E9) (j : Nat) (y : Int32) (R : rR) (hj : (gRs S)[j]? = some R) (hy : fWi y 0 3 = 0) : sC l y_Md_run c_Md_run 3 (some .int) 0 g ad [.ref (ad 126), .int (nI j), .int y] z (fun r w => r = some (.int 0) ∧ w = sI z 126 0 2) := by
  refine sC.intro (own := R_Md) rfl (by decide) (by decide) (by simp [Value.category]) (Nat.le_of_ble_eq_true rfl) (fun K hB hE => ?_)
  show K 0 [some (.ref (ad 126)), some (.int (nI j)), some (.int y)] [] z
  have hl := (List.getElem?_eq_some_iff.mp hj).1
  have h24 := hO.2.2.2.2.2.1.1
  have hR := hA.2.2.1.2 j R hj
  have hct : z.1 126 24 = nI (gRs S).length := hA.2.2.1.1
  have hev := (hO.2.2.2.2.2.1.2 R (List.mem_of_getElem? hj)).2
  have h19 := hev.2.1
  have h1 := hev.1
  have hno : y < 0 ∨ 3 < y := by
    unfold fWi at hy
    by_cases h0 : y < 0
    · exact Or.inl h0
    · rw [if_neg h0] at hy
      by_cases h7 : 3 < y
      · exact Or.inr h7
      · rw [if_neg h7] at hy; exact absurd hy (by decide)
  refine hB.aload_n d_Md_run_0 rfl ?_
  refine hB.iload_n d_Md_run_1 rfl ?_
  refine hB.if_lt d_Md_run_2 (tgt := 13) rfl (fun q2 => absurd q2 (nI_pos (by omega))) (fun q2 => ?_)
  refine hB.iload_n d_Md_run_5 rfl ?_
  refine hB.aload_n d_Md_run_6 rfl ?_
  refine hB.getI (Or.inl fa_Md_123) d_Md_run_7 (by decide) sK_126 rfl ?_
  refine hB.icmp_lt d_Md_run_10 (tgt := 17) rfl (fun q10 => ?_) (fun q10 => absurd (by rw [hct]; exact nI_lt hl (by omega)) q10)
  refine hB.iload_n d_Md_run_17 rfl ?_
  refine hB.if_lt d_Md_run_18 (tgt := 26) rfl (fun q18 => ?_) (fun q18 => ?_)
  · refine hB.iconst d_Md_run_26 (v := 2) rfl ?_
    refine hB.goto d_Md_run_27 (tgt := 31) rfl ?_
    refine hB.putI (Or.inl fa_Md_67) d_Md_run_31 (by decide) sK_126 rfl rfl rfl ?_
    refine hB.aload_n d_Md_run_34 rfl ?_
    refine hB.getI (Or.inl fa_Md_67) d_Md_run_35 (by decide) sK_126 rfl ?_
    refine hB.if_le d_Md_run_38 (tgt := 43) rfl (fun q38 => absurd q38 (by rw [sI_eq]; decide)) (fun q38 => ?_)
    refine hB.iconst d_Md_run_41 (v := 0) rfl ?_
    exact hE.1 _ _ _ _ _ d_Md_run_42 rfl rfl ⟨rfl, rfl⟩
  · refine hB.iload_n d_Md_run_21 rfl ?_
    refine hB.iconst d_Md_run_22 (v := 3) rfl ?_
    refine hB.icmp_le d_Md_run_23 (tgt := 30) rfl (fun q23 => absurd q23 (Int32.not_le.mpr (hno.resolve_left q18))) (fun q23 => ?_)
    refine hB.iconst d_Md_run_26 (v := 2) rfl ?_
    refine hB.goto d_Md_run_27 (tgt := 31) rfl ?_
    refine hB.putI (Or.inl fa_Md_67) d_Md_run_31 (by decide) sK_126 rfl rfl rfl ?_
    refine hB.aload_n d_Md_run_34 rfl ?_
    refine hB.getI (Or.inl fa_Md_67) d_Md_run_35 (by decide) sK_126 rfl ?_
    refine hB.if_le d_Md_run_38 (tgt := 43) rfl (fun q38 => absurd q38 (by rw [sI_eq]; decide)) (fun q38 => ?_)
    refine hB.iconst d_Md_run_41 (v := 0) rfl ?_
    exact hE.1 _ _ _ _ _ d_Md_run_42 rfl rfl ⟨rfl, rfl⟩
set_option maxRecDepth 100000 in
set_option maxHeartbeats 4000000 in
theorem k_mRun1_0 (l : Launch) (g : mG) (ad : Nat → Nat) (z : sT) (S : gS) (E9 : Nat) (hA : mdA z S E9) (hO : gOk S E9) (j : Nat) (R : rR) (hj : (gRs S)[j]? = some R) : sC l y_Md_run c_Md_run 3 (some .int) 0 g ad [.ref (ad 126), .int (nI j), .int (nI 0)] z (fun r w => r = some (.int (gRun R 0)) ∧ w = sI z 126 0 0) := by
  refine sC.intro (own := R_Md) rfl (by decide) (by decide) (by simp [Value.category]) (Nat.le_of_ble_eq_true rfl) (fun K hB hE => ?_)
  show K 0 [some (.ref (ad 126)), some (.int (nI j)), some (.int (nI 0))] [] z
  have hl := (List.getElem?_eq_some_iff.mp hj).1
  have h24 := hO.2.2.2.2.2.1.1
  have hR := hA.2.2.1.2 j R hj
  have hct : z.1 126 24 = nI (gRs S).length := hA.2.2.1.1
  have hev := (hO.2.2.2.2.2.1.2 R (List.mem_of_getElem? hj)).2
  have h19 := hev.2.1
  have h1 := hev.1
  refine hB.aload_n d_Md_run_0 rfl ?_
  refine hB.iload_n d_Md_run_1 rfl ?_
  refine hB.if_lt d_Md_run_2 (tgt := 13) rfl (fun q2 => absurd q2 (nI_pos (by omega))) (fun q2 => ?_)
  refine hB.iload_n d_Md_run_5 rfl ?_
  refine hB.aload_n d_Md_run_6 rfl ?_
  refine hB.getI (Or.inl fa_Md_123) d_Md_run_7 (by decide) sK_126 rfl ?_
  refine hB.icmp_lt d_Md_run_10 (tgt := 17) rfl (fun q10 => ?_) (fun q10 => absurd (by rw [hct]; exact nI_lt hl (by omega)) q10)
  refine hB.iload_n d_Md_run_17 rfl ?_
  refine hB.if_lt d_Md_run_18 (tgt := 26) rfl (fun q18 => absurd q18 (by decide)) (fun q18 => ?_)
  refine hB.iload_n d_Md_run_21 rfl ?_
  refine hB.iconst d_Md_run_22 (v := 3) rfl ?_
  refine hB.icmp_le d_Md_run_23 (tgt := 30) rfl (fun q23 => ?_) (fun q23 => absurd (by decide) q23)
  refine hB.iconst d_Md_run_30 (v := 0) rfl ?_
  refine hB.putI (Or.inl fa_Md_67) d_Md_run_31 (by decide) sK_126 rfl rfl rfl ?_
  refine hB.aload_n d_Md_run_34 rfl ?_
  refine hB.getI (Or.inl fa_Md_67) d_Md_run_35 (by decide) sK_126 rfl ?_
  refine hB.if_le d_Md_run_38 (tgt := 43) rfl (fun q38 => ?_) (fun q38 => absurd (by rw [sI_eq]; decide) q38)
  refine hB.iload_n d_Md_run_43 rfl ?_
  refine hB.if_ne d_Md_run_44 (tgt := 56) rfl (fun q44 => absurd rfl q44) (fun q44 => ?_)
  refine hB.aload_n d_Md_run_47 rfl ?_
  refine hB.getC (Or.inl fa_Md_52) d_Md_run_48 (by decide) sK_126 rfl ?_
  refine hB.iload_n d_Md_run_51 rfl ?_
  refine hB.iald d_Md_run_52 (by decide) rfl rfl (by omega) (by decide) ?_
  refine hB.goto d_Md_run_53 (tgt := 105) rfl ?_
  exact hE.1 _ _ _ _ _ d_Md_run_105 rfl rfl ⟨by rw [sI_row (by omega), hR.1]; rfl, rfl⟩
set_option maxRecDepth 100000 in
set_option maxHeartbeats 4000000 in
theorem k_mRun1_1 (l : Launch) (g : mG) (ad : Nat → Nat) (z : sT) (S : gS) (E9 : Nat) (hA : mdA z S E9) (hO : gOk S E9) (j : Nat) (R : rR) (hj : (gRs S)[j]? = some R) : sC l y_Md_run c_Md_run 3 (some .int) 0 g ad [.ref (ad 126), .int (nI j), .int (nI 1)] z (fun r w => r = some (.int (gRun R 1)) ∧ w = sI z 126 0 0) := by
  refine sC.intro (own := R_Md) rfl (by decide) (by decide) (by simp [Value.category]) (Nat.le_of_ble_eq_true rfl) (fun K hB hE => ?_)
  show K 0 [some (.ref (ad 126)), some (.int (nI j)), some (.int (nI 1))] [] z
  have hl := (List.getElem?_eq_some_iff.mp hj).1
  have h24 := hO.2.2.2.2.2.1.1
  have hR := hA.2.2.1.2 j R hj
  have hct : z.1 126 24 = nI (gRs S).length := hA.2.2.1.1
  have hev := (hO.2.2.2.2.2.1.2 R (List.mem_of_getElem? hj)).2
  have h19 := hev.2.1
  have h1 := hev.1
  refine hB.aload_n d_Md_run_0 rfl ?_
  refine hB.iload_n d_Md_run_1 rfl ?_
  refine hB.if_lt d_Md_run_2 (tgt := 13) rfl (fun q2 => absurd q2 (nI_pos (by omega))) (fun q2 => ?_)
  refine hB.iload_n d_Md_run_5 rfl ?_
  refine hB.aload_n d_Md_run_6 rfl ?_
  refine hB.getI (Or.inl fa_Md_123) d_Md_run_7 (by decide) sK_126 rfl ?_
  refine hB.icmp_lt d_Md_run_10 (tgt := 17) rfl (fun q10 => ?_) (fun q10 => absurd (by rw [hct]; exact nI_lt hl (by omega)) q10)
  refine hB.iload_n d_Md_run_17 rfl ?_
  refine hB.if_lt d_Md_run_18 (tgt := 26) rfl (fun q18 => absurd q18 (by decide)) (fun q18 => ?_)
  refine hB.iload_n d_Md_run_21 rfl ?_
  refine hB.iconst d_Md_run_22 (v := 3) rfl ?_
  refine hB.icmp_le d_Md_run_23 (tgt := 30) rfl (fun q23 => ?_) (fun q23 => absurd (by decide) q23)
  refine hB.iconst d_Md_run_30 (v := 0) rfl ?_
  refine hB.putI (Or.inl fa_Md_67) d_Md_run_31 (by decide) sK_126 rfl rfl rfl ?_
  refine hB.aload_n d_Md_run_34 rfl ?_
  refine hB.getI (Or.inl fa_Md_67) d_Md_run_35 (by decide) sK_126 rfl ?_
  refine hB.if_le d_Md_run_38 (tgt := 43) rfl (fun q38 => ?_) (fun q38 => absurd (by rw [sI_eq]; decide) q38)
  refine hB.iload_n d_Md_run_43 rfl ?_
  refine hB.if_ne d_Md_run_44 (tgt := 56) rfl (fun q44 => ?_) (fun q44 => absurd q44 (by decide))
  refine hB.iload_n d_Md_run_56 rfl ?_
  refine hB.iconst d_Md_run_57 (v := 1) rfl ?_
  refine hB.icmp_ne d_Md_run_58 (tgt := 70) rfl (fun q58 => absurd rfl q58) (fun q58 => ?_)
  refine hB.aload_n d_Md_run_61 rfl ?_
  refine hB.getC (Or.inl fa_Md_55) d_Md_run_62 (by decide) sK_126 rfl ?_
  refine hB.iload_n d_Md_run_65 rfl ?_
  refine hB.iald d_Md_run_66 (by decide) rfl rfl (by omega) (by decide) ?_
  refine hB.goto d_Md_run_67 (tgt := 105) rfl ?_
  exact hE.1 _ _ _ _ _ d_Md_run_105 rfl rfl ⟨by rw [sI_row (by omega), hR.2.1]; rfl, rfl⟩
set_option maxRecDepth 100000 in
set_option maxHeartbeats 4000000 in
theorem k_mRun1_2 (l : Launch) (g : mG) (ad : Nat → Nat) (z : sT) (S : gS) (E9 : Nat) (hA : mdA z S E9) (hO : gOk S E9) (j : Nat) (R : rR) (hj : (gRs S)[j]? = some R) : sC l y_Md_run c_Md_run 3 (some .int) 0 g ad [.ref (ad 126), .int (nI j), .int (nI 2)] z (fun r w => r = some (.int (gRun R 2)) ∧ w = sI z 126 0 0) := by
  refine sC.intro (own := R_Md) rfl (by decide) (by decide) (by simp [Value.category]) (Nat.le_of_ble_eq_true rfl) (fun K hB hE => ?_)
  show K 0 [some (.ref (ad 126)), some (.int (nI j)), some (.int (nI 2))] [] z
  have hl := (List.getElem?_eq_some_iff.mp hj).1
  have h24 := hO.2.2.2.2.2.1.1
  have hR := hA.2.2.1.2 j R hj
  have hct : z.1 126 24 = nI (gRs S).length := hA.2.2.1.1
  have hev := (hO.2.2.2.2.2.1.2 R (List.mem_of_getElem? hj)).2
  have h19 := hev.2.1
  have h1 := hev.1
  refine hB.aload_n d_Md_run_0 rfl ?_
  refine hB.iload_n d_Md_run_1 rfl ?_
  refine hB.if_lt d_Md_run_2 (tgt := 13) rfl (fun q2 => absurd q2 (nI_pos (by omega))) (fun q2 => ?_)
  refine hB.iload_n d_Md_run_5 rfl ?_
  refine hB.aload_n d_Md_run_6 rfl ?_
  refine hB.getI (Or.inl fa_Md_123) d_Md_run_7 (by decide) sK_126 rfl ?_
  refine hB.icmp_lt d_Md_run_10 (tgt := 17) rfl (fun q10 => ?_) (fun q10 => absurd (by rw [hct]; exact nI_lt hl (by omega)) q10)
  refine hB.iload_n d_Md_run_17 rfl ?_
  refine hB.if_lt d_Md_run_18 (tgt := 26) rfl (fun q18 => absurd q18 (by decide)) (fun q18 => ?_)
  refine hB.iload_n d_Md_run_21 rfl ?_
  refine hB.iconst d_Md_run_22 (v := 3) rfl ?_
  refine hB.icmp_le d_Md_run_23 (tgt := 30) rfl (fun q23 => ?_) (fun q23 => absurd (by decide) q23)
  refine hB.iconst d_Md_run_30 (v := 0) rfl ?_
  refine hB.putI (Or.inl fa_Md_67) d_Md_run_31 (by decide) sK_126 rfl rfl rfl ?_
  refine hB.aload_n d_Md_run_34 rfl ?_
  refine hB.getI (Or.inl fa_Md_67) d_Md_run_35 (by decide) sK_126 rfl ?_
  refine hB.if_le d_Md_run_38 (tgt := 43) rfl (fun q38 => ?_) (fun q38 => absurd (by rw [sI_eq]; decide) q38)
  refine hB.iload_n d_Md_run_43 rfl ?_
  refine hB.if_ne d_Md_run_44 (tgt := 56) rfl (fun q44 => ?_) (fun q44 => absurd q44 (by decide))
  refine hB.iload_n d_Md_run_56 rfl ?_
  refine hB.iconst d_Md_run_57 (v := 1) rfl ?_
  refine hB.icmp_ne d_Md_run_58 (tgt := 70) rfl (fun q58 => ?_) (fun q58 => absurd q58 (by decide))
  refine hB.iload_n d_Md_run_70 rfl ?_
  refine hB.iconst d_Md_run_71 (v := 2) rfl ?_
  refine hB.icmp_ne d_Md_run_72 (tgt := 87) rfl (fun q72 => absurd rfl q72) (fun q72 => ?_)
  refine hB.aload_n d_Md_run_75 rfl ?_
  refine hB.getC (Or.inl fa_Md_58) d_Md_run_76 (by decide) sK_126 rfl ?_
  refine hB.bipush d_Md_run_79 (v := 24) rfl ?_
  refine hB.iload_n d_Md_run_81 rfl ?_
  refine hB.imul d_Md_run_82 ?_
  refine hB.iald d_Md_run_83 (by decide) rfl ((Int32.ofNat_mul 24 j).symm : (24 : Int32) * nI j = nI (24 * j)) (by omega) (by decide) ?_
  refine hB.goto d_Md_run_84 (tgt := 105) rfl ?_
  exact hE.1 _ _ _ _ _ d_Md_run_105 rfl rfl ⟨by rw [sI_row (by omega), show 24 * j = 24 * j + 0 from rfl, hR.2.2.1 0 (by omega)]; rfl, rfl⟩
set_option maxRecDepth 100000 in
set_option maxHeartbeats 4000000 in
theorem k_mRun1_3 (l : Launch) (g : mG) (ad : Nat → Nat) (z : sT) (S : gS) (E9 : Nat) (hA : mdA z S E9) (hO : gOk S E9) (j : Nat) (R : rR) (hj : (gRs S)[j]? = some R) : sC l y_Md_run c_Md_run 3 (some .int) 0 g ad [.ref (ad 126), .int (nI j), .int (nI 3)] z (fun r w => r = some (.int (gRun R 3)) ∧ w = sI z 126 0 0) := by
  refine sC.intro (own := R_Md) rfl (by decide) (by decide) (by simp [Value.category]) (Nat.le_of_ble_eq_true rfl) (fun K hB hE => ?_)
  show K 0 [some (.ref (ad 126)), some (.int (nI j)), some (.int (nI 3))] [] z
  have hl := (List.getElem?_eq_some_iff.mp hj).1
  have h24 := hO.2.2.2.2.2.1.1
  have hR := hA.2.2.1.2 j R hj
  have hct : z.1 126 24 = nI (gRs S).length := hA.2.2.1.1
  have hev := (hO.2.2.2.2.2.1.2 R (List.mem_of_getElem? hj)).2
  have h19 := hev.2.1
  have h1 := hev.1
  refine hB.aload_n d_Md_run_0 rfl ?_
  refine hB.iload_n d_Md_run_1 rfl ?_
  refine hB.if_lt d_Md_run_2 (tgt := 13) rfl (fun q2 => absurd q2 (nI_pos (by omega))) (fun q2 => ?_)
  refine hB.iload_n d_Md_run_5 rfl ?_
  refine hB.aload_n d_Md_run_6 rfl ?_
  refine hB.getI (Or.inl fa_Md_123) d_Md_run_7 (by decide) sK_126 rfl ?_
  refine hB.icmp_lt d_Md_run_10 (tgt := 17) rfl (fun q10 => ?_) (fun q10 => absurd (by rw [hct]; exact nI_lt hl (by omega)) q10)
  refine hB.iload_n d_Md_run_17 rfl ?_
  refine hB.if_lt d_Md_run_18 (tgt := 26) rfl (fun q18 => absurd q18 (by decide)) (fun q18 => ?_)
  refine hB.iload_n d_Md_run_21 rfl ?_
  refine hB.iconst d_Md_run_22 (v := 3) rfl ?_
  refine hB.icmp_le d_Md_run_23 (tgt := 30) rfl (fun q23 => ?_) (fun q23 => absurd (by decide) q23)
  refine hB.iconst d_Md_run_30 (v := 0) rfl ?_
  refine hB.putI (Or.inl fa_Md_67) d_Md_run_31 (by decide) sK_126 rfl rfl rfl ?_
  refine hB.aload_n d_Md_run_34 rfl ?_
  refine hB.getI (Or.inl fa_Md_67) d_Md_run_35 (by decide) sK_126 rfl ?_
  refine hB.if_le d_Md_run_38 (tgt := 43) rfl (fun q38 => ?_) (fun q38 => absurd (by rw [sI_eq]; decide) q38)
  refine hB.iload_n d_Md_run_43 rfl ?_
  refine hB.if_ne d_Md_run_44 (tgt := 56) rfl (fun q44 => ?_) (fun q44 => absurd q44 (by decide))
  refine hB.iload_n d_Md_run_56 rfl ?_
  refine hB.iconst d_Md_run_57 (v := 1) rfl ?_
  refine hB.icmp_ne d_Md_run_58 (tgt := 70) rfl (fun q58 => ?_) (fun q58 => absurd q58 (by decide))
  refine hB.iload_n d_Md_run_70 rfl ?_
  refine hB.iconst d_Md_run_71 (v := 2) rfl ?_
  refine hB.icmp_ne d_Md_run_72 (tgt := 87) rfl (fun q72 => ?_) (fun q72 => absurd q72 (by decide))
  refine hB.aload_n d_Md_run_87 rfl ?_
  refine hB.getC (Or.inl fa_Md_58) d_Md_run_88 (by decide) sK_126 rfl ?_
  refine hB.bipush d_Md_run_91 (v := 24) rfl ?_
  refine hB.iload_n d_Md_run_93 rfl ?_
  refine hB.imul d_Md_run_94 ?_
  refine hB.aload_n d_Md_run_95 rfl ?_
  refine hB.getC (Or.inl fa_Md_55) d_Md_run_96 (by decide) sK_126 rfl ?_
  refine hB.iload_n d_Md_run_99 rfl ?_
  refine hB.iald d_Md_run_100 (by decide) rfl rfl (by omega) (by decide) ?_
  refine hB.iadd d_Md_run_101 ?_
  refine hB.iconst d_Md_run_102 (v := 1) rfl ?_
  refine hB.isub d_Md_run_103 ?_
  have e140 : (sI z 126 0 0).1 140 j = nI R.2.1 := by rw [sI_row (by omega)]; exact hR.2.1
  have e9 : (24 : Int32) * nI j + (sI z 126 0 0).1 140 j - 1 = nI (24 * j + R.2.1 - 1) := by
    rw [e140, mul24, show (1 : Int32) = nI 1 from rfl, pk_sub (by omega)]
  refine hB.iald d_Md_run_104 (by decide) rfl e9 (by omega) (by decide) ?_
  exact hE.1 _ _ _ _ _ d_Md_run_105 rfl rfl ⟨by rw [sI_row (by omega), show 24 * j + R.2.1 - 1 = 24 * j + (R.2.1 - 1) by omega, hR.2.2.1 (R.2.1 - 1) (by omega)]; rfl, rfl⟩
