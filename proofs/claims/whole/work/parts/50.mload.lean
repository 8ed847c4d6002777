def kS (c d : qC) : Prop := d.2.2.2.1 = c.2.2.2.1 ∨ d.2.2.2.1 = 1
theorem kS_bg {c d : qC} {x b : Int32} (h : qBg c x b = some d) : kS c d := by
  unfold qBg at h
  split at h
  · cases h; exact Or.inl rfl
  · cases h
theorem kS_af {c d : qC} {x : Int32} (h : qAf c x = some d) : kS c d := by
  unfold qAf at h
  split at h
  · split at h
    · cases h; exact Or.inr rfl
    · cases h
  · split at h
    · split at h
      · cases h; exact Or.inl rfl
      · cases h
    · split at h
      · cases h
      · split at h
        · split at h
          · cases h; exact Or.inl rfl
          · cases h
        · exact kS_bg h
theorem kS_cm {c d : qC} {x : Int32} (h : qCm c x = some d) : kS c d := by
  unfold qCm at h
  split at h
  · cases h; exact Or.inl rfl
  · exact kS_af h
theorem kS_nx {c d : qC} {x : Int32} (h : qNx c x = some d) : kS c d := by
  unfold qNx at h
  by_cases c0 : c.1 = 0
  · rw [if_pos c0] at h
    exact kS_bg h
  rw [if_neg c0] at h
  by_cases c1 : c.1 = 1
  · rw [if_pos c1] at h
    exact kS_bg h
  rw [if_neg c1] at h
  by_cases c2 : c.1 = 2
  · rw [if_pos c2] at h
    by_cases g1 : x = 43
    · rw [if_pos g1] at h
      by_cases g2 : (qE c).1 = 0 ∧ c.2.1 < 8
      · rw [if_pos g2] at h
        cases h; exact Or.inl rfl
      · rw [if_neg g2] at h
        cases h
    · rw [if_neg g1] at h
      exact kS_cm h
  rw [if_neg c2] at h
  by_cases c3 : c.1 = 3
  · rw [if_pos c3] at h
    exact kS_cm h
  rw [if_neg c3] at h
  by_cases c4 : c.1 = 4
  · rw [if_pos c4] at h
    by_cases g1 : x = 112 ∧ 1 < c.2.1
    · rw [if_pos g1] at h
      cases h; exact Or.inl rfl
    · rw [if_neg g1] at h
      by_cases g2 : x = 45
      · rw [if_pos g2] at h
        cases h; exact Or.inl rfl
      · rw [if_neg g2] at h
        by_cases g3 : pDg x = true
        · rw [if_pos g3] at h
          cases h; exact Or.inl rfl
        · rw [if_neg g3] at h
          cases h
  rw [if_neg c4] at h
  by_cases c5 : c.1 = 5
  · rw [if_pos c5] at h
    by_cases g1 : pDg x = true
    · rw [if_pos g1] at h
      cases h; exact Or.inl rfl
    · rw [if_neg g1] at h
      cases h
  rw [if_neg c5] at h
  by_cases c6 : c.1 = 6
  · rw [if_pos c6] at h
    by_cases g1 : pDg x = true
    · rw [if_pos g1] at h
      cases h; exact Or.inl rfl
    · rw [if_neg g1] at h
      exact kS_af h
  rw [if_neg c6] at h
  by_cases c7 : c.1 = 14
  · rw [if_pos c7] at h
    by_cases g1 : pDg x = true
    · rw [if_pos g1] at h
      cases h; exact Or.inl rfl
    · rw [if_neg g1] at h
      exact kS_af (c := qNeg c) h
  rw [if_neg c7] at h
  by_cases c8 : c.1 = 15
  · rw [if_pos c8] at h
    exact kS_af (c := qNeg c) h
  rw [if_neg c8] at h
  by_cases c9 : c.1 = 9
  · rw [if_pos c9] at h
    by_cases g1 : x = 64
    · rw [if_pos g1] at h
      cases h; exact Or.inl rfl
    · rw [if_neg g1] at h
      cases h
  rw [if_neg c9] at h
  by_cases c10 : c.1 = 10 ∨ c.1 = 11 ∨ c.1 = 12
  · rw [if_pos c10] at h
    by_cases g1 : pDg x = true
    · rw [if_pos g1] at h
      cases h; exact Or.inl rfl
    · rw [if_neg g1] at h
      cases h
  rw [if_neg c10] at h
  by_cases c11 : c.1 = 13
  · rw [if_pos c11] at h
    cases h
  rw [if_neg c11] at h
  exact kS_af h
theorem qR_k {tx : Nat → Int32} : ∀ (f p : Nat) (c : qC), bZ c.2.2.2.1 → bZ (qR tx f p c).2.2.2.2.1
  | 0, p, c, h => by
    have e : qR tx 0 p c = qFin p c := rfl
    rw [e]
    unfold qFin
    split
    · exact h
    · exact Or.inl rfl
  | f + 1, p, c, h => by
    cases hx : qNx c (tx p) with
    | none =>
      rw [qR_n hx]
      exact Or.inl rfl
    | some d =>
      rw [qR_s hx]
      refine qR_k f (p + 1) d ?_
      rcases kS_nx hx with q | q
      · rw [q]; exact h
      · exact Or.inr q
theorem cRd_k {tx : Nat → Int32} {n : Nat} : bZ (cRd tx n).2.2.2.2.1 := by
  rw [← q_all]
  exact qR_k n 0 _ (Or.inl rfl)
def rEv (R : rR) (E : Nat) : Prop := 1 ≤ R.2.1 ∧ R.2.1 ≤ 19 ∧ (∀ m, m < R.2.1 → ∃ e, e < E ∧ R.2.2.1 m = nI e) ∧ -100 ≤ R.2.2.2.2.2.toInt ∧ R.2.2.2.2.2.toInt ≤ 100
def mdR (z : sT) (i : Nat) (R : rR) : Prop := z.1 139 i = nI R.1 ∧ z.1 140 i = nI R.2.1 ∧ (∀ m, m < R.2.1 → z.1 141 (24 * i + m) = R.2.2.1 m) ∧ (∀ e, e < 520 → R.2.2.1 0 = nI e → z.1 136 e = R.2.2.2.1 ∧ z.1 138 e = R.2.2.2.2.1) ∧ (∀ e, e < 520 → R.2.2.1 (R.2.1 - 1) = nI e → z.1 137 e = R.2.2.2.2.2)
def mdM (z : sT) (i : Nat) (R : rR) : Prop := z.1 142 i = nI R.2.1 ∧ ∀ m, m < R.2.1 → z.1 143 (24 * i + m) = R.2.2.1 m
def mdP (z : sT) (S : gS) : Prop := z.1 126 4 = nI (gPt S).1 ∧ z.1 126 16 = nI (gSl S).length ∧ (∀ s x, (gSl S)[s]? = some x → z.1 134 s = nI x) ∧ (∀ j, j < (gPt S).1 → mdE z j ((gPt S).2.1 j)) ∧ z.1 126 12 = (gPt S).2.2.1 ∧ z.1 126 14 = (gPt S).2.2.2
def mdA (z : sT) (S : gS) (E : Nat) : Prop := (z.1 126 1 = nI (gN S) ∧ (∀ i, i < gN S → z.1 127 i = gTx S i) ∧ z.1 126 3 = gFt S) ∧ mdP z S ∧ (z.1 126 24 = nI (gRs S).length ∧ ∀ i R, (gRs S)[i]? = some R → mdR z i R) ∧ (z.1 126 30 = nI (gMs S).length ∧ ∀ i R, (gMs S)[i]? = some R → mdM z i R) ∧ (gFg S).2.1 = nI E ∧ z.1 126 18 = nI E ∧ z.1 126 19 = (gFg S).1 ∧ z.1 126 33 = (gFg S).2.2.1 ∧ z.1 126 34 = (gFg S).2.2.2.1 ∧ z.1 126 35 = (gFg S).2.2.2.2.1 ∧ z.1 126 36 = (gFg S).2.2.2.2.2
def gOk (S : gS) (E : Nat) : Prop := (gN S ≤ 40 ∧ ∀ i, i < gN S → ∃ q : Nat, 33 ≤ q ∧ q ≤ 126 ∧ gTx S i = nI q) ∧ (gPt S).1 ≤ 8 ∧ wL (gPt S).1 (gPt S).2.1 ∧ bZ (gPt S).2.2.1 ∧ ((gPt S).1 = 0 → gRs S = []) ∧ ((gRs S).length ≤ 24 ∧ ∀ R ∈ gRs S, (R.1 + 1 < (gSl S).length ∧ R.2.1 ≤ 12 + R.1) ∧ rEv R E) ∧ ((gMs S).length ≤ 24 ∧ ∀ R ∈ gMs S, rEv R E)
def frL (z w : sT) : Prop := w.2 = z.2 ∧ ∀ a, a < 126 → w.1 a = z.1 a
theorem m40 : ∀ n, n < 41 → (-1 - nI n : Int32) < 0 ∧ ¬ (-1 - nI n : Int32) = nI n ∧ (-1 : Int32) - (-1 - nI n) = nI n := by decide +kernel
theorem mdA.fr {z w : sT} {S S2 : gS} {E : Nat} (h : mdA z S E) (hk8 : (gPt S).1 ≤ 8) (hf : frM z w) (h3 : S2 = (gTx S, gN S, gFt S2, S.2.2.2)) (v : Int32) (hv : gFt S2 = v) (u : Int32) : mdA (sI (sI w 126 0 u) 126 3 v) S2 E := by
  obtain ⟨⟨a1, a2, a3⟩, ⟨p1, p2, p3, p4, p5, p6⟩, ⟨r1, r2⟩, ⟨m1, m2⟩, f0, f1, f2, f3, f4, f5, f6⟩ := h
  have eN : gN S2 = gN S := by rw [h3]; rfl
  have eT : gTx S2 = gTx S := by rw [h3]; rfl
  have eP : gPt S2 = gPt S := by rw [h3]; rfl
  have eR : gRs S2 = gRs S := by rw [h3]; rfl
  have eM : gMs S2 = gMs S := by rw [h3]; rfl
  have eF : gFg S2 = gFg S := by rw [h3]; rfl
  have eS : gSl S2 = gSl S := by unfold gSl; rw [eP]
  have row : ∀ a, a ≠ 126 → (a < 128 ∨ 133 < a) → (sI (sI w 126 0 u) 126 3 v).1 a = z.1 a := fun a q1 q2 => by rw [sI_row q1, sI_row q1]; exact hf.2.1 a q1 q2
  have r126 : ∀ j, j ≠ 0 → j ≠ 3 → j ≠ 5 → j ≠ 13 → j ≠ 15 → (sI (sI w 126 0 u) 126 3 v).1 126 j = z.1 126 j := fun j j0 j3 j5 j13 j15 => by rw [sI_ne j3, sI_ne j0]; exact hf.2.2.1 j j5 j13 j15
  have rlo : ∀ a j, 128 ≤ a → a ≤ 133 → j < 8 → (sI (sI w 126 0 u) 126 3 v).1 a j = z.1 a j := fun a j q1 q2 q3 => by rw [sI_row (by omega), sI_row (by omega)]; exact hf.2.2.2 a j q1 q2 q3
  unfold mdA mdP
  rw [eN, eT, eP, eR, eM, eF, eS, hv]
  refine ⟨⟨by rw [r126 1 (by omega) (by omega) (by omega) (by omega) (by omega)]; exact a1, fun i hi => by rw [row 127 (by omega) (by omega)]; exact a2 i hi, sI_eq⟩, ⟨by rw [r126 4 (by omega) (by omega) (by omega) (by omega) (by omega)]; exact p1, by rw [r126 16 (by omega) (by omega) (by omega) (by omega) (by omega)]; exact p2, fun s x hs => by rw [row 134 (by omega) (by omega)]; exact p3 s x hs, ?_, by rw [r126 12 (by omega) (by omega) (by omega) (by omega) (by omega)]; exact p5, by rw [r126 14 (by omega) (by omega) (by omega) (by omega) (by omega)]; exact p6⟩, ⟨by rw [r126 24 (by omega) (by omega) (by omega) (by omega) (by omega)]; exact r1, fun i R hR => ?_⟩, ⟨by rw [r126 30 (by omega) (by omega) (by omega) (by omega) (by omega)]; exact m1, fun i R hR => ?_⟩, f0, by rw [r126 18 (by omega) (by omega) (by omega) (by omega) (by omega)]; exact f1, by rw [r126 19 (by omega) (by omega) (by omega) (by omega) (by omega)]; exact f2, by rw [r126 33 (by omega) (by omega) (by omega) (by omega) (by omega)]; exact f3, by rw [r126 34 (by omega) (by omega) (by omega) (by omega) (by omega)]; exact f4, by rw [r126 35 (by omega) (by omega) (by omega) (by omega) (by omega)]; exact f5, by rw [r126 36 (by omega) (by omega) (by omega) (by omega) (by omega)]; exact f6⟩
  · intro j hj
    refine (p4 j hj).fr (fun a q1 q2 => ?_)
    by_cases h8 : j < 8
    · exact rlo a j q1 q2 h8
    · exact absurd (show j < 8 by omega) h8
  · have := r2 i R hR
    unfold mdR at this ⊢
    rw [row 139 (by omega) (by omega), row 140 (by omega) (by omega), row 141 (by omega) (by omega), row 136 (by omega) (by omega), row 137 (by omega) (by omega), row 138 (by omega) (by omega)]
    exact this
  · have := m2 i R hR
    unfold mdM at this ⊢
    rw [row 142 (by omega) (by omega), row 143 (by omega) (by omega)]
    exact this
theorem cRd_n {tx : Nat → Int32} {n : Nat} (h : (cRd tx n).1 = true) : 0 < n := by
  rcases Nat.eq_zero_or_pos n with rfl | q
  · rw [← q_all] at h
    cases h
  · exact q
theorem adP.mdA {z w : sT} {S : gS} {u v : Int32} (h : adP z w (cRd (gTx S) (gN S)).2.2.1 (cRd (gTx S) (gN S)).2.2.2.1 (cRd (gTx S) (gN S)).2.2.2.2) (h1 : z.1 126 1 = nI (gN S)) (h2 : ∀ i, i < gN S → z.1 127 i = gTx S i) (h3 : z.1 126 3 = -1) : mdA w (gLd S) 0 := by
  obtain ⟨a1, a2, a3, a4, a5, a6, a7, a8, a9, b1, b2, b3, b4, b5, b6, b7, b8⟩ := h
  exact ⟨⟨by rw [a3 1 (by omega)]; exact h1, fun i hi => by rw [a2 127 (by omega)]; exact h2 i hi, by rw [a3 3 (by omega)]; exact h3⟩, ⟨a4, a5, a6, a7, a8, a9⟩, ⟨b3, fun i R hR => by simp [gLd, gRs] at hR⟩, ⟨b4, fun i R hR => by simp [gLd, gMs] at hR⟩, rfl, b1, b2, b5, b6, b7, b8⟩
set_option maxRecDepth 100000 in
set_option maxHeartbeats 4000000 in
theorem k_mLoad1 (l : Launch) (g : mG) (ad : Nat → Nat) (z : sT) (S : gS) (E9 : Nat) (hA : mdA z S E9) (hO : gOk S E9) (hok : (cRd (gTx S) (gN S)).1 = true) : sC l y_Md_load c_Md_load 3 (some .int) 5 g ad [.ref (ad 126)] z (fun r w => r = some (.int (nI (gSl (gLd S)).length)) ∧ w.1 126 0 = 0 ∧ mdA w (gLd S) 0 ∧ frL z w) := by
  refine sC.intro (own := R_Md) rfl (by decide) (by decide) (by simp [Value.category]) (Nat.le_of_ble_eq_true rfl) (fun K hB hE => ?_)
  show K 0 [some (.ref (ad 126)), none, none] [] z
  have hn := hA.1.1
  have hn4 := hO.1.1
  have hpos := cRd_n hok
  refine hB.aload_n d_Md_load_0 rfl ?_
  refine hB.callV lk_Md_141 cd_Md_good (k_Md_good l g ad z (gN S) (gTx S) hA.1.1 hO.1.1 hA.1.2.1 hO.1.2) rfl (by decide) sK_126 d_Md_load_1 rfl rfl (by decide) (by simp [Value.category]) ?_
  rintro r1 w1 ⟨hf, ht, -⟩
  rw [q_all] at ht
  obtain ⟨rfl, sx, hQ1⟩ := ht hok
  have e1 : w1.1 126 1 = nI (gN S) := (hf.2.2.1 1 (by omega) (by omega) (by omega)).trans hn
  have hQ2 : mdQ (sI (sI w1 126 0 0) 126 3 (-1)) (sx, (cRd (gTx S) (gN S)).2.2) := ⟨by rw [sI_ne (by omega), sI_ne (by omega)]; exact hQ1.1, hQ1.2.1, fun j hj => (hQ1.2.2.1 j hj).fr (fun a q1 q2 => by rw [sI_row (by omega), sI_row (by omega)]), by rw [sI_ne (by omega), sI_ne (by omega)]; exact hQ1.2.2.2.1, by rw [sI_ne (by omega), sI_ne (by omega)]; exact hQ1.2.2.2.2⟩
  refine hB.istore_n d_Md_load_4 (Nat.le_of_ble_eq_true rfl) ?_
  refine hB.iload_n d_Md_load_5 rfl ?_
  refine hB.aload_n d_Md_load_6 rfl ?_
  refine hB.getI (Or.inl fa_Md_70) d_Md_load_7 (by decide) sK_126 rfl ?_
  refine hB.icmp_ne d_Md_load_10 (tgt := 24) rfl (fun q10 => absurd e1.symm q10) (fun q10 => ?_)
  refine hB.aload_n d_Md_load_13 rfl ?_
  refine hB.getI (Or.inl fa_Md_70) d_Md_load_14 (by decide) sK_126 rfl ?_
  refine hB.if_le d_Md_load_17 (tgt := 24) rfl (fun q17 => absurd q17 (by rw [e1]; exact nI_nle hpos (by omega))) (fun q17 => ?_)
  refine hB.iconst d_Md_load_20 (v := 1) rfl ?_
  refine hB.goto d_Md_load_21 (tgt := 25) rfl ?_
  refine hB.istore_n d_Md_load_25 (Nat.le_of_ble_eq_true rfl) ?_
  refine hB.aload_n d_Md_load_26 rfl ?_
  refine hB.iload_n d_Md_load_27 rfl ?_
  refine hB.if_eq d_Md_load_28 (tgt := 35) rfl (fun q28 => absurd q28 (by decide)) (fun q28 => ?_)
  refine hB.iconst d_Md_load_31 (v := 0) rfl ?_
  refine hB.goto d_Md_load_32 (tgt := 36) rfl ?_
  refine hB.putI (Or.inl fa_Md_67) d_Md_load_36 (by decide) sK_126 rfl rfl rfl ?_
  refine hB.aload_n d_Md_load_39 rfl ?_
  refine hB.iload_n d_Md_load_40 rfl ?_
  refine hB.if_eq d_Md_load_41 (tgt := 48) rfl (fun q41 => absurd q41 (by decide)) (fun q41 => ?_)
  refine hB.iconst d_Md_load_44 (v := -1) rfl ?_
  refine hB.goto d_Md_load_45 (tgt := 59) rfl ?_
  refine hB.putI (Or.inl fa_Md_13) d_Md_load_59 (by decide) sK_126 rfl rfl rfl ?_
  refine hB.iload_n d_Md_load_62 rfl ?_
  refine hB.if_ne d_Md_load_63 (tgt := 68) rfl (fun q63 => ?_) (fun q63 => absurd q63 (by decide))
  refine hB.aload_n d_Md_load_68 rfl ?_
  refine hB.callV lk_Md_145 cd_Md_adopt (k_Md_adopt l g ad (sI (sI w1 126 0 0) 126 3 (-1)) sx _ _ _ hQ2 (cRd_w hO.1.2 hok).1 cRd_k) rfl (by decide) sK_126 d_Md_load_69 rfl rfl (by decide) (by simp [Value.category]) ?_
  rintro _ w2 ⟨rfl, hP⟩
  refine hB.aload_n d_Md_load_72 rfl ?_
  refine hB.getI (Or.inl fa_Md_108) d_Md_load_73 (by decide) sK_126 rfl ?_
  exact hE.1 _ _ _ _ _ d_Md_load_76 rfl rfl (by
      have hd : mdA w2 (gLd S) 0 := adP.mdA (u := 0) (v := 0) hP (by rw [sI_ne (by omega), sI_ne (by omega)]; exact e1) (fun i hi => by rw [sI_row (by omega), sI_row (by omega), hf.2.1 127 (by omega) (by omega)]; exact hA.1.2.1 i hi) sI_eq
      refine ⟨by rw [hd.2.1.2.1], ?_, hd, ?_, fun a ha => ?_⟩
      · rw [hP.2.2.1 0 (by omega), sI_ne (by omega), sI_eq]
      · rw [hP.1]; exact hf.1
      · rw [hP.2.1 a (by omega), sI_row (by omega), sI_row (by omega)]; exact hf.2.1 a (by omega) (by omega))
set_option maxRecDepth 100000 in
set_option maxHeartbeats 4000000 in
theorem k_mLoad0 (l : Launch) (g : mG) (ad : Nat → Nat) (z : sT) (S : gS) (E9 : Nat) (hA : mdA z S E9) (hO : gOk S E9) (hok : (cRd (gTx S) (gN S)).1 = false) : sC l y_Md_load c_Md_load 3 (some .int) 5 g ad [.ref (ad 126)] z (fun r w => r = some (.int 0) ∧ w.1 126 0 = 1 ∧ mdA w (gNo S) E9 ∧ frL z w) := by
  refine sC.intro (own := R_Md) rfl (by decide) (by decide) (by simp [Value.category]) (Nat.le_of_ble_eq_true rfl) (fun K hB hE => ?_)
  show K 0 [some (.ref (ad 126)), none, none] [] z
  have hn := hA.1.1
  have hn4 := hO.1.1
  refine hB.aload_n d_Md_load_0 rfl ?_
  refine hB.callV lk_Md_141 cd_Md_good (k_Md_good l g ad z (gN S) (gTx S) hA.1.1 hO.1.1 hA.1.2.1 hO.1.2) rfl (by decide) sK_126 d_Md_load_1 rfl rfl (by decide) (by simp [Value.category]) ?_
  rintro r1 w1 ⟨hf, -, ht⟩
  rw [q_all] at ht
  have e1 : w1.1 126 1 = nI (gN S) := (hf.2.2.1 1 (by omega) (by omega) (by omega)).trans hn
  have hm := m40 (gN S) (by omega)
  have hr1 : ∃ x : Int32, r1 = some (.int x) ∧ ¬ x = nI (gN S) ∧ (if x < 0 then -1 - x else x) = nI (cRd (gTx S) (gN S)).2.1 := by
    rcases ht hok with ⟨q, h2⟩ | ⟨q, h2⟩
    · refine ⟨_, q, fun q9 => ?_, ?_⟩
      · have := (nI_eq (by omega) (by omega)).mp q9
        omega
      · rw [if_neg (nI_pos (by omega))]
    · refine ⟨_, q, hm.2.1, ?_⟩
      rw [if_pos hm.1, h2, hm.2.2]
  obtain ⟨x1, rfl, hx1, hx2⟩ := hr1
  show K 4 _ [.int x1] w1
  refine hB.istore_n d_Md_load_4 (Nat.le_of_ble_eq_true rfl) ?_
  refine hB.iload_n d_Md_load_5 rfl ?_
  refine hB.aload_n d_Md_load_6 rfl ?_
  refine hB.getI (Or.inl fa_Md_70) d_Md_load_7 (by decide) sK_126 rfl ?_
  refine hB.icmp_ne d_Md_load_10 (tgt := 24) rfl (fun q10 => ?_) (fun q10 => absurd q10 (fun q => hx1 (q.trans e1)))
  refine hB.iconst d_Md_load_24 (v := 0) rfl ?_
  refine hB.istore_n d_Md_load_25 (Nat.le_of_ble_eq_true rfl) ?_
  refine hB.aload_n d_Md_load_26 rfl ?_
  refine hB.iload_n d_Md_load_27 rfl ?_
  refine hB.if_eq d_Md_load_28 (tgt := 35) rfl (fun q28 => ?_) (fun q28 => absurd rfl q28)
  refine hB.iconst d_Md_load_35 (v := 1) rfl ?_
  refine hB.putI (Or.inl fa_Md_67) d_Md_load_36 (by decide) sK_126 rfl rfl rfl ?_
  refine hB.aload_n d_Md_load_39 rfl ?_
  refine hB.iload_n d_Md_load_40 rfl ?_
  refine hB.if_eq d_Md_load_41 (tgt := 48) rfl (fun q41 => ?_) (fun q41 => absurd rfl q41)
  refine hB.iload_n d_Md_load_48 rfl ?_
  refine hB.if_ge d_Md_load_49 (tgt := 58) rfl (fun q49 => ?_) (fun q49 => ?_)
  · rw [if_neg (Int32.not_lt.mpr q49)] at hx2
    refine hB.iload_n d_Md_load_58 rfl ?_
    refine hB.putI (Or.inl fa_Md_13) d_Md_load_59 (by decide) sK_126 rfl rfl rfl ?_
    refine hB.iload_n d_Md_load_62 rfl ?_
    refine hB.if_ne d_Md_load_63 (tgt := 68) rfl (fun q63 => absurd rfl q63) (fun q63 => ?_)
    refine hB.iconst d_Md_load_66 (v := 0) rfl ?_
    exact hE.1 _ _ _ _ _ d_Md_load_67 rfl rfl (by
      refine ⟨rfl, by rw [sI_ne (by omega), sI_eq], hA.fr hO.2.1 hf rfl _ (by rw [hx2]; rfl) _, hf.1, fun a ha => ?_⟩
      rw [sI_row (by omega), sI_row (by omega)]
      exact hf.2.1 a (by omega) (by omega))
  · rw [if_pos (Int32.not_le.mp q49)] at hx2
    refine hB.iconst d_Md_load_52 (v := -1) rfl ?_
    refine hB.iload_n d_Md_load_53 rfl ?_
    refine hB.isub d_Md_load_54 ?_
    refine hB.goto d_Md_load_55 (tgt := 59) rfl ?_
    refine hB.putI (Or.inl fa_Md_13) d_Md_load_59 (by decide) sK_126 rfl rfl rfl ?_
    refine hB.iload_n d_Md_load_62 rfl ?_
    refine hB.if_ne d_Md_load_63 (tgt := 68) rfl (fun q63 => absurd rfl q63) (fun q63 => ?_)
    refine hB.iconst d_Md_load_66 (v := 0) rfl ?_
    exact hE.1 _ _ _ _ _ d_Md_load_67 rfl rfl (by
      refine ⟨rfl, by rw [sI_ne (by omega), sI_eq], hA.fr hO.2.1 hf rfl _ (by rw [hx2]; rfl) _, hf.1, fun a ha => ?_⟩
      rw [sI_row (by omega), sI_row (by omega)]
      exact hf.2.1 a (by omega) (by omega))
