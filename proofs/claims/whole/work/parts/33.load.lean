theorem nar_char {q : Nat} (hq : q < 65536) : narrow .char (.int (nI q)) = .int (nI q) := by
  exact (pk_charN hq).1
theorem fit_char {q : Nat} (hq : q < 65536) : fits .char (.int (nI q)) = true := by
  exact (pk_charN hq).2
theorem ptA.keep2 {z w : sT} {pt k : Nat} {els : Nat → pE} (h : ptA z pt k els) (h1 : w.1 pt = z.1 pt) (h2 : w.1 (pt + 2) = z.1 (pt + 2)) (h3 : ∀ a, pb pt ≤ a → a < pb pt + 8 → w.1 a = z.1 a) (hk : k ≤ 8) : ptA w pt k els := by
  obtain ⟨p1, p2, p3, p4⟩ := h
  refine ⟨by rw [h1]; exact p1, by rw [h1]; exact p2, fun j hj i hi => ?_, fun s x hs => by rw [h2]; exact p4 s x hs⟩
  rw [h3 _ (by omega) (by omega)]
  exact p3 j hj i hi
theorem pb_8 : pb 8 = 14 := rfl
theorem pb_11 : pb 11 = 22 := rfl
def gLd (S : gS) : gS := (gTx S, gN S, -1, (cRd (gTx S) (gN S)).2.2, [], [], (0, 0, 0, 0, 0, 0))
def sLd (w : sT) (p d : Nat) : sT := sNew (sI (sP (sP w 0 4 d) 0 5 p) 0 6 (-1))
theorem sLd_row {w : sT} {p d a : Nat} (h0 : a ≠ 0) (h3 : a ≠ 3) (h5 : a ≠ 5) (h7 : a ≠ 7) : (sLd w p d).1 a = w.1 a := by
  unfold sLd sNew
  rw [sI_row h0, sI_row h0, sI_row h0, sI_row h0, sI_row h0, sI_row h7, sI_row h5, sI_row h3, sI_row h0]
  rfl
theorem sLd_ref {w : sT} {p d a j : Nat} : (sLd w p d).2.1 a j = if a = 0 ∧ j = 5 then p else if a = 0 ∧ j = 4 then d else w.2.1 a j := rfl
theorem clA.load {z w : sT} {S : gS} (h : clA z S) (hf : frP z w (z.2.1 0 5)) (hok : ptA w (z.2.1 0 5) (cRd (gTx S) (gN S)).2.2.1 (cRd (gTx S) (gN S)).2.2.2.1 ∧ (cRd (gTx S) (gN S)).2.2.1 ≤ 8 ∧ w.1 (z.2.1 0 5) 4 = (cRd (gTx S) (gN S)).2.2.2.2.1 ∧ w.1 (z.2.1 0 5) 5 = (cRd (gTx S) (gN S)).2.2.2.2.2) : clA (sLd w (z.2.1 0 4) (z.2.1 0 5)) (gLd S) ∧ frC z (sLd w (z.2.1 0 4) (z.2.1 0 5)) := by
  obtain ⟨h1, h3, h4, h5, h6, h7, h8, h9, h10, h11, h12⟩ := h
  have hd : z.2.1 0 5 = 8 ∨ z.2.1 0 5 = 11 := h1.elim (fun q => Or.inr q.2) (fun q => Or.inl q.2)
  have hpb := pb_in hd
  generalize hv : sLd w (z.2.1 0 4) (z.2.1 0 5) = v
  have row : ∀ a, a ≠ 0 → a ≠ 3 → a ≠ 5 → a ≠ 7 → v.1 a = w.1 a := fun a a0 a3 a5 a7 => by rw [← hv]; exact sLd_row a0 a3 a5 a7
  have r4 : v.2.1 0 4 = z.2.1 0 5 := by rw [← hv, sLd_ref]; simp
  have r5 : v.2.1 0 5 = z.2.1 0 4 := by rw [← hv, sLd_ref]; simp
  have ro : ∀ a, a ≠ 0 → v.2.1 a = z.2.1 a := fun a ha => by
    funext j
    rw [← hv, sLd_ref, if_neg (fun q => ha q.1), if_neg (fun q => ha q.1), hf.1]
  constructor
  · refine ⟨?_, ?_, hok.2.1, ?_, ?_, ⟨?_, h7.2.1, fun i hi => ?_⟩, ?_, ?_, ⟨?_, by show 0 ≤ 24; omega, fun i R hi => by simp [gLd, gRs] at hi⟩, ⟨?_, by show 0 ≤ 24; omega, fun i R hi => by simp [gLd, gMs] at hi⟩, ?_, ?_, ?_, ?_, ?_, ?_, ?_⟩
    · rw [r4, r5]
      rcases h1 with q | q
      · exact Or.inr ⟨q.2, q.1⟩
      · exact Or.inl ⟨q.2, q.1⟩
    · rw [r4]
      exact hok.1.keep2 (row _ (by omega) (by omega) (by omega) (by omega)) (row _ (by omega) (by omega) (by omega) (by omega)) (fun a a1 a2 => row a (by omega) (by omega) (by omega) (by omega)) hok.2.1
    · rw [r4, row _ (by omega) (by omega) (by omega) (by omega)]
      exact hok.2.2.1
    · rw [r4, row _ (by omega) (by omega) (by omega) (by omega)]
      exact hok.2.2.2
    · rw [row 1 (by omega) (by omega) (by omega) (by omega), hf.2.2]
      exact h7.1
    · rw [row 2 (by omega) (by omega) (by omega) (by omega), hf.2.1 2 (by omega) (by omega) (by omega) (by omega)]
      exact h7.2.2 i hi
    · rw [row 2 (by omega) (by omega) (by omega) (by omega), hf.2.1 2 (by omega) (by omega) (by omega) (by omega)]
      exact h8
    · unfold rwA
      rw [ro 4 (by omega), ro 6 (by omega)]
      exact h9
    · rw [← hv]; simp [sLd, sNew, sI, gLd, gRs]; rfl
    · rw [← hv]; simp [sLd, sNew, sI, gLd, gMs]; rfl
    · rw [← hv]; simp [sLd, sNew, sI, gLd, gFt]
    · rw [← hv]; simp [sLd, sNew, sI, gLd, gFg]
    · rw [← hv]; simp [sLd, sNew, sI, gLd, gFg]
    · rw [← hv]; simp [sLd, sNew, sI, gLd, gFg]
    · rw [← hv]; simp [sLd, sNew, sI, gLd, gFg]
    · rw [← hv]; simp [sLd, sNew, sI, gLd, gFg]
    · rw [← hv]; simp [sLd, sNew, sI, gLd, gFg]
  · intro a ha
    rw [row a (by omega) (by omega) (by omega) (by omega)]
    exact hf.2.1 a (by omega) (by omega) (by omega) (by omega)
def gNo (S : gS) : gS := (gTx S, gN S, nI (cRd (gTx S) (gN S)).2.1, S.2.2.2)
theorem clA.fail {z w : sT} {S : gS} {x : Int32} (h : clA z S) (hf : frP z w (z.2.1 0 5)) (hx : x = nI (cRd (gTx S) (gN S)).2.1) : clA (sI w 0 6 x) (gNo S) ∧ frC z (sI w 0 6 x) := by
  obtain ⟨h1, h3, h4, h5, h6, h7, h8, h9, h10, h11, h12, h13, h14, h15, h16, h17, h18⟩ := h
  have hd : z.2.1 0 5 = 8 ∨ z.2.1 0 5 = 11 := h1.elim (fun q => Or.inr q.2) (fun q => Or.inl q.2)
  have hp : z.2.1 0 4 = 8 ∨ z.2.1 0 4 = 11 := h1.elim (fun q => Or.inl q.1) (fun q => Or.inr q.1)
  have hpb := pb_in hd
  have hne : z.2.1 0 4 ≠ z.2.1 0 5 := by rcases h1 with q | q <;> omega
  have hn2 : z.2.1 0 4 ≠ z.2.1 0 5 + 2 := by rcases h1 with q | q <;> omega
  have hn3 : z.2.1 0 4 + 2 ≠ z.2.1 0 5 := by rcases h1 with q | q <;> omega
  have hel : ∀ a, pb (z.2.1 0 4) ≤ a → a < pb (z.2.1 0 4) + 8 → ¬ (pb (z.2.1 0 5) ≤ a ∧ a < pb (z.2.1 0 5) + 8) := by
    intro a a1 a2 a3
    rcases h1 with q | q
    · rw [q.1, pb_8] at a1 a2; rw [q.2, pb_11] at a3; omega
    · rw [q.1, pb_11] at a1 a2; rw [q.2, pb_8] at a3; omega
  have hpb4 := pb_in hp
  have row : ∀ a, a ≠ 0 → a ≠ 1 → a ≠ z.2.1 0 5 → a ≠ z.2.1 0 5 + 2 → ¬ (pb (z.2.1 0 5) ≤ a ∧ a < pb (z.2.1 0 5) + 8) → (sI w 0 6 x).1 a = z.1 a := fun a a0 a1 a2 a3 a4 => by rw [sI_row a0, hf.2.1 a a1 a2 a3 a4]
  have e21 : (sI w 0 6 x).2.1 = z.2.1 := by show w.2.1 = z.2.1; rw [hf.1]
  have z0 : ∀ j, j ≠ 6 → (sI w 0 6 x).1 0 j = z.1 0 j := fun j hj => by
    have : (sI w 0 6 x).1 0 j = w.1 0 j := by simp [sI, hj]
    rw [this, hf.2.1 0 (by omega) (by omega) (by omega) (by omega)]
  constructor
  · unfold clA
    rw [e21]
    refine ⟨h1, h3.keep2 (row _ (by omega) (by omega) hne hn2 (by omega)) (row _ (by omega) (by omega) hn3 (by omega) (by omega)) (fun a a1 a2 => row a (by omega) (by omega) (by omega) (by omega) (hel a a1 a2)) h4, h4, by rw [row _ (by omega) (by omega) hne hn2 (by omega)]; exact h5, by rw [row _ (by omega) (by omega) hne hn2 (by omega)]; exact h6, ⟨?_, h7.2.1, fun i hi => ?_⟩, ?_, ?_, h10.keep h9 (Or.inl rfl) e21 (by rw [row 3 (by omega) (by omega) (by omega) (by omega) (by omega)]) (fun a a1 a2 => row a (by omega) (by omega) (by omega) (by omega) (by omega)), h11.keep h9 (Or.inr rfl) e21 (by rw [row 5 (by omega) (by omega) (by omega) (by omega) (by omega)]) (fun a a1 a2 => row a (by omega) (by omega) (by omega) (by omega) (by omega)), ?_, by rw [row 7 (by omega) (by omega) (by omega) (by omega) (by omega)]; exact h13, by rw [z0 7 (by omega)]; exact h14, by rw [z0 8 (by omega)]; exact h15, by rw [z0 9 (by omega)]; exact h16, by rw [z0 10 (by omega)]; exact h17, by rw [z0 11 (by omega)]; exact h18⟩
    · rw [sI_row (by omega), hf.2.2]
      exact h7.1
    · rw [row 2 (by omega) (by omega) (by omega) (by omega) (by omega)]
      exact h7.2.2 i hi
    · rw [row 2 (by omega) (by omega) (by omega) (by omega) (by omega)]
      exact h8
    · unfold rwA
      rw [e21]
      exact h9
    · rw [hx]; simp [sI, gNo, gFt]
  · intro a ha
    exact row a (by omega) (by omega) (by omega) (by omega) (by omega)
set_option maxRecDepth 100000 in
set_option maxHeartbeats 4000000 in
theorem k_Pw_load (l : Launch) (g : mG) (ad : Nat → Nat) (z : sT) (S : gS) (hS : clA z S) (hok : (cRd (gTx S) (gN S)).1 = true) : sC l y_Pw_load c_Pw_load 2 (some .int) 6 g ad [.ref (ad 0)] z (fun r w => r = some (.int (nI (gSl (gLd S)).length)) ∧ clA w (gLd S) ∧ frC z w) := by
  refine sC.intro (own := R_Pw) rfl (by decide) (by decide) (by simp [Value.category]) (Nat.le_of_ble_eq_true rfl) (fun K hB hE => ?_)
  show K 0 [some (.ref (ad 0)), none] [] z
  have hc : cRd (z.1 2) (gN S) = cRd (gTx S) (gN S) := by rw [hS.2.2.2.2.2.2.1]
  refine hB.aload_n d_Pw_load_0 rfl ?_
  refine hB.getC (Or.inl fa_Pw_12) d_Pw_load_1 (by decide) sK_0 rfl ?_
  refine hB.aload_n d_Pw_load_4 rfl ?_
  refine hB.getR (Or.inl fa_Pw_40) d_Pw_load_5 (by decide) sK_0 rfl ?_
  refine hB.callVN lk_Pw_54 cd_Rd_readInto (k_Rd_readInto l g ad z (gN S) (z.2.1 0 5) hS.dr hS.2.2.2.2.2.1) rfl (by decide) sK_1 d_Pw_load_8 rfl rfl (by decide) (by simp [Value.category]) ?_
  rintro _ w9 ⟨rfl, hw9⟩
  rw [hc, hok] at hw9
  rw [hc, hok]
  have e2 : w9.2 = z.2 := hw9.1.1
  refine hB.if_ne d_Pw_load_11 (tgt := 35) rfl (fun q11 => ?_) (fun q11 => absurd q11 (by decide))
  refine hB.aload_n d_Pw_load_35 rfl ?_
  refine hB.getR (Or.inl fa_Pw_36) d_Pw_load_36 (by decide) sK_0 rfl ?_
  refine hB.astore_n d_Pw_load_39 (Nat.le_of_ble_eq_true rfl) ?_
  refine hB.aload_n d_Pw_load_40 rfl ?_
  refine hB.aload_n d_Pw_load_41 rfl ?_
  refine hB.getR (Or.inl fa_Pw_40) d_Pw_load_42 (by decide) sK_0 rfl ?_
  refine hB.putR (Or.inl fa_Pw_36) d_Pw_load_45 (by decide) sK_0 rfl ?_
  refine hB.aload_n d_Pw_load_48 rfl ?_
  refine hB.aload_n d_Pw_load_49 rfl ?_
  refine hB.putR (Or.inl fa_Pw_40) d_Pw_load_50 (by decide) sK_0 rfl ?_
  refine hB.aload_n d_Pw_load_53 rfl ?_
  refine hB.iconst d_Pw_load_54 (v := -1) rfl ?_
  refine hB.putI (Or.inl fa_Pw_43) d_Pw_load_55 (by decide) sK_0 rfl rfl rfl ?_
  refine hB.aload_n d_Pw_load_58 rfl ?_
  refine hB.callV lk_Pw_68 cd_Pw_startAnew (k_Pw_startAnew l g ad _) rfl (by decide) sK_0 d_Pw_load_59 rfl rfl (by decide) (by simp [Value.category]) ?_
  rintro _ w9 ⟨rfl, hw9⟩
  have hw8 := hw9.symm
  clear hw9
  subst hw8
  obtain ⟨c1, c2⟩ := hS.load hw9.1 (hw9.2.2.2 rfl)
  have e9 : sNew (sI (sP (sP w9 0 4 (w9.2.1 0 5)) 0 5 (w9.2.1 0 4)) 0 6 (-1)) = sLd w9 (z.2.1 0 4) (z.2.1 0 5) := by
    rw [show w9.2.1 = z.2.1 by rw [e2]]
    rfl
  rw [e9]
  have hp := c1.pt
  refine hB.aload_n d_Pw_load_62 rfl ?_
  refine hB.getR (Or.inl fa_Pw_36) d_Pw_load_63 (by decide) sK_0 rfl ?_
  refine hB.getI (Or.inr fa_Pw_71) d_Pw_load_66 (by omega) (sK_pt hp) rfl ?_
  exact hE.1 _ _ _ _ _ d_Pw_load_69 rfl rfl ⟨by rw [c1.2.1.2.1]; rfl, c1, c2⟩
set_option maxRecDepth 100000 in
set_option maxHeartbeats 4000000 in
theorem x_load (l : Launch) (htl : l.stackTraces = false) (g : mG) (ad : Nat → Nat) (z : sT) (S : gS) (hS : clA z S) (hok : (cRd (gTx S) (gN S)).1 = false) : xC l y_Pw_load c_Pw_load 2 (some .int) 6 g ad [.ref (ad 0)] z X_IAE (fun w => clA w (gNo S) ∧ frC z w) := by
  refine xC.intro htl xf_IAE rfl (by decide) (by simp [Value.category]) (Nat.le_of_ble_eq_true rfl) (fun K hB hX => ?_)
  show K 0 [some (.ref (ad 0)), none] [] z
  have hc : cRd (z.1 2) (gN S) = cRd (gTx S) (gN S) := by rw [hS.2.2.2.2.2.2.1]
  refine hB.aload_n d_Pw_load_0 rfl ?_
  refine hB.getC (Or.inl fa_Pw_12) d_Pw_load_1 (by decide) sK_0 rfl ?_
  refine hB.aload_n d_Pw_load_4 rfl ?_
  refine hB.getR (Or.inl fa_Pw_40) d_Pw_load_5 (by decide) sK_0 rfl ?_
  refine hB.callVN lk_Pw_54 cd_Rd_readInto (k_Rd_readInto l g ad z (gN S) (z.2.1 0 5) hS.dr hS.2.2.2.2.2.1) rfl (by decide) sK_1 d_Pw_load_8 rfl rfl (by decide) (by simp [Value.category]) ?_
  rintro _ w9 ⟨rfl, hw9⟩
  rw [hc, hok] at hw9
  rw [hc, hok]
  refine hB.if_ne d_Pw_load_11 (tgt := 35) rfl (fun q11 => absurd rfl q11) (fun q11 => ?_)
  refine hB.aload_n d_Pw_load_14 rfl ?_
  refine hB.aload_n d_Pw_load_15 rfl ?_
  refine hB.getC (Or.inl fa_Pw_12) d_Pw_load_16 (by decide) sK_0 rfl ?_
  refine hB.getI (Or.inr fa_Pw_58) d_Pw_load_19 (by decide) sK_1 rfl ?_
  refine hB.putI (Or.inl fa_Pw_43) d_Pw_load_22 (by decide) sK_0 rfl rfl rfl ?_
  exact hX 25 _ 63 _ "the text is no pattern" _ _ d_Pw_load_25 d_Pw_load_28 d_Pw_load_29 d_Pw_load_31 d_Pw_load_34 rfl xk_IAE xi_IAE xa_IAE (by decide) (hS.fail hw9.1 hw9.2.1)
