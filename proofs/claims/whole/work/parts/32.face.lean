abbrev gS : Type := (Nat → Int32) × Nat × Int32 × (Nat × (Nat → pE) × Int32 × Int32) × List rR × List rR × (Int32 × Int32 × Int32 × Int32 × Int32 × Int32)
def gTx (S : gS) : Nat → Int32 := S.1
def gN (S : gS) : Nat := S.2.1
def gFt (S : gS) : Int32 := S.2.2.1
def gPt (S : gS) : Nat × (Nat → pE) × Int32 × Int32 := S.2.2.2.1
def gRs (S : gS) : List rR := S.2.2.2.2.1
def gMs (S : gS) : List rR := S.2.2.2.2.2.1
def gFg (S : gS) : Int32 × Int32 × Int32 × Int32 × Int32 × Int32 := S.2.2.2.2.2.2
def gSl (S : gS) : List Nat := stO (gPt S).2.1 (gPt S).1
def clA (z : sT) (S : gS) : Prop := ((z.2.1 0 4 = 8 ∧ z.2.1 0 5 = 11) ∨ (z.2.1 0 4 = 11 ∧ z.2.1 0 5 = 8)) ∧ ptA z (z.2.1 0 4) (gPt S).1 (gPt S).2.1 ∧ (gPt S).1 ≤ 8 ∧ z.1 (z.2.1 0 4) 4 = (gPt S).2.2.1 ∧ z.1 (z.2.1 0 4) 5 = (gPt S).2.2.2 ∧ rd0 z (gN S) ∧ z.1 2 = gTx S ∧ rwA z ∧ lsA z 3 (gRs S) ∧ lsA z 5 (gMs S) ∧ z.1 0 6 = gFt S ∧ z.1 7 4 = (gFg S).1 ∧ z.1 0 7 = (gFg S).2.1 ∧ z.1 0 8 = (gFg S).2.2.1 ∧ z.1 0 9 = (gFg S).2.2.2.1 ∧ z.1 0 10 = (gFg S).2.2.2.2.1 ∧ z.1 0 11 = (gFg S).2.2.2.2.2
def frC (z w : sT) : Prop := ∀ a, 126 ≤ a → w.1 a = z.1 a
theorem clA.pt {z : sT} {S : gS} (h : clA z S) : z.2.1 0 4 = 8 ∨ z.2.1 0 4 = 11 := h.1.elim (fun q => Or.inl q.1) (fun q => Or.inr q.1)
theorem clA.dr {z : sT} {S : gS} (h : clA z S) : z.2.1 0 5 = 8 ∨ z.2.1 0 5 = 11 := h.1.elim (fun q => Or.inr q.2) (fun q => Or.inl q.2)
theorem lsA.keep {z w : sT} {q : Nat} {rs : List rR} (h : lsA z q rs) (hw : rwA z) (hq : q = 3 ∨ q = 5) (h2 : w.2.1 = z.2.1) (h1 : w.1 q 1 = z.1 q 1) (hr : ∀ a, 30 ≤ a → a < 126 → w.1 a = z.1 a) : lsA w q rs := by
  refine h.fr h2 h1 (fun i hi => ?_)
  have h24 := h.2.1
  rcases hq with rfl | rfl
  · have := hw.1 i (by omega)
    exact ⟨hr _ (by show 30 ≤ z.2.1 4 i; omega) (by show z.2.1 4 i < 126; omega), hr _ (by show 30 ≤ z.2.1 4 i + 48; omega) (by show z.2.1 4 i + 48 < 126; omega)⟩
  · have := hw.2.2 i (by omega)
    exact ⟨hr _ (by show 30 ≤ z.2.1 6 i; omega) (by show z.2.1 6 i < 126; omega), hr _ (by show 30 ≤ z.2.1 6 i + 48; omega) (by show z.2.1 6 i + 48 < 126; omega)⟩
theorem ptA.keep {z w : sT} {pt k : Nat} {els : Nat → pE} (h : ptA z pt k els) (hp : pt = 8 ∨ pt = 11) (h1 : ∀ a, 8 ≤ a → a < 30 → w.1 a = z.1 a) (hk : k ≤ 8) : ptA w pt k els := by
  obtain ⟨p1, p2, p3, p4⟩ := h
  have hpb := pb_in hp
  refine ⟨by rw [h1 pt (by omega) (by omega)]; exact p1, by rw [h1 pt (by omega) (by omega)]; exact p2, fun j hj i hi => ?_, fun s x hs => by rw [h1 (pt + 2) (by omega) (by omega)]; exact p4 s x hs⟩
  rw [h1 _ (by omega) (by omega)]
  exact p3 j hj i hi
def gTy (S : gS) (q : Nat) : gS := if 33 ≤ q ∧ q ≤ 126 ∧ gN S < 40 then (upd (gTx S) (gN S) (nI q), gN S + 1, S.2.2) else S
theorem clA.type {z : sT} {S : gS} {q : Nat} (h : clA z S) : clA (if 33 ≤ q ∧ q ≤ 126 ∧ gN S < 40 then sI (sI z 2 (gN S) (nI q)) 1 1 (nI (gN S + 1)) else z) (gTy S q) := by
  unfold gTy
  by_cases hc : 33 ≤ q ∧ q ≤ 126 ∧ gN S < 40
  · rw [if_pos hc, if_pos hc]
    obtain ⟨h1, h2, h3, h4, h5, h6, h7, h8, h9, h10, h11⟩ := h
    have hp : z.2.1 0 4 = 8 ∨ z.2.1 0 4 = 11 := h1.elim (fun q => Or.inl q.1) (fun q => Or.inr q.1)
    have row : ∀ a, a ≠ 1 → a ≠ 2 → (sI (sI z 2 (gN S) (nI q)) 1 1 (nI (gN S + 1))).1 a = z.1 a := fun a a1 a2 => by rw [sI_row a1, sI_row a2]
    refine ⟨h1, h2.keep hp (fun a a1 a2 => row a (by omega) (by omega)) h3, h3, ?_, ?_, ?_, ?_, h8, h9.keep h8 (Or.inl rfl) rfl (by rw [row 3 (by omega) (by omega)]) (fun a a1 a2 => row a (by omega) (by omega)), h10.keep h8 (Or.inr rfl) rfl (by rw [row 5 (by omega) (by omega)]) (fun a a1 a2 => row a (by omega) (by omega)), ?_⟩
    · show (sI (sI z 2 (gN S) (nI q)) 1 1 (nI (gN S + 1))).1 (z.2.1 0 4) 4 = _
      rw [row _ (by omega) (by omega)]; exact h4
    · show (sI (sI z 2 (gN S) (nI q)) 1 1 (nI (gN S + 1))).1 (z.2.1 0 4) 5 = _
      rw [row _ (by omega) (by omega)]; exact h5
    · refine ⟨by simp [sI, gN], by show gN S + 1 ≤ 40; omega, fun i hi => ?_⟩
      have e2 : (sI (sI z 2 (gN S) (nI q)) 1 1 (nI (gN S + 1))).1 2 i = if i = gN S then nI q else z.1 2 i := by
        rw [sI_row (by omega)]
        simp [sI]
      rw [e2]
      by_cases hin : i = gN S
      · rw [if_pos hin]
        exact ⟨q, hc.1, hc.2.1, rfl⟩
      · rw [if_neg hin]
        refine h6.2.2 i ?_
        have : i < gN S + 1 := hi
        omega
    · funext i
      rw [sI_row (by omega)]
      simp [sI, gTx, upd]
      rw [h7]
      rfl
    · rw [row 0 (by omega) (by omega), row 7 (by omega) (by omega)]
      exact h11
  · rw [if_neg hc, if_neg hc]
    exact h
theorem clA.row1 {z w : sT} {S S2 : gS} (h : clA z S) (h2 : w.2 = z.2) (hr : ∀ a, a ≠ 1 → a ≠ 0 → w.1 a = z.1 a) (h0 : ∀ j, j ≠ 6 → w.1 0 j = z.1 0 j) (hn : rd0 w (gN S2)) (hS : S2 = (gTx S, gN S2, w.1 0 6, S.2.2.2)) : clA w S2 := by
  obtain ⟨h1, h3, h4, h5, h6, h7, h8, h9, h10, h11, h12, h13, h14, h15, h16, h17, h18⟩ := h
  have hp : z.2.1 0 4 = 8 ∨ z.2.1 0 4 = 11 := h1.elim (fun q => Or.inl q.1) (fun q => Or.inr q.1)
  have e21 : w.2.1 = z.2.1 := by rw [h2]
  have eP : gPt S2 = gPt S := by rw [hS]; rfl
  have eR : gRs S2 = gRs S := by rw [hS]; rfl
  have eM : gMs S2 = gMs S := by rw [hS]; rfl
  have eF : gFg S2 = gFg S := by rw [hS]; rfl
  have eX : gTx S2 = gTx S := by rw [hS]; rfl
  have eT : gFt S2 = w.1 0 6 := by rw [hS]; rfl
  unfold clA
  rw [e21, eP, eR, eM, eF, eX, eT]
  refine ⟨h1, h3.keep hp (fun a a1 a2 => hr a (by omega) (by omega)) h4, h4, by rw [hr _ (by omega) (by omega)]; exact h5, by rw [hr _ (by omega) (by omega)]; exact h6, hn, by rw [hr 2 (by omega) (by omega)]; exact h8, ?_, h10.keep h9 (Or.inl rfl) e21 (by rw [hr 3 (by omega) (by omega)]) (fun a a1 a2 => hr a (by omega) (by omega)), h11.keep h9 (Or.inr rfl) e21 (by rw [hr 5 (by omega) (by omega)]) (fun a a1 a2 => hr a (by omega) (by omega)), rfl, by rw [hr 7 (by omega) (by omega)]; exact h13, by rw [h0 7 (by omega)]; exact h14, by rw [h0 8 (by omega)]; exact h15, by rw [h0 9 (by omega)]; exact h16, by rw [h0 10 (by omega)]; exact h17, by rw [h0 11 (by omega)]; exact h18⟩
  unfold rwA
  rw [e21]
  exact h9
theorem fWi_in {x : Int32} {n : Nat} (hn : n < 2 ^ 31) (h : fWi x 0 (nI n - 1) = 1) : ∃ j : Nat, j < n ∧ x = nI j := by
  unfold fWi at h
  by_cases h0 : x < 0
  · rw [if_pos h0] at h; exact absurd h (by decide)
  · rw [if_neg h0] at h
    obtain ⟨j, hj, rfl⟩ := nI_of h0
    refine ⟨j, ?_, rfl⟩
    by_cases hq : nI n - 1 < nI j
    · rw [if_pos hq] at h; exact absurd h (by decide)
    · rcases n with _ | n
      · exact absurd (show nI 0 - 1 < nI j from Int32.lt_of_lt_of_le (by decide) (nI_pos' hj)) hq
      · rw [nI_pred, nI_ltI (by omega) hj] at hq
        omega
theorem fWi_of {j n : Nat} (hn : n < 2 ^ 31) (h : j < n) : fWi (nI j) 0 (nI n - 1) = 1 := by
  rcases n with _ | n
  · omega
  · unfold fWi
    rw [nI_pred, if_neg (nI_pos (by omega)), if_neg (nI_nlt (by omega) (by omega))]
def gFig (S : gS) (k : Nat) : Int32 := if k = 0 then (gFg S).1 else if k = 1 then (gFg S).2.1 else if k = 2 then (gFg S).2.2.1 else if k = 3 then (gFg S).2.2.2.1 else if k = 4 then (gFg S).2.2.2.2.1 else if k = 5 then (gFg S).2.2.2.2.2 else if k = 6 then nI (gSl S).length else (gPt S).2.2.2
set_option maxRecDepth 100000 in
set_option maxHeartbeats 4000000 in
theorem k_Pw_type (l : Launch) (g : mG) (ad : Nat → Nat) (z : sT) (S : gS) (hS : clA z S) (q : Nat) (hq : q < 65536) : sC l y_Pw_type c_Pw_type 2 (some .boolean) 1 g ad [.ref (ad 0), .int (nI q)] z (fun r w => r = some (.int (bI (decide (33 ≤ q ∧ q ≤ 126 ∧ gN S < 40)))) ∧ clA w (gTy S q) ∧ frC z w) := by
  refine sC.intro (own := R_Pw) rfl (by decide) (by decide) (by simp [Value.category]) (Nat.le_of_ble_eq_true rfl) (fun K hB hE => ?_)
  show K 0 [some (.ref (ad 0)), some (.int (nI q))] [] z
  refine hB.aload_n d_Pw_type_0 rfl ?_
  refine hB.getC (Or.inl fa_Pw_12) d_Pw_type_1 (by decide) sK_0 rfl ?_
  refine hB.iload_n d_Pw_type_4 rfl ?_
  refine hB.callVN lk_Pw_47 cd_Rd_put (k_Rd_put l g ad z (gN S) q hS.2.2.2.2.2.1.1 hS.2.2.2.2.2.1.2.1 hq) rfl (by decide) sK_1 d_Pw_type_5 rfl rfl (by decide) (by simp [Value.category]) ?_
  rintro _ w9 ⟨rfl, hw9⟩
  have hw8 := hw9.symm
  clear hw9
  subst hw8
  exact hE.1 _ _ _ _ _ d_Pw_type_8 rfl (bI_nar _) ⟨rfl, hS.type, fun a ha => by
      by_cases hc : 33 ≤ q ∧ q ≤ 126 ∧ gN S < 40
      · rw [if_pos hc, sI_row (by omega), sI_row (by omega)]
      · rw [if_neg hc]⟩
set_option maxRecDepth 100000 in
set_option maxHeartbeats 4000000 in
theorem k_Pw_wipe (l : Launch) (g : mG) (ad : Nat → Nat) (z : sT) (S : gS) (hS : clA z S) : sC l y_Pw_wipe c_Pw_wipe 1 none 1 g ad [.ref (ad 0)] z (fun r w => r = none ∧ clA w (gTx S, 0, S.2.2) ∧ frC z w) := by
  refine sC.intro (own := R_Pw) rfl (by decide) (by decide) (by simp [Value.category]) (Nat.le_of_ble_eq_true rfl) (fun K hB hE => ?_)
  show K 0 [some (.ref (ad 0))] [] z
  refine hB.aload_n d_Pw_wipe_0 rfl ?_
  refine hB.getC (Or.inl fa_Pw_12) d_Pw_wipe_1 (by decide) sK_0 rfl ?_
  refine hB.callVN lk_Pw_51 cd_Rd_empty (k_Rd_empty l g ad z) rfl (by decide) sK_1 d_Pw_wipe_4 rfl rfl (by decide) (by simp [Value.category]) ?_
  rintro _ w9 ⟨rfl, hw9⟩
  have hw8 := hw9.symm
  clear hw9
  subst hw8
  exact hE.2.2 _ _ _ d_Pw_wipe_7 rfl ⟨rfl, hS.row1 rfl (fun a a1 a2 => sI_row a1) (fun j hj => by rw [sI_row (by omega)]) ⟨by simp [sI]; rfl, by show 0 ≤ 40; omega, fun i hi => absurd hi (Nat.not_lt_zero i)⟩ (by rw [sI_row (by omega), hS.2.2.2.2.2.2.2.2.2.2.1]; rfl), fun a ha => sI_row (by omega)⟩
set_option maxRecDepth 100000 in
set_option maxHeartbeats 4000000 in
theorem k_Pw_fault (l : Launch) (g : mG) (ad : Nat → Nat) (z : sT) (S : gS) (hS : clA z S) : sC l y_Pw_fault c_Pw_fault 1 (some .int) 0 g ad [.ref (ad 0)] z (fun r w => r = some (.int (gFt S)) ∧ w = z) := by
  refine sC.intro (own := R_Pw) rfl (by decide) (by decide) (by simp [Value.category]) (Nat.le_of_ble_eq_true rfl) (fun K hB hE => ?_)
  show K 0 [some (.ref (ad 0))] [] z
  refine hB.aload_n d_Pw_fault_0 rfl ?_
  refine hB.getI (Or.inl fa_Pw_43) d_Pw_fault_1 (by decide) sK_0 rfl ?_
  exact hE.1 _ _ _ _ _ d_Pw_fault_4 rfl rfl ⟨by rw [hS.2.2.2.2.2.2.2.2.2.2.1], rfl⟩
set_option maxRecDepth 100000 in
set_option maxHeartbeats 4000000 in
theorem k_Pw_runs (l : Launch) (g : mG) (ad : Nat → Nat) (z : sT) (S : gS) (hS : clA z S) : sC l y_Pw_runs c_Pw_runs 1 (some .int) 0 g ad [.ref (ad 0)] z (fun r w => r = some (.int (nI (gRs S).length)) ∧ w = z) := by
  refine sC.intro (own := R_Pw) rfl (by decide) (by decide) (by simp [Value.category]) (Nat.le_of_ble_eq_true rfl) (fun K hB hE => ?_)
  show K 0 [some (.ref (ad 0))] [] z
  refine hB.aload_n d_Pw_runs_0 rfl ?_
  refine hB.getC (Or.inl fa_Pw_19) d_Pw_runs_1 (by decide) sK_0 rfl ?_
  refine hB.getI (Or.inr fa_Pw_119) d_Pw_runs_4 (by decide) (sK_rl (Or.inl rfl)) rfl ?_
  exact hE.1 _ _ _ _ _ d_Pw_runs_7 rfl rfl ⟨by rw [hS.2.2.2.2.2.2.2.2.1.1], rfl⟩
set_option maxRecDepth 100000 in
set_option maxHeartbeats 4000000 in
theorem k_Pw_figure (l : Launch) (g : mG) (ad : Nat → Nat) (z : sT) (S : gS) (hS : clA z S) (k : Nat) (hk : k < 8) : sC l y_Pw_figure c_Pw_figure 2 (some .int) 0 g ad [.ref (ad 0), .int (nI k)] z (fun r w => r = some (.int (gFig S k)) ∧ w = z) := by
  refine sC.intro (own := R_Pw) rfl (by decide) (by decide) (by simp [Value.category]) (Nat.le_of_ble_eq_true rfl) (fun K hB hE => ?_)
  show K 0 [some (.ref (ad 0)), some (.int (nI k))] [] z
  refine hB.iload_n d_Pw_figure_0 rfl ?_
  have hp := hS.pt
  have hk8 : k = 0 ∨ k = 1 ∨ k = 2 ∨ k = 3 ∨ k = 4 ∨ k = 5 ∨ k = 6 ∨ k = 7 := by omega
  rcases hk8 with rfl | rfl | rfl | rfl | rfl | rfl | rfl | rfl
  · refine hB.tableIn d_Pw_figure_1 (tgt := 48) (by decide) (by decide) rfl rfl ?_
    refine hB.aload_n d_Pw_figure_48 rfl ?_
    refine hB.getC (Or.inl fa_Pw_29) d_Pw_figure_49 (by decide) sK_0 rfl ?_
    refine hB.getI (Or.inr fa_Pw_104) d_Pw_figure_52 (by decide) sK_7 rfl ?_
    exact hE.1 _ _ _ _ _ d_Pw_figure_55 rfl rfl ⟨by rw [hS.2.2.2.2.2.2.2.2.2.2.2.1]; rfl, rfl⟩
  · refine hB.tableIn d_Pw_figure_1 (tgt := 56) (by decide) (by decide) rfl rfl ?_
    refine hB.aload_n d_Pw_figure_56 rfl ?_
    refine hB.getI (Or.inl fa_Pw_88) d_Pw_figure_57 (by decide) sK_0 rfl ?_
    exact hE.1 _ _ _ _ _ d_Pw_figure_60 rfl rfl ⟨by rw [hS.2.2.2.2.2.2.2.2.2.2.2.2.1]; rfl, rfl⟩
  · refine hB.tableIn d_Pw_figure_1 (tgt := 61) (by decide) (by decide) rfl rfl ?_
    refine hB.aload_n d_Pw_figure_61 rfl ?_
    refine hB.getI (Or.inl fa_Pw_116) d_Pw_figure_62 (by decide) sK_0 rfl ?_
    exact hE.1 _ _ _ _ _ d_Pw_figure_65 rfl rfl ⟨by rw [hS.2.2.2.2.2.2.2.2.2.2.2.2.2.1]; rfl, rfl⟩
  · refine hB.tableIn d_Pw_figure_1 (tgt := 66) (by decide) (by decide) rfl rfl ?_
    refine hB.aload_n d_Pw_figure_66 rfl ?_
    refine hB.getI (Or.inl fa_Pw_157) d_Pw_figure_67 (by decide) sK_0 rfl ?_
    exact hE.1 _ _ _ _ _ d_Pw_figure_70 rfl rfl ⟨by rw [hS.2.2.2.2.2.2.2.2.2.2.2.2.2.2.1]; rfl, rfl⟩
  · refine hB.tableIn d_Pw_figure_1 (tgt := 71) (by decide) (by decide) rfl rfl ?_
    refine hB.aload_n d_Pw_figure_71 rfl ?_
    refine hB.getI (Or.inl fa_Pw_160) d_Pw_figure_72 (by decide) sK_0 rfl ?_
    exact hE.1 _ _ _ _ _ d_Pw_figure_75 rfl rfl ⟨by rw [hS.2.2.2.2.2.2.2.2.2.2.2.2.2.2.2.1]; rfl, rfl⟩
  · refine hB.tableIn d_Pw_figure_1 (tgt := 76) (by decide) (by decide) rfl rfl ?_
    refine hB.aload_n d_Pw_figure_76 rfl ?_
    refine hB.getI (Or.inl fa_Pw_163) d_Pw_figure_77 (by decide) sK_0 rfl ?_
    exact hE.1 _ _ _ _ _ d_Pw_figure_80 rfl rfl ⟨by rw [hS.2.2.2.2.2.2.2.2.2.2.2.2.2.2.2.2]; rfl, rfl⟩
  · refine hB.tableIn d_Pw_figure_1 (tgt := 81) (by decide) (by decide) rfl rfl ?_
    refine hB.aload_n d_Pw_figure_81 rfl ?_
    refine hB.getR (Or.inl fa_Pw_36) d_Pw_figure_82 (by decide) sK_0 rfl ?_
    refine hB.getI (Or.inr fa_Pw_71) d_Pw_figure_85 (by omega) (sK_pt hp) rfl ?_
    exact hE.1 _ _ _ _ _ d_Pw_figure_88 rfl rfl ⟨by rw [hS.2.1.2.1]; rfl, rfl⟩
  · refine hB.tableIn d_Pw_figure_1 (tgt := 89) (by decide) (by decide) rfl rfl ?_
    refine hB.aload_n d_Pw_figure_89 rfl ?_
    refine hB.getR (Or.inl fa_Pw_36) d_Pw_figure_90 (by decide) sK_0 rfl ?_
    refine hB.getI (Or.inr fa_Pw_166) d_Pw_figure_93 (by omega) (sK_pt hp) rfl ?_
    exact hE.1 _ _ _ _ _ d_Pw_figure_96 rfl rfl ⟨by rw [hS.2.2.2.2.1]; rfl, rfl⟩
set_option maxRecDepth 100000 in
set_option maxHeartbeats 4000000 in
theorem x_figure (l : Launch) (htl : l.stackTraces = false) (g : mG) (ad : Nat → Nat) (z : sT) (S : gS) (hS : clA z S) (x : Int32) (hx : fWi x 0 7 = 0) : xC l y_Pw_figure c_Pw_figure 2 (some .int) 6 g ad [.ref (ad 0), .int x] z X_IAE (fun w => w = z) := by
  refine xC.intro htl xf_IAE rfl (by decide) (by simp [Value.category]) (Nat.le_of_ble_eq_true rfl) (fun K hB hX => ?_)
  show K 0 [some (.ref (ad 0)), some (.int x)] [] z
  refine hB.iload_n d_Pw_figure_0 rfl ?_
  refine hB.tableOut d_Pw_figure_1 (tgt := 97) ?_ rfl ?_
  · unfold fWi at hx
    by_cases h0 : x < 0
    · exact Or.inl (Int32.lt_iff_toInt_lt.mp h0)
    · rw [if_neg h0] at hx
      by_cases h7 : 7 < x
      · exact Or.inr (Int32.lt_iff_toInt_lt.mp h7)
      · rw [if_neg h7] at hx; exact absurd hx (by decide)
  exact hX 97 _ 169 _ "k is not 0 .. 7" _ _ d_Pw_figure_97 d_Pw_figure_100 d_Pw_figure_101 d_Pw_figure_103 d_Pw_figure_106 rfl xk_IAE xi_IAE xa_IAE (by decide) rfl
set_option maxRecDepth 100000 in
set_option maxHeartbeats 4000000 in
theorem k_Pw_size (l : Launch) (g : mG) (ad : Nat → Nat) (z : sT) (S : gS) (hS : clA z S) (j : Nat) (R : rR) (hj : (gMs S)[j]? = some R) : sC l y_Pw_size c_Pw_size 2 (some .int) 2 g ad [.ref (ad 0), .int (nI j)] z (fun r w => r = some (.int (nI R.2.1)) ∧ w = z) := by
  refine sC.intro (own := R_Pw) rfl (by decide) (by decide) (by simp [Value.category]) (Nat.le_of_ble_eq_true rfl) (fun K hB hE => ?_)
  show K 0 [some (.ref (ad 0)), some (.int (nI j))] [] z
  have hM := hS.2.2.2.2.2.2.2.2.2.1
  have h24 := hM.2.1
  have hl := (List.getElem?_eq_some_iff.mp hj).1
  have hR := hM.2.2 j R hj
  have hr := hS.2.2.2.2.2.2.2.1.2.2 j (by omega)
  have h1 : fWi (nI j) 0 (z.1 5 1 - 1) = 1 := by rw [hM.1]; exact fWi_of (by omega) hl
  have hrr : 30 ≤ z.2.1 (5 + 1) j ∧ z.2.1 (5 + 1) j < 78 := by
    show 30 ≤ z.2.1 6 j ∧ z.2.1 6 j < 78
    omega
  refine hB.aload_n d_Pw_size_0 rfl ?_
  refine hB.getC (Or.inl fa_Pw_23) d_Pw_size_1 (by decide) sK_0 rfl ?_
  refine hB.iload_n d_Pw_size_4 rfl ?_
  refine hB.callVN lk_Pw_122 cd_RL_has (k_RL_has l g ad z 5 (nI j) (Or.inr rfl)) rfl (by decide) (sK_rl (Or.inr rfl)) d_Pw_size_5 rfl rfl (by decide) (by simp [Value.category]) ?_
  rintro _ w9 ⟨rfl, hw9⟩
  have hw8 := hw9.symm
  clear hw9
  subst hw8
  rw [h1]
  refine hB.if_ne d_Pw_size_8 (tgt := 21) rfl (fun q8 => ?_) (fun q8 => absurd q8 (by decide))
  refine hB.aload_n d_Pw_size_21 rfl ?_
  refine hB.getC (Or.inl fa_Pw_23) d_Pw_size_22 (by decide) sK_0 rfl ?_
  refine hB.getC (Or.inr fa_Pw_131) d_Pw_size_25 (by decide) (sK_rl (Or.inr rfl)) rfl ?_
  refine hB.iload_n d_Pw_size_28 rfl ?_
  refine hB.aald4 d_Pw_size_29 (by decide) (sK_rows (Or.inr rfl)) rfl (by omega) (by decide) ?_
  rw [sRf_0]
  refine hB.getI (Or.inr fa_Pw_135) d_Pw_size_30 (by omega) (sK_run (by omega) (by omega)) rfl ?_
  exact hE.1 _ _ _ _ _ d_Pw_size_33 rfl rfl ⟨by rw [hR.1], rfl⟩
set_option maxRecDepth 100000 in
set_option maxHeartbeats 4000000 in
theorem x_size (l : Launch) (htl : l.stackTraces = false) (g : mG) (ad : Nat → Nat) (z : sT) (S : gS) (hS : clA z S) (x : Int32) (hx : fWi x 0 (nI (gMs S).length - 1) = 0) : xC l y_Pw_size c_Pw_size 2 (some .int) 6 g ad [.ref (ad 0), .int x] z X_IOB (fun w => w = z) := by
  refine xC.intro htl xf_IOB rfl (by decide) (by simp [Value.category]) (Nat.le_of_ble_eq_true rfl) (fun K hB hX => ?_)
  show K 0 [some (.ref (ad 0)), some (.int x)] [] z
  have hM := hS.2.2.2.2.2.2.2.2.2.1
  have h1 : fWi x 0 (z.1 5 1 - 1) = 0 := by rw [hM.1]; exact hx
  refine hB.aload_n d_Pw_size_0 rfl ?_
  refine hB.getC (Or.inl fa_Pw_23) d_Pw_size_1 (by decide) sK_0 rfl ?_
  refine hB.iload_n d_Pw_size_4 rfl ?_
  refine hB.callVN lk_Pw_122 cd_RL_has (k_RL_has l g ad z 5 x (Or.inr rfl)) rfl (by decide) (sK_rl (Or.inr rfl)) d_Pw_size_5 rfl rfl (by decide) (by simp [Value.category]) ?_
  rintro _ w9 ⟨rfl, hw9⟩
  have hw8 := hw9.symm
  clear hw9
  subst hw8
  rw [h1]
  refine hB.if_ne d_Pw_size_8 (tgt := 21) rfl (fun q8 => absurd rfl q8) (fun q8 => ?_)
  exact hX 11 _ 128 _ "no such match" _ _ d_Pw_size_11 d_Pw_size_14 d_Pw_size_15 d_Pw_size_17 d_Pw_size_20 rfl xk_IOB xi_IOB xa_IOB (by decide) rfl
set_option maxRecDepth 100000 in
set_option maxHeartbeats 4000000 in
theorem k_Pw_at (l : Launch) (g : mG) (ad : Nat → Nat) (z : sT) (S : gS) (hS : clA z S) (j k : Nat) (R : rR) (hj : (gMs S)[j]? = some R) (hk : k < R.2.1) : sC l y_Pw_at c_Pw_at 3 (some .int) 2 g ad [.ref (ad 0), .int (nI j), .int (nI k)] z (fun r w => r = some (.int (R.2.2.1 k)) ∧ w = z) := by
  refine sC.intro (own := R_Pw) rfl (by decide) (by decide) (by simp [Value.category]) (Nat.le_of_ble_eq_true rfl) (fun K hB hE => ?_)
  show K 0 [some (.ref (ad 0)), some (.int (nI j)), some (.int (nI k))] [] z
  have hM := hS.2.2.2.2.2.2.2.2.2.1
  have h24 := hM.2.1
  have hl := (List.getElem?_eq_some_iff.mp hj).1
  have hR := hM.2.2 j R hj
  have hr := hS.2.2.2.2.2.2.2.1.2.2 j (by omega)
  have h1 : fWi (nI j) 0 (z.1 5 1 - 1) = 1 := by rw [hM.1]; exact fWi_of (by omega) hl
  have hr9 := hR.2.2.2.2.2.2.2.2.2
  have hrr : 30 ≤ z.2.1 (5 + 1) j ∧ z.2.1 (5 + 1) j < 78 := by
    show 30 ≤ z.2.1 6 j ∧ z.2.1 6 j < 78
    omega
  have h2 : fWi (nI k) 0 (z.1 (z.2.1 6 j) 1 - 1) = 1 := by
    rw [show z.1 (z.2.1 6 j) 1 = nI R.2.1 from hR.1]
    exact fWi_of (by omega) hk
  refine hB.aload_n d_Pw_at_0 rfl ?_
  refine hB.getC (Or.inl fa_Pw_23) d_Pw_at_1 (by decide) sK_0 rfl ?_
  refine hB.iload_n d_Pw_at_4 rfl ?_
  refine hB.callVN lk_Pw_122 cd_RL_has (k_RL_has l g ad z 5 (nI j) (Or.inr rfl)) rfl (by decide) (sK_rl (Or.inr rfl)) d_Pw_at_5 rfl rfl (by decide) (by simp [Value.category]) ?_
  rintro _ w9 ⟨rfl, hw9⟩
  have hw8 := hw9.symm
  clear hw9
  subst hw8
  rw [h1]
  refine hB.if_eq d_Pw_at_8 (tgt := 33) rfl (fun q8 => absurd q8 (by decide)) (fun q8 => ?_)
  refine hB.iload_n d_Pw_at_11 rfl ?_
  refine hB.iconst d_Pw_at_12 (v := 0) rfl ?_
  refine hB.aload_n d_Pw_at_13 rfl ?_
  refine hB.getC (Or.inl fa_Pw_23) d_Pw_at_14 (by decide) sK_0 rfl ?_
  refine hB.getC (Or.inr fa_Pw_131) d_Pw_at_17 (by decide) (sK_rl (Or.inr rfl)) rfl ?_
  refine hB.iload_n d_Pw_at_20 rfl ?_
  refine hB.aald4 d_Pw_at_21 (by decide) (sK_rows (Or.inr rfl)) rfl (by omega) (by decide) ?_
  rw [sRf_0]
  refine hB.getI (Or.inr fa_Pw_135) d_Pw_at_22 (by omega) (sK_run (by omega) (by omega)) rfl ?_
  refine hB.iconst d_Pw_at_25 (v := 1) rfl ?_
  refine hB.isub d_Pw_at_26 ?_
  refine hB.callS lk_Pw_82 cd_Pw_isWithin (k_Pw_isWithin l g ad z (nI k) 0 (z.1 (z.2.1 6 j) 1 - 1)) d_Pw_at_27 rfl rfl (by decide) (by simp [Value.category]) ?_
  rintro _ w9 ⟨rfl, hw9⟩
  have hw8 := hw9.symm
  clear hw9
  subst hw8
  rw [h2]
  refine hB.if_ne d_Pw_at_30 (tgt := 43) rfl (fun q30 => ?_) (fun q30 => absurd q30 (by decide))
  refine hB.aload_n d_Pw_at_43 rfl ?_
  refine hB.getC (Or.inl fa_Pw_23) d_Pw_at_44 (by decide) sK_0 rfl ?_
  refine hB.getC (Or.inr fa_Pw_131) d_Pw_at_47 (by decide) (sK_rl (Or.inr rfl)) rfl ?_
  refine hB.iload_n d_Pw_at_50 rfl ?_
  refine hB.aald4 d_Pw_at_51 (by decide) (sK_rows (Or.inr rfl)) rfl (by omega) (by decide) ?_
  rw [sRf_0]
  refine hB.getC (Or.inr fa_Pw_140) d_Pw_at_52 (by omega) (sK_run (by omega) (by omega)) rfl ?_
  refine hB.iload_n d_Pw_at_55 rfl ?_
  refine hB.iald d_Pw_at_56 (by omega) (sK_tk (by omega) (by omega)) rfl (by omega) (by decide) ?_
  exact hE.1 _ _ _ _ _ d_Pw_at_57 rfl rfl ⟨by rw [hR.2.2.2.2.2.2.2.1 k hk], rfl⟩
set_option maxRecDepth 100000 in
set_option maxHeartbeats 4000000 in
theorem x_at1 (l : Launch) (htl : l.stackTraces = false) (g : mG) (ad : Nat → Nat) (z : sT) (S : gS) (hS : clA z S) (x y : Int32) (hx : fWi x 0 (nI (gMs S).length - 1) = 0) : xC l y_Pw_at c_Pw_at 3 (some .int) 6 g ad [.ref (ad 0), .int x, .int y] z X_IOB (fun w => w = z) := by
  refine xC.intro htl xf_IOB rfl (by decide) (by simp [Value.category]) (Nat.le_of_ble_eq_true rfl) (fun K hB hX => ?_)
  show K 0 [some (.ref (ad 0)), some (.int x), some (.int y)] [] z
  have hM := hS.2.2.2.2.2.2.2.2.2.1
  have h1 : fWi x 0 (z.1 5 1 - 1) = 0 := by rw [hM.1]; exact hx
  refine hB.aload_n d_Pw_at_0 rfl ?_
  refine hB.getC (Or.inl fa_Pw_23) d_Pw_at_1 (by decide) sK_0 rfl ?_
  refine hB.iload_n d_Pw_at_4 rfl ?_
  refine hB.callVN lk_Pw_122 cd_RL_has (k_RL_has l g ad z 5 x (Or.inr rfl)) rfl (by decide) (sK_rl (Or.inr rfl)) d_Pw_at_5 rfl rfl (by decide) (by simp [Value.category]) ?_
  rintro _ w9 ⟨rfl, hw9⟩
  have hw8 := hw9.symm
  clear hw9
  subst hw8
  rw [h1]
  refine hB.if_eq d_Pw_at_8 (tgt := 33) rfl (fun q8 => ?_) (fun q8 => absurd rfl q8)
  exact hX 33 _ 138 _ "no such match, or no such event of it" _ _ d_Pw_at_33 d_Pw_at_36 d_Pw_at_37 d_Pw_at_39 d_Pw_at_42 rfl xk_IOB xi_IOB xa_IOB (by decide) rfl
set_option maxRecDepth 100000 in
set_option maxHeartbeats 4000000 in
theorem x_at2 (l : Launch) (htl : l.stackTraces = false) (g : mG) (ad : Nat → Nat) (z : sT) (S : gS) (hS : clA z S) (j : Nat) (y : Int32) (R : rR) (hj : (gMs S)[j]? = some R) (hy : fWi y 0 (nI R.2.1 - 1) = 0) : xC l y_Pw_at c_Pw_at 3 (some .int) 6 g ad [.ref (ad 0), .int (nI j), .int y] z X_IOB (fun w => w = z) := by
  refine xC.intro htl xf_IOB rfl (by decide) (by simp [Value.category]) (Nat.le_of_ble_eq_true rfl) (fun K hB hX => ?_)
  show K 0 [some (.ref (ad 0)), some (.int (nI j)), some (.int y)] [] z
  have hM := hS.2.2.2.2.2.2.2.2.2.1
  have h24 := hM.2.1
  have hl := (List.getElem?_eq_some_iff.mp hj).1
  have hR := hM.2.2 j R hj
  have hr := hS.2.2.2.2.2.2.2.1.2.2 j (by omega)
  have h1 : fWi (nI j) 0 (z.1 5 1 - 1) = 1 := by rw [hM.1]; exact fWi_of (by omega) hl
  have hr9 := hR.2.2.2.2.2.2.2.2.2
  have hrr : 30 ≤ z.2.1 (5 + 1) j ∧ z.2.1 (5 + 1) j < 78 := by
    show 30 ≤ z.2.1 6 j ∧ z.2.1 6 j < 78
    omega
  have h2 : fWi y 0 (z.1 (z.2.1 6 j) 1 - 1) = 0 := by
    rw [show z.1 (z.2.1 6 j) 1 = nI R.2.1 from hR.1]
    exact hy
  refine hB.aload_n d_Pw_at_0 rfl ?_
  refine hB.getC (Or.inl fa_Pw_23) d_Pw_at_1 (by decide) sK_0 rfl ?_
  refine hB.iload_n d_Pw_at_4 rfl ?_
  refine hB.callVN lk_Pw_122 cd_RL_has (k_RL_has l g ad z 5 (nI j) (Or.inr rfl)) rfl (by decide) (sK_rl (Or.inr rfl)) d_Pw_at_5 rfl rfl (by decide) (by simp [Value.category]) ?_
  rintro _ w9 ⟨rfl, hw9⟩
  have hw8 := hw9.symm
  clear hw9
  subst hw8
  rw [h1]
  refine hB.if_eq d_Pw_at_8 (tgt := 33) rfl (fun q8 => absurd q8 (by decide)) (fun q8 => ?_)
  refine hB.iload_n d_Pw_at_11 rfl ?_
  refine hB.iconst d_Pw_at_12 (v := 0) rfl ?_
  refine hB.aload_n d_Pw_at_13 rfl ?_
  refine hB.getC (Or.inl fa_Pw_23) d_Pw_at_14 (by decide) sK_0 rfl ?_
  refine hB.getC (Or.inr fa_Pw_131) d_Pw_at_17 (by decide) (sK_rl (Or.inr rfl)) rfl ?_
  refine hB.iload_n d_Pw_at_20 rfl ?_
  refine hB.aald4 d_Pw_at_21 (by decide) (sK_rows (Or.inr rfl)) rfl (by omega) (by decide) ?_
  rw [sRf_0]
  refine hB.getI (Or.inr fa_Pw_135) d_Pw_at_22 (by omega) (sK_run (by omega) (by omega)) rfl ?_
  refine hB.iconst d_Pw_at_25 (v := 1) rfl ?_
  refine hB.isub d_Pw_at_26 ?_
  refine hB.callS lk_Pw_82 cd_Pw_isWithin (k_Pw_isWithin l g ad z y 0 (z.1 (z.2.1 6 j) 1 - 1)) d_Pw_at_27 rfl rfl (by decide) (by simp [Value.category]) ?_
  rintro _ w9 ⟨rfl, hw9⟩
  have hw8 := hw9.symm
  clear hw9
  subst hw8
  rw [h2]
  refine hB.if_ne d_Pw_at_30 (tgt := 43) rfl (fun q30 => absurd rfl q30) (fun q30 => ?_)
  exact hX 33 _ 138 _ "no such match, or no such event of it" _ _ d_Pw_at_33 d_Pw_at_36 d_Pw_at_37 d_Pw_at_39 d_Pw_at_42 rfl xk_IOB xi_IOB xa_IOB (by decide) rfl
def gRun (R : rR) (k : Nat) : Int32 := if k = 0 then nI R.1 else if k = 1 then nI R.2.1 else if k = 2 then R.2.2.1 0 else R.2.2.1 (R.2.1 - 1)
set_option maxRecDepth 100000 in
set_option maxHeartbeats 4000000 in
theorem k_Pw_run (l : Launch) (g : mG) (ad : Nat → Nat) (z : sT) (S : gS) (hS : clA z S) (j k : Nat) (R : rR) (hj : (gRs S)[j]? = some R) (hk : k < 4) : sC l y_Pw_run c_Pw_run 4 (some .int) 2 g ad [.ref (ad 0), .int (nI j), .int (nI k)] z (fun r w => r = some (.int (gRun R k)) ∧ w = z) := by
  refine sC.intro (own := R_Pw) rfl (by decide) (by decide) (by simp [Value.category]) (Nat.le_of_ble_eq_true rfl) (fun K hB hE => ?_)
  show K 0 [some (.ref (ad 0)), some (.int (nI j)), some (.int (nI k)), none] [] z
  have hM := hS.2.2.2.2.2.2.2.2.1
  have h24 := hM.2.1
  have hl := (List.getElem?_eq_some_iff.mp hj).1
  have hR := hM.2.2 j R hj
  have hr := hS.2.2.2.2.2.2.2.1.1 j (by omega)
  have h1 : fWi (nI j) 0 (z.1 3 1 - 1) = 1 := by rw [hM.1]; exact fWi_of (by omega) hl
  have hrr : 30 ≤ z.2.1 (3 + 1) j ∧ z.2.1 (3 + 1) j < 78 := by
    show 30 ≤ z.2.1 4 j ∧ z.2.1 4 j < 78
    omega
  refine hB.aload_n d_Pw_run_0 rfl ?_
  refine hB.getC (Or.inl fa_Pw_19) d_Pw_run_1 (by decide) sK_0 rfl ?_
  refine hB.iload_n d_Pw_run_4 rfl ?_
  refine hB.callVN lk_Pw_122 cd_RL_has (k_RL_has l g ad z 3 (nI j) (Or.inl rfl)) rfl (by decide) (sK_rl (Or.inl rfl)) d_Pw_run_5 rfl rfl (by decide) (by simp [Value.category]) ?_
  rintro _ w9 ⟨rfl, hw9⟩
  have hw8 := hw9.symm
  clear hw9
  subst hw8
  rw [h1]
  refine hB.if_ne d_Pw_run_8 (tgt := 21) rfl (fun q8 => ?_) (fun q8 => absurd q8 (by decide))
  refine hB.aload_n d_Pw_run_21 rfl ?_
  refine hB.getC (Or.inl fa_Pw_19) d_Pw_run_22 (by decide) sK_0 rfl ?_
  refine hB.getC (Or.inr fa_Pw_131) d_Pw_run_25 (by decide) (sK_rl (Or.inl rfl)) rfl ?_
  refine hB.iload_n d_Pw_run_28 rfl ?_
  refine hB.aald4 d_Pw_run_29 (by decide) (sK_rows (Or.inl rfl)) rfl (by omega) (by decide) ?_
  rw [sRf_0]
  refine hB.astore_n d_Pw_run_30 (Nat.le_of_ble_eq_true rfl) ?_
  refine hB.iload_n d_Pw_run_31 rfl ?_
  have hk4 : k = 0 ∨ k = 1 ∨ k = 2 ∨ k = 3 := by omega
  rcases hk4 with rfl | rfl | rfl | rfl
  · refine hB.tableIn d_Pw_run_32 (tgt := 64) (by decide) (by decide) rfl rfl ?_
    refine hB.aload_n d_Pw_run_64 rfl ?_
    refine hB.getI (Or.inr fa_Pw_146) d_Pw_run_65 (by omega) (sK_run (by omega) (by omega)) rfl ?_
    exact hE.1 _ _ _ _ _ d_Pw_run_68 rfl rfl ⟨by rw [show z.1 (z.2.1 4 j) _ = _ from hR.2.1]; rfl, rfl⟩
  · refine hB.tableIn d_Pw_run_32 (tgt := 69) (by decide) (by decide) rfl rfl ?_
    refine hB.aload_n d_Pw_run_69 rfl ?_
    refine hB.getI (Or.inr fa_Pw_135) d_Pw_run_70 (by omega) (sK_run (by omega) (by omega)) rfl ?_
    exact hE.1 _ _ _ _ _ d_Pw_run_73 rfl rfl ⟨by rw [show z.1 (z.2.1 4 j) _ = _ from hR.1]; rfl, rfl⟩
  · refine hB.tableIn d_Pw_run_32 (tgt := 74) (by decide) (by decide) rfl rfl ?_
    refine hB.aload_n d_Pw_run_74 rfl ?_
    refine hB.getI (Or.inr fa_Pw_149) d_Pw_run_75 (by omega) (sK_run (by omega) (by omega)) rfl ?_
    exact hE.1 _ _ _ _ _ d_Pw_run_78 rfl rfl ⟨by rw [show z.1 (z.2.1 4 j) _ = _ from hR.2.2.1]; rfl, rfl⟩
  · refine hB.tableIn d_Pw_run_32 (tgt := 79) (by decide) (by decide) rfl rfl ?_
    refine hB.aload_n d_Pw_run_79 rfl ?_
    refine hB.getI (Or.inr fa_Pw_152) d_Pw_run_80 (by omega) (sK_run (by omega) (by omega)) rfl ?_
    exact hE.1 _ _ _ _ _ d_Pw_run_83 rfl rfl ⟨by rw [show z.1 (z.2.1 4 j) _ = _ from hR.2.2.2.2.2.1]; rfl, rfl⟩
set_option maxRecDepth 100000 in
set_option maxHeartbeats 4000000 in
theorem x_run1 (l : Launch) (htl : l.stackTraces = false) (g : mG) (ad : Nat → Nat) (z : sT) (S : gS) (hS : clA z S) (x y : Int32) (hx : fWi x 0 (nI (gRs S).length - 1) = 0) : xC l y_Pw_run c_Pw_run 4 (some .int) 6 g ad [.ref (ad 0), .int x, .int y] z X_IOB (fun w => w = z) := by
  refine xC.intro htl xf_IOB rfl (by decide) (by simp [Value.category]) (Nat.le_of_ble_eq_true rfl) (fun K hB hX => ?_)
  show K 0 [some (.ref (ad 0)), some (.int x), some (.int y), none] [] z
  have hM := hS.2.2.2.2.2.2.2.2.1
  have h1 : fWi x 0 (z.1 3 1 - 1) = 0 := by rw [hM.1]; exact hx
  refine hB.aload_n d_Pw_run_0 rfl ?_
  refine hB.getC (Or.inl fa_Pw_19) d_Pw_run_1 (by decide) sK_0 rfl ?_
  refine hB.iload_n d_Pw_run_4 rfl ?_
  refine hB.callVN lk_Pw_122 cd_RL_has (k_RL_has l g ad z 3 x (Or.inl rfl)) rfl (by decide) (sK_rl (Or.inl rfl)) d_Pw_run_5 rfl rfl (by decide) (by simp [Value.category]) ?_
  rintro _ w9 ⟨rfl, hw9⟩
  have hw8 := hw9.symm
  clear hw9
  subst hw8
  rw [h1]
  refine hB.if_ne d_Pw_run_8 (tgt := 21) rfl (fun q8 => absurd rfl q8) (fun q8 => ?_)
  exact hX 11 _ 144 _ "no such run" _ _ d_Pw_run_11 d_Pw_run_14 d_Pw_run_15 d_Pw_run_17 d_Pw_run_20 rfl xk_IOB xi_IOB xa_IOB (by decide) rfl
set_option maxRecDepth 100000 in
set_option maxHeartbeats 4000000 in
theorem x_run2 (l : Launch) (htl : l.stackTraces = false) (g : mG) (ad : Nat → Nat) (z : sT) (S : gS) (hS : clA z S) (j : Nat) (y : Int32) (R : rR) (hj : (gRs S)[j]? = some R) (hy : fWi y 0 3 = 0) : xC l y_Pw_run c_Pw_run 4 (some .int) 6 g ad [.ref (ad 0), .int (nI j), .int y] z X_IAE (fun w => w = z) := by
  refine xC.intro htl xf_IAE rfl (by decide) (by simp [Value.category]) (Nat.le_of_ble_eq_true rfl) (fun K hB hX => ?_)
  show K 0 [some (.ref (ad 0)), some (.int (nI j)), some (.int y), none] [] z
  have hM := hS.2.2.2.2.2.2.2.2.1
  have h24 := hM.2.1
  have hl := (List.getElem?_eq_some_iff.mp hj).1
  have hR := hM.2.2 j R hj
  have hr := hS.2.2.2.2.2.2.2.1.1 j (by omega)
  have h1 : fWi (nI j) 0 (z.1 3 1 - 1) = 1 := by rw [hM.1]; exact fWi_of (by omega) hl
  have hrr : 30 ≤ z.2.1 (3 + 1) j ∧ z.2.1 (3 + 1) j < 78 := by
    show 30 ≤ z.2.1 4 j ∧ z.2.1 4 j < 78
    omega
  refine hB.aload_n d_Pw_run_0 rfl ?_
  refine hB.getC (Or.inl fa_Pw_19) d_Pw_run_1 (by decide) sK_0 rfl ?_
  refine hB.iload_n d_Pw_run_4 rfl ?_
  refine hB.callVN lk_Pw_122 cd_RL_has (k_RL_has l g ad z 3 (nI j) (Or.inl rfl)) rfl (by decide) (sK_rl (Or.inl rfl)) d_Pw_run_5 rfl rfl (by decide) (by simp [Value.category]) ?_
  rintro _ w9 ⟨rfl, hw9⟩
  have hw8 := hw9.symm
  clear hw9
  subst hw8
  rw [h1]
  refine hB.if_ne d_Pw_run_8 (tgt := 21) rfl (fun q8 => ?_) (fun q8 => absurd q8 (by decide))
  refine hB.aload_n d_Pw_run_21 rfl ?_
  refine hB.getC (Or.inl fa_Pw_19) d_Pw_run_22 (by decide) sK_0 rfl ?_
  refine hB.getC (Or.inr fa_Pw_131) d_Pw_run_25 (by decide) (sK_rl (Or.inl rfl)) rfl ?_
  refine hB.iload_n d_Pw_run_28 rfl ?_
  refine hB.aald4 d_Pw_run_29 (by decide) (sK_rows (Or.inl rfl)) rfl (by omega) (by decide) ?_
  rw [sRf_0]
  refine hB.astore_n d_Pw_run_30 (Nat.le_of_ble_eq_true rfl) ?_
  refine hB.iload_n d_Pw_run_31 rfl ?_
  refine hB.tableOut d_Pw_run_32 (tgt := 84) ?_ rfl ?_
  · unfold fWi at hy
    by_cases h0 : y < 0
    · exact Or.inl (Int32.lt_iff_toInt_lt.mp h0)
    · rw [if_neg h0] at hy
      by_cases h7 : 3 < y
      · exact Or.inr (Int32.lt_iff_toInt_lt.mp h7)
      · rw [if_neg h7] at hy; exact absurd hy (by decide)
  exact hX 84 _ 155 _ "what is not 0 .. 3" _ _ d_Pw_run_84 d_Pw_run_87 d_Pw_run_88 d_Pw_run_90 d_Pw_run_93 rfl xk_IAE xi_IAE xa_IAE (by decide) rfl
