theorem vp_bZ {x : Int32} (h : bZ x) : vp_nar .boolean x = x := by rcases h with rfl | rfl <;> rfl
theorem stO_s (els : Nat → pE) (k : Nat) : stO els (k + 1) = stO els k ++ (if (els k).1 = 0 then [k] else []) := by
  have h := stO_succ els k (els k)
  rw [uE_same rfl] at h
  exact h
def adL (z w : sT) (K : Nat) (els : Nat → pE) (j : Nat) : Prop := w.2 = z.2 ∧ (∀ a, (a < 126 ∨ a = 127) → w.1 a = z.1 a) ∧ (∀ i, i ≠ 4 → i ≠ 16 → w.1 126 i = z.1 126 i) ∧ w.1 126 4 = nI K ∧ w.1 126 16 = nI (stO els j).length ∧ (∀ s x, (stO els j)[s]? = some x → w.1 134 s = nI x) ∧ (∀ i, i < K → mdE w (8 + i) (els i)) ∧ (∀ i, i < j → mdE w i (els i))
def sAd (w : sT) (j : Nat) : sT := sI (sI (sI (sI (sI (sI w 128 j (w.1 128 (8 + j))) 129 j (w.1 129 (8 + j))) 130 j (w.1 130 (8 + j))) 131 j (w.1 131 (8 + j))) 132 j (w.1 132 (8 + j))) 133 j (w.1 133 (8 + j))
theorem sAd_row {w : sT} {j a : Nat} (h : a < 128 ∨ 133 < a) : (sAd w j).1 a = w.1 a := by
  unfold sAd
  rw [sI_row (by omega), sI_row (by omega), sI_row (by omega), sI_row (by omega), sI_row (by omega), sI_row (by omega)]
theorem sAd_ne {w : sT} {j a i : Nat} (h : i ≠ j) : (sAd w j).1 a i = w.1 a i := by
  unfold sAd
  rw [sI_ne h, sI_ne h, sI_ne h, sI_ne h, sI_ne h, sI_ne h]
theorem sAd_at {w : sT} {j : Nat} {E : pE} (h : mdE w (8 + j) E) : mdE (sAd w j) j E := by
  obtain ⟨m1, m2, m3, m4, m5, m6⟩ := h
  refine ⟨?_, ?_, ?_, ?_, ?_, ?_⟩
  · rw [← m1]; simp [sAd, sI]
  · rw [← m2]; simp [sAd, sI]
  · rw [← m3]; simp [sAd, sI]
  · rw [← m4]; simp [sAd, sI]
  · rw [← m5]; simp [sAd, sI]
  · rw [← m6]; simp [sAd, sI]
theorem mdE.fr {z w : sT} {i : Nat} {E : pE} (h : mdE z i E) (hw : ∀ a, 128 ≤ a → a ≤ 133 → w.1 a i = z.1 a i) : mdE w i E := by
  obtain ⟨m1, m2, m3, m4, m5, m6⟩ := h
  exact ⟨by rw [hw 128 (by omega) (by omega)]; exact m1, by rw [hw 129 (by omega) (by omega)]; exact m2, by rw [hw 130 (by omega) (by omega)]; exact m3, by rw [hw 131 (by omega) (by omega)]; exact m4, by rw [hw 132 (by omega) (by omega)]; exact m5, by rw [hw 133 (by omega) (by omega)]; exact m6⟩
theorem adL.step1 {z w : sT} {K j : Nat} {els : Nat → pE} (h : adL z w K els j) (hj : j < K) (hK : K ≤ 8) (hb : ¬ (els j).1 = 0) : adL z (sAd w j) K els (j + 1) := by
  obtain ⟨a1, a2, a3, a4, a5, a6, a7, a8⟩ := h
  have e : stO els (j + 1) = stO els j := by rw [stO_s, if_neg hb, List.append_nil]
  refine ⟨a1, fun a ha => by rw [sAd_row (by omega)]; exact a2 a ha, fun i i1 i2 => by rw [sAd_row (by omega)]; exact a3 i i1 i2, by rw [sAd_row (by omega)]; exact a4, by rw [sAd_row (by omega), e]; exact a5, fun s x hs => by rw [sAd_row (by omega)]; rw [e] at hs; exact a6 s x hs, fun i hi => (a7 i hi).fr (fun a _ _ => sAd_ne (by omega)), fun i hi => ?_⟩
  by_cases hij : i = j
  · subst hij
    exact sAd_at (a7 i hj)
  · exact (a8 i (by omega)).fr (fun a _ _ => sAd_ne hij)
theorem adL.step2 {z w : sT} {K j : Nat} {els : Nat → pE} (h : adL z w K els j) (hj : j < K) (hK : K ≤ 8) (hb : (els j).1 = 0) : adL z (sI (sI (sAd w j) 134 (stO els j).length (nI j)) 126 16 (nI ((stO els j).length + 1))) K els (j + 1) := by
  obtain ⟨a1, a2, a3, a4, a5, a6, a7, a8⟩ := h
  have e : stO els (j + 1) = stO els j ++ [j] := by rw [stO_s, if_pos hb]
  have row : ∀ a, a ≠ 126 → a ≠ 134 → (sI (sI (sAd w j) 134 (stO els j).length (nI j)) 126 16 (nI ((stO els j).length + 1))).1 a = (sAd w j).1 a := fun a q1 q2 => by rw [sI_row q1, sI_row q2]
  have r126 : ∀ i, i ≠ 16 → (sI (sI (sAd w j) 134 (stO els j).length (nI j)) 126 16 (nI ((stO els j).length + 1))).1 126 i = w.1 126 i := fun i hi => by rw [sI_ne hi, sI_row (by omega), sAd_row (by omega)]
  refine ⟨a1, fun a ha => by rw [row a (by omega) (by omega), sAd_row (by omega)]; exact a2 a ha, fun i i1 i2 => by rw [r126 i i2]; exact a3 i i1 i2, by rw [r126 4 (by omega)]; exact a4, by rw [sI_eq, e]; simp, fun s x hs => ?_, fun i hi => (a7 i hi).fr (fun a q1 q2 => by rw [row a (by omega) (by omega)]; exact sAd_ne (by omega)), fun i hi => ?_⟩
  · rw [sI_row (by omega)]
    rw [e] at hs
    by_cases hl : s = (stO els j).length
    · subst hl
      rw [List.getElem?_append_right (Nat.le_refl _), Nat.sub_self] at hs
      cases hs
      exact sI_eq
    · rw [sI_ne hl, sAd_row (by omega)]
      refine a6 s x ?_
      have hl2 := (List.getElem?_eq_some_iff.mp hs).1
      rw [List.length_append] at hl2
      have : s < (stO els j).length := by
        have : s < (stO els j).length + 1 := hl2
        omega
      rw [List.getElem?_append_left this] at hs
      exact hs
  · by_cases hij : i = j
    · subst hij
      exact (sAd_at (a7 i hj)).fr (fun a q1 q2 => by rw [row a (by omega) (by omega)])
    · exact (a8 i (by omega)).fr (fun a q1 q2 => by rw [row a (by omega) (by omega)]; exact sAd_ne hij)
def adP (z w : sT) (K : Nat) (els : Nat → pE) (p : Int32 × Int32) : Prop := w.2 = z.2 ∧ (∀ a, (a < 126 ∨ a = 127) → w.1 a = z.1 a) ∧ (∀ i, i < 4 → w.1 126 i = z.1 126 i) ∧ w.1 126 4 = nI K ∧ w.1 126 16 = nI (stO els K).length ∧ (∀ s x, (stO els K)[s]? = some x → w.1 134 s = nI x) ∧ (∀ i, i < K → mdE w i (els i)) ∧ w.1 126 12 = p.1 ∧ w.1 126 14 = p.2 ∧ w.1 126 18 = 0 ∧ w.1 126 19 = 0 ∧ w.1 126 24 = 0 ∧ w.1 126 30 = 0 ∧ w.1 126 33 = 0 ∧ w.1 126 34 = 0 ∧ w.1 126 35 = 0 ∧ w.1 126 36 = 0
def sAe (w : sT) (x y : Int32) : sT := sI (sI (sI (sI (sI (sI (sI (sI (sI (sI w 126 12 x) 126 14 y) 126 18 0) 126 19 0) 126 24 0) 126 30 0) 126 33 0) 126 34 0) 126 35 0) 126 36 0
theorem sAe_row {w : sT} {x y : Int32} {a : Nat} (h : a ≠ 126) : (sAe w x y).1 a = w.1 a := by
  unfold sAe
  rw [sI_row h, sI_row h, sI_row h, sI_row h, sI_row h, sI_row h, sI_row h, sI_row h, sI_row h, sI_row h]
theorem adL.fin {z w : sT} {K s : Nat} {els : Nat → pE} {p : Int32 × Int32} (h : adL z w K els K) (hQ : mdQ z (s, K, els, p)) : adP z (sAe w p.1 p.2) K els p := by
  obtain ⟨a1, a2, a3, a4, a5, a6, a7, a8⟩ := h
  refine ⟨a1, fun a ha => by rw [sAe_row (by omega)]; exact a2 a ha, fun i hi => ?_, ?_, ?_, fun s x hs => by rw [sAe_row (by omega)]; exact a6 s x hs, fun i hi => (a8 i hi).fr (fun a q1 q2 => by rw [sAe_row (by omega)]), ?_, ?_, ?_, ?_, ?_, ?_, ?_, ?_, ?_, ?_⟩
  · have e : (sAe w p.1 p.2).1 126 i = w.1 126 i := by
      unfold sAe
      rw [sI_ne (by omega), sI_ne (by omega), sI_ne (by omega), sI_ne (by omega), sI_ne (by omega), sI_ne (by omega), sI_ne (by omega), sI_ne (by omega), sI_ne (by omega), sI_ne (by omega)]
    rw [e]
    exact a3 i (by omega) (by omega)
  · rw [← a4]; simp [sAe, sI]
  · rw [← a5]; simp [sAe, sI]
  all_goals simp [sAe, sI]
set_option maxRecDepth 100000 in
set_option maxHeartbeats 4000000 in
theorem k_Md_adopt (l : Launch) (g : mG) (ad : Nat → Nat) (z : sT) (s K9 : Nat) (els : Nat → pE) (p : Int32 × Int32) (hQ : mdQ z (s, K9, els, p)) (hL : wL K9 els) (hp1 : bZ p.1) : sC l y_Md_adopt c_Md_adopt 2 none 0 g ad [.ref (ad 126)] z (fun r w => r = none ∧ adP z w K9 els p) := by
  refine sC.intro (own := R_Md) rfl (by decide) (by decide) (by simp [Value.category]) (Nat.le_of_ble_eq_true rfl) (fun K hB hE => ?_)
  show K 0 [some (.ref (ad 126)), none] [] z
  have hK : K9 ≤ 8 := hQ.2.1
  have h15 : ∀ (f j : Nat) (w : sT), j + f = K9 → adL z w K9 els j → K 15 [some (.ref (ad 126)), some (.int (nI j))] [] w := by
    intro f
    induction f with
    | zero =>
      intro j w hj hw
      have hjK : j = K9 := hj
      subst hjK
      have e13 : w.1 126 13 = p.1 := (hw.2.2.1 13 (by omega) (by omega)).trans hQ.2.2.2.1
      have e15 : w.1 126 15 = p.2 := (hw.2.2.1 15 (by omega) (by omega)).trans hQ.2.2.2.2
      refine hB.iload_n d_Md_adopt_15 rfl ?_
      refine hB.aload_n d_Md_adopt_16 rfl ?_
      refine hB.getI (Or.inl fa_Md_105) d_Md_adopt_17 (by decide) sK_126 rfl ?_
      rw [hw.2.2.2.1]
      refine hB.icmp_ge d_Md_adopt_20 (tgt := 148) rfl (fun q20 => ?_) (fun q20 => absurd (nI_le (Nat.le_refl _) (by omega)) q20)
      refine hB.aload_n d_Md_adopt_148 rfl ?_
      refine hB.aload_n d_Md_adopt_149 rfl ?_
      refine hB.getI (Or.inl fa_Md_76) d_Md_adopt_150 (by decide) sK_126 rfl ?_
      rw [e13]
      refine hB.putI (Or.inl fa_Md_111) d_Md_adopt_153 (by decide) sK_126 rfl (by rcases hp1 with q | q <;> rw [q] <;> rfl) (by rcases hp1 with q | q <;> rw [q] <;> rfl) ?_
      refine hB.aload_n d_Md_adopt_156 rfl ?_
      refine hB.aload_n d_Md_adopt_157 rfl ?_
      refine hB.getI (Or.inl fa_Md_98) d_Md_adopt_158 (by decide) sK_126 rfl ?_
      rw [sI_ne (by decide), e15]
      refine hB.putI (Or.inl fa_Md_114) d_Md_adopt_161 (by decide) sK_126 rfl rfl rfl ?_
      refine hB.aload_n d_Md_adopt_164 rfl ?_
      refine hB.iconst d_Md_adopt_165 (v := 0) rfl ?_
      refine hB.putI (Or.inl fa_Md_117) d_Md_adopt_166 (by decide) sK_126 rfl rfl rfl ?_
      refine hB.aload_n d_Md_adopt_169 rfl ?_
      refine hB.iconst d_Md_adopt_170 (v := 0) rfl ?_
      refine hB.putI (Or.inl fa_Md_120) d_Md_adopt_171 (by decide) sK_126 rfl rfl rfl ?_
      refine hB.aload_n d_Md_adopt_174 rfl ?_
      refine hB.iconst d_Md_adopt_175 (v := 0) rfl ?_
      refine hB.putI (Or.inl fa_Md_123) d_Md_adopt_176 (by decide) sK_126 rfl rfl rfl ?_
      refine hB.aload_n d_Md_adopt_179 rfl ?_
      refine hB.iconst d_Md_adopt_180 (v := 0) rfl ?_
      refine hB.putI (Or.inl fa_Md_126) d_Md_adopt_181 (by decide) sK_126 rfl rfl rfl ?_
      refine hB.aload_n d_Md_adopt_184 rfl ?_
      refine hB.iconst d_Md_adopt_185 (v := 0) rfl ?_
      refine hB.putI (Or.inl fa_Md_129) d_Md_adopt_186 (by decide) sK_126 rfl rfl rfl ?_
      refine hB.aload_n d_Md_adopt_189 rfl ?_
      refine hB.iconst d_Md_adopt_190 (v := 0) rfl ?_
      refine hB.putI (Or.inl fa_Md_132) d_Md_adopt_191 (by decide) sK_126 rfl rfl rfl ?_
      refine hB.aload_n d_Md_adopt_194 rfl ?_
      refine hB.iconst d_Md_adopt_195 (v := 0) rfl ?_
      refine hB.putI (Or.inl fa_Md_135) d_Md_adopt_196 (by decide) sK_126 rfl rfl rfl ?_
      refine hB.aload_n d_Md_adopt_199 rfl ?_
      refine hB.iconst d_Md_adopt_200 (v := 0) rfl ?_
      refine hB.putI (Or.inl fa_Md_138) d_Md_adopt_201 (by decide) sK_126 rfl rfl rfl ?_
      exact hE.2.2 _ _ _ d_Md_adopt_204 rfl ⟨rfl, hw.fin hQ⟩
    | succ f ih =>
      intro j w hj hw
      have h142 : ∀ w9 : sT, adL z w9 K9 els (j + 1) → K 142 [some (.ref (ad 126)), some (.int (nI j))] [] w9 := by
        intro w9 hw9
        refine hB.iinc d_Md_adopt_142 rfl (v := nI (j + 1)) (nI_succ j).symm ?_
        refine hB.goto d_Md_adopt_145 (tgt := 15) rfl ?_
        exact ih (j + 1) w9 (by omega) hw9
      refine hB.iload_n d_Md_adopt_15 rfl ?_
      refine hB.aload_n d_Md_adopt_16 rfl ?_
      refine hB.getI (Or.inl fa_Md_105) d_Md_adopt_17 (by decide) sK_126 rfl ?_
      rw [hw.2.2.2.1]
      refine hB.icmp_ge d_Md_adopt_20 (tgt := 148) rfl (fun q20 => absurd q20 (nI_ge (by omega) (by omega))) (fun q20 => ?_)
      refine hB.aload_n d_Md_adopt_23 rfl ?_
      refine hB.getC (Or.inl fa_Md_17) d_Md_adopt_24 (by decide) sK_126 rfl ?_
      refine hB.iload_n d_Md_adopt_27 rfl ?_
      refine hB.aload_n d_Md_adopt_28 rfl ?_
      refine hB.getC (Or.inl fa_Md_17) d_Md_adopt_29 (by decide) sK_126 rfl ?_
      refine hB.bipush d_Md_adopt_32 (v := 8) rfl ?_
      refine hB.iload_n d_Md_adopt_34 rfl ?_
      have e8 : (8 : Int32) + nI j = nI (8 + j) := nI_add 8 j
      obtain ⟨m1, m2, m3, m4, m5, m6⟩ := hw.2.2.2.2.2.2.1 j (by omega)
      obtain ⟨⟨qc, hqc, hqe⟩, b1, b2, b3, -⟩ := hL.1 j (by omega)
      refine hB.iadd d_Md_adopt_35 ?_
      refine hB.cald d_Md_adopt_36 (by decide) rfl e8 (by omega) (by decide) ?_
      refine hB.cast d_Md_adopt_37 (by decide) rfl rfl (by omega) (by decide) (by rw [m1, hqe]; exact vp_char hqc) ?_
      refine hB.aload_n d_Md_adopt_38 rfl ?_
      refine hB.getC (Or.inl fa_Md_20) d_Md_adopt_39 (by decide) sK_126 rfl ?_
      refine hB.iload_n d_Md_adopt_42 rfl ?_
      refine hB.aload_n d_Md_adopt_43 rfl ?_
      refine hB.getC (Or.inl fa_Md_20) d_Md_adopt_44 (by decide) sK_126 rfl ?_
      refine hB.bipush d_Md_adopt_47 (v := 8) rfl ?_
      refine hB.iload_n d_Md_adopt_49 rfl ?_
      refine hB.iadd d_Md_adopt_50 ?_
      refine hB.zald d_Md_adopt_51 (by decide) rfl e8 (by omega) (by decide) ?_
      rw [sI_row (by decide)]
      refine hB.zast d_Md_adopt_52 (by decide) rfl rfl (by omega) (by decide) (by rw [m2]; exact vp_bZ b1) ?_
      refine hB.aload_n d_Md_adopt_53 rfl ?_
      refine hB.getC (Or.inl fa_Md_24) d_Md_adopt_54 (by decide) sK_126 rfl ?_
      refine hB.iload_n d_Md_adopt_57 rfl ?_
      refine hB.aload_n d_Md_adopt_58 rfl ?_
      refine hB.getC (Or.inl fa_Md_24) d_Md_adopt_59 (by decide) sK_126 rfl ?_
      refine hB.bipush d_Md_adopt_62 (v := 8) rfl ?_
      refine hB.iload_n d_Md_adopt_64 rfl ?_
      refine hB.iadd d_Md_adopt_65 ?_
      refine hB.zald d_Md_adopt_66 (by decide) rfl e8 (by omega) (by decide) ?_
      rw [sI_row (by decide), sI_row (by decide)]
      refine hB.zast d_Md_adopt_67 (by decide) rfl rfl (by omega) (by decide) (by rw [m3]; exact vp_bZ b2) ?_
      refine hB.aload_n d_Md_adopt_68 rfl ?_
      refine hB.getC (Or.inl fa_Md_27) d_Md_adopt_69 (by decide) sK_126 rfl ?_
      refine hB.iload_n d_Md_adopt_72 rfl ?_
      refine hB.aload_n d_Md_adopt_73 rfl ?_
      refine hB.getC (Or.inl fa_Md_27) d_Md_adopt_74 (by decide) sK_126 rfl ?_
      refine hB.bipush d_Md_adopt_77 (v := 8) rfl ?_
      refine hB.iload_n d_Md_adopt_79 rfl ?_
      refine hB.iadd d_Md_adopt_80 ?_
      refine hB.iald d_Md_adopt_81 (by decide) rfl e8 (by omega) (by decide) ?_
      rw [sI_row (by decide), sI_row (by decide), sI_row (by decide)]
      refine hB.iast d_Md_adopt_82 (by decide) rfl rfl (by omega) (by decide) ?_
      refine hB.aload_n d_Md_adopt_83 rfl ?_
      refine hB.getC (Or.inl fa_Md_31) d_Md_adopt_84 (by decide) sK_126 rfl ?_
      refine hB.iload_n d_Md_adopt_87 rfl ?_
      refine hB.aload_n d_Md_adopt_88 rfl ?_
      refine hB.getC (Or.inl fa_Md_31) d_Md_adopt_89 (by decide) sK_126 rfl ?_
      refine hB.bipush d_Md_adopt_92 (v := 8) rfl ?_
      refine hB.iload_n d_Md_adopt_94 rfl ?_
      refine hB.iadd d_Md_adopt_95 ?_
      refine hB.zald d_Md_adopt_96 (by decide) rfl e8 (by omega) (by decide) ?_
      rw [sI_row (by decide), sI_row (by decide), sI_row (by decide), sI_row (by decide)]
      refine hB.zast d_Md_adopt_97 (by decide) rfl rfl (by omega) (by decide) (by rw [m5]; exact vp_bZ b3) ?_
      refine hB.aload_n d_Md_adopt_98 rfl ?_
      refine hB.getC (Or.inl fa_Md_34) d_Md_adopt_99 (by decide) sK_126 rfl ?_
      refine hB.iload_n d_Md_adopt_102 rfl ?_
      refine hB.aload_n d_Md_adopt_103 rfl ?_
      refine hB.getC (Or.inl fa_Md_34) d_Md_adopt_104 (by decide) sK_126 rfl ?_
      refine hB.bipush d_Md_adopt_107 (v := 8) rfl ?_
      refine hB.iload_n d_Md_adopt_109 rfl ?_
      refine hB.iadd d_Md_adopt_110 ?_
      refine hB.iald d_Md_adopt_111 (by decide) rfl e8 (by omega) (by decide) ?_
      rw [sI_row (by decide), sI_row (by decide), sI_row (by decide), sI_row (by decide), sI_row (by decide)]
      refine hB.iast d_Md_adopt_112 (by decide) rfl rfl (by omega) (by decide) ?_
      show K 113 _ _ (sAd w j)
      refine hB.aload_n d_Md_adopt_113 rfl ?_
      refine hB.getC (Or.inl fa_Md_20) d_Md_adopt_114 (by decide) sK_126 rfl ?_
      refine hB.iload_n d_Md_adopt_117 rfl ?_
      refine hB.zald d_Md_adopt_118 (by decide) rfl rfl (by omega) (by decide) ?_
      have e129 : (sAd w j).1 129 j = (els j).1 := (sAd_at (hw.2.2.2.2.2.2.1 j (by omega))).2.1
      rw [e129]
      refine hB.if_ne d_Md_adopt_119 (tgt := 142) rfl (fun q119 => ?_) (fun q119 => ?_)
      · first
          | exact h142 _ (hw.step1 (by omega) hK q119)
          | exact h142 _ (hw.step2 (by omega) hK q119)
      · refine hB.aload_n d_Md_adopt_122 rfl ?_
        refine hB.getC (Or.inl fa_Md_37) d_Md_adopt_123 (by decide) sK_126 rfl ?_
        refine hB.aload_n d_Md_adopt_126 rfl ?_
        refine hB.getI (Or.inl fa_Md_108) d_Md_adopt_127 (by decide) sK_126 rfl ?_
        refine hB.iload_n d_Md_adopt_130 rfl ?_
        have e16 : (sAd w j).1 126 16 = nI (stO els j).length := by rw [sAd_row (by omega)]; exact hw.2.2.2.2.1
        have hsl := stO_len els j
        refine hB.iast d_Md_adopt_131 (by decide) rfl e16 (by omega) (by decide) ?_
        refine hB.aload_n d_Md_adopt_132 rfl ?_
        refine hB.dup d_Md_adopt_133 rfl ?_
        refine hB.getI (Or.inl fa_Md_108) d_Md_adopt_134 (by decide) sK_126 rfl ?_
        rw [sI_row (by decide), e16]
        refine hB.iconst d_Md_adopt_137 (v := 1) rfl ?_
        refine hB.iadd d_Md_adopt_138 ?_
        rw [← nI_succ]
        refine hB.putI (Or.inl fa_Md_108) d_Md_adopt_139 (by decide) sK_126 rfl rfl rfl ?_
        first
          | exact h142 _ (hw.step1 (by omega) hK q119)
          | exact h142 _ (hw.step2 (by omega) hK q119)
  refine hB.aload_n d_Md_adopt_0 rfl ?_
  refine hB.aload_n d_Md_adopt_1 rfl ?_
  refine hB.getI (Or.inl fa_Md_73) d_Md_adopt_2 (by decide) sK_126 rfl ?_
  refine hB.putI (Or.inl fa_Md_105) d_Md_adopt_5 (by decide) sK_126 rfl rfl rfl ?_
  refine hB.aload_n d_Md_adopt_8 rfl ?_
  refine hB.iconst d_Md_adopt_9 (v := 0) rfl ?_
  refine hB.putI (Or.inl fa_Md_108) d_Md_adopt_10 (by decide) sK_126 rfl rfl rfl ?_
  refine hB.iconst d_Md_adopt_13 (v := 0) rfl ?_
  refine hB.istore_n d_Md_adopt_14 (Nat.le_of_ble_eq_true rfl) ?_
  refine h15 K9 0 _ (by omega) ⟨rfl, fun a ha => by rw [sI_row (by omega), sI_row (by omega)], fun i i1 i2 => by rw [sI_ne i2, sI_ne i1], ?_, sI_eq, fun s x hs => by simp [stO] at hs, fun i hi => (hQ.2.2.1 i hi).fr (fun a q1 q2 => by rw [sI_row (by omega), sI_row (by omega)]), fun i hi => absurd hi (Nat.not_lt_zero i)⟩
  rw [sI_ne (by omega), sI_eq]
  exact hQ.1
