def sCz (z : sT) (a b : Nat) : sT := sI (sI z 139 b (z.1 139 a)) 140 b (z.1 140 a)
def sCy (z : sT) (a b k : Nat) : sT := (fun c d => if c = 141 ∧ 24 * b ≤ d ∧ d < 24 * b + k then z.1 141 (24 * a + (d - 24 * b)) else (sCz z a b).1 c d, z.2)
theorem sCy_0 {z : sT} {a b : Nat} : sCy z a b 0 = sCz z a b := by
  unfold sCy
  refine Prod.ext ?_ rfl
  funext c d
  show (if c = 141 ∧ 24 * b ≤ d ∧ d < 24 * b + 0 then _ else _) = _
  rw [if_neg (by omega)]
theorem sCy_row {z : sT} {a b k c : Nat} (h1 : c ≠ 139) (h2 : c ≠ 140) (h3 : c ≠ 141) : (sCy z a b k).1 c = z.1 c := by
  funext d
  show (if c = 141 ∧ _ then _ else (sCz z a b).1 c d) = _
  rw [if_neg (fun q => h3 q.1)]
  unfold sCz
  rw [sI_row h2, sI_row h1]
theorem sCy_139 {z : sT} {a b k d : Nat} : (sCy z a b k).1 139 d = if d = b then z.1 139 a else z.1 139 d := by
  show (if 139 = 141 ∧ 24 * b ≤ d ∧ d < 24 * b + k then z.1 141 (24 * a + (d - 24 * b)) else (sCz z a b).1 139 d) = _
  rw [if_neg (fun q => absurd q.1 (by decide))]
  unfold sCz
  rw [sI_row (by decide)]
  by_cases h : d = b
  · rw [if_pos h, h, sI_eq]
  · rw [if_neg h, sI_ne h]
theorem sCy_140 {z : sT} {a b k d : Nat} : (sCy z a b k).1 140 d = if d = b then z.1 140 a else z.1 140 d := by
  show (if 140 = 141 ∧ 24 * b ≤ d ∧ d < 24 * b + k then z.1 141 (24 * a + (d - 24 * b)) else (sCz z a b).1 140 d) = _
  rw [if_neg (fun q => absurd q.1 (by decide))]
  unfold sCz
  by_cases h : d = b
  · rw [if_pos h, h, sI_eq]
  · rw [if_neg h, sI_ne h, sI_row (by decide)]
theorem sCy_141 {z : sT} {a b k d : Nat} : (sCy z a b k).1 141 d = if 24 * b ≤ d ∧ d < 24 * b + k then z.1 141 (24 * a + (d - 24 * b)) else z.1 141 d := by
  have e : (sCz z a b).1 141 d = z.1 141 d := by unfold sCz; rw [sI_row (by decide), sI_row (by decide)]
  show (if 141 = 141 ∧ 24 * b ≤ d ∧ d < 24 * b + k then z.1 141 (24 * a + (d - 24 * b)) else (sCz z a b).1 141 d) = _
  rw [e]
  by_cases h : 24 * b ≤ d ∧ d < 24 * b + k
  · rw [if_pos h, if_pos ⟨rfl, h⟩]
  · rw [if_neg h, if_neg (fun q => h q.2)]
theorem sCy_s {z : sT} {a b k : Nat} (hab : a ≠ b) (hk : k < 24) : sI (sCy z a b k) 141 (24 * b + k) ((sCy z a b k).1 141 (24 * a + k)) = sCy z a b (k + 1) := by
  have e1 : (sCy z a b k).1 141 (24 * a + k) = z.1 141 (24 * a + k) := by rw [sCy_141, if_neg (by omega)]
  rw [e1]
  refine Prod.ext ?_ rfl
  funext c d
  by_cases hc : c = 141
  · subst hc
    rw [sCy_141]
    by_cases hd : d = 24 * b + k
    · subst hd
      rw [sI_eq, if_pos (by omega), show 24 * b + k - 24 * b = k by omega]
    · rw [sI_ne hd, sCy_141]
      by_cases h : 24 * b ≤ d ∧ d < 24 * b + k
      · rw [if_pos h, if_pos (by omega)]
      · rw [if_neg h, if_neg (by omega)]
  · rw [sI_row hc]
    show (if c = 141 ∧ _ then _ else (sCz z a b).1 c d) = (if c = 141 ∧ _ then _ else (sCz z a b).1 c d)
    rw [if_neg (fun q => hc q.1), if_neg (fun q => hc q.1)]
def frR (z w : sT) (b : Nat) : Prop := w.2 = z.2 ∧ (∀ c, c ≠ 139 → c ≠ 140 → c ≠ 141 → w.1 c = z.1 c) ∧ (∀ c, c ≠ b → w.1 139 c = z.1 139 c ∧ w.1 140 c = z.1 140 c ∧ ∀ m, m < 24 → w.1 141 (24 * c + m) = z.1 141 (24 * c + m))
theorem mdR.fr {z w : sT} {b c : Nat} {R : rR} (h : mdR z c R) (hf : frR z w b) (hc : c ≠ b) (h24 : R.2.1 ≤ 24) : mdR w c R := by
  obtain ⟨h1, h2, h3, h4, h5⟩ := h
  obtain ⟨-, f1, f2⟩ := hf
  obtain ⟨g1, g2, g3⟩ := f2 c hc
  exact ⟨g1.trans h1, g2.trans h2, fun m hm => (g3 m (by omega)).trans (h3 m hm), by rw [f1 136 (by decide) (by decide) (by decide), f1 138 (by decide) (by decide) (by decide)]; exact h4, by rw [f1 137 (by decide) (by decide) (by decide)]; exact h5⟩
theorem sCy_fr {z : sT} {a b k : Nat} (hk : k ≤ 24) : frR z (sCy z a b k) b := by
  refine ⟨rfl, fun c c1 c2 c3 => sCy_row c1 c2 c3, fun c hc => ⟨by rw [sCy_139, if_neg hc], by rw [sCy_140, if_neg hc], fun m hm => ?_⟩⟩
  rw [sCy_141, if_neg (by omega)]
theorem sCy_R {z : sT} {a b : Nat} {R : rR} (h : mdR z a R) (h24 : R.2.1 ≤ 24) : mdR (sCy z a b R.2.1) b R := by
  obtain ⟨h1, h2, h3, h4, h5⟩ := h
  refine ⟨by rw [sCy_139, if_pos rfl]; exact h1, by rw [sCy_140, if_pos rfl]; exact h2, fun m hm => ?_, by rw [sCy_row (by decide) (by decide) (by decide), sCy_row (by decide) (by decide) (by decide)]; exact h4, by rw [sCy_row (by decide) (by decide) (by decide)]; exact h5⟩
  rw [sCy_141, if_pos (by omega), show 24 * b + m - 24 * b = m by omega]
  exact h3 m hm
set_option maxRecDepth 100000 in
set_option maxHeartbeats 4000000 in
theorem k_mCopy (l : Launch) (g : mG) (ad : Nat → Nat) (z : sT) (a b : Nat) (R : rR) (ha : a < 75) (hb : b < 75) (hab : a ≠ b) (hR : mdR z a R) (h24 : R.2.1 ≤ 24) : sC l y_Md_copy c_Md_copy 4 none 0 g ad [.ref (ad 126), .int (nI a), .int (nI b)] z (fun r w => r = none ∧ mdR w b R ∧ frR z w b) := by
  refine sC.intro (own := R_Md) rfl (by decide) (by decide) (by simp [Value.category]) (Nat.le_of_ble_eq_true rfl) (fun K hB hE => ?_)
  show K 0 [some (.ref (ad 126)), some (.int (nI a)), some (.int (nI b)), none] [] z
  have hsz : ∀ k, (sCy z a b k).1 140 a = nI R.2.1 := fun k => by rw [sCy_140, if_neg hab]; exact hR.2.1
  have h26 : ∀ f k : Nat, k + f = R.2.1 → K 26 [some (.ref (ad 126)), some (.int (nI a)), some (.int (nI b)), some (.int (nI k))] [] (sCy z a b k) := by
    intro f
    induction f with
    | zero =>
      intro k hk
      have hkR : k = R.2.1 := hk
      subst hkR
      refine hB.iload_n d_Md_copy_26 rfl ?_
      refine hB.aload_n d_Md_copy_27 rfl ?_
      refine hB.getC (Or.inl fa_Md_55) d_Md_copy_28 (by decide) sK_126 rfl ?_
      refine hB.iload_n d_Md_copy_31 rfl ?_
      refine hB.iald d_Md_copy_32 (by decide) rfl rfl (by omega) (by decide) ?_
      rw [hsz R.2.1]
      refine hB.icmp_ge d_Md_copy_33 (tgt := 64) rfl (fun q33 => ?_) (fun q33 => absurd (nI_le (Nat.le_refl _) (by omega)) q33)
      exact hE.2.2 _ _ _ d_Md_copy_64 rfl ⟨rfl, sCy_R hR h24, sCy_fr h24⟩
    | succ f ih =>
      intro k hk
      refine hB.iload_n d_Md_copy_26 rfl ?_
      refine hB.aload_n d_Md_copy_27 rfl ?_
      refine hB.getC (Or.inl fa_Md_55) d_Md_copy_28 (by decide) sK_126 rfl ?_
      refine hB.iload_n d_Md_copy_31 rfl ?_
      refine hB.iald d_Md_copy_32 (by decide) rfl rfl (by omega) (by decide) ?_
      rw [hsz k]
      refine hB.icmp_ge d_Md_copy_33 (tgt := 64) rfl (fun q33 => absurd q33 (nI_ge (by omega) (by omega))) (fun q33 => ?_)
      refine hB.aload_n d_Md_copy_36 rfl ?_
      refine hB.getC (Or.inl fa_Md_58) d_Md_copy_37 (by decide) sK_126 rfl ?_
      refine hB.bipush d_Md_copy_40 (v := 24) rfl ?_
      refine hB.iload_n d_Md_copy_42 rfl ?_
      refine hB.imul d_Md_copy_43 ?_
      refine hB.iload_n d_Md_copy_44 rfl ?_
      refine hB.iadd d_Md_copy_45 ?_
      refine hB.aload_n d_Md_copy_46 rfl ?_
      refine hB.getC (Or.inl fa_Md_58) d_Md_copy_47 (by decide) sK_126 rfl ?_
      refine hB.bipush d_Md_copy_50 (v := 24) rfl ?_
      refine hB.iload_n d_Md_copy_52 rfl ?_
      refine hB.imul d_Md_copy_53 ?_
      refine hB.iload_n d_Md_copy_54 rfl ?_
      refine hB.iadd d_Md_copy_55 ?_
      refine hB.iald d_Md_copy_56 (by decide) rfl mul24 (by omega) (by decide) ?_
      refine hB.iast d_Md_copy_57 (by decide) rfl mul24 (by omega) (by decide) ?_
      rw [sCy_s hab (by omega)]
      refine hB.iinc d_Md_copy_58 rfl (v := nI (k + 1)) (nI_succ k).symm ?_
      refine hB.goto d_Md_copy_61 (tgt := 26) rfl ?_
      exact ih (k + 1) (by omega)
  refine hB.aload_n d_Md_copy_0 rfl ?_
  refine hB.getC (Or.inl fa_Md_52) d_Md_copy_1 (by decide) sK_126 rfl ?_
  refine hB.iload_n d_Md_copy_4 rfl ?_
  refine hB.aload_n d_Md_copy_5 rfl ?_
  refine hB.getC (Or.inl fa_Md_52) d_Md_copy_6 (by decide) sK_126 rfl ?_
  refine hB.iload_n d_Md_copy_9 rfl ?_
  refine hB.iald d_Md_copy_10 (by decide) rfl rfl (by omega) (by decide) ?_
  refine hB.iast d_Md_copy_11 (by decide) rfl rfl (by omega) (by decide) ?_
  refine hB.aload_n d_Md_copy_12 rfl ?_
  refine hB.getC (Or.inl fa_Md_55) d_Md_copy_13 (by decide) sK_126 rfl ?_
  refine hB.iload_n d_Md_copy_16 rfl ?_
  refine hB.aload_n d_Md_copy_17 rfl ?_
  refine hB.getC (Or.inl fa_Md_55) d_Md_copy_18 (by decide) sK_126 rfl ?_
  refine hB.iload_n d_Md_copy_21 rfl ?_
  refine hB.iald d_Md_copy_22 (by decide) rfl rfl (by omega) (by decide) ?_
  rw [sI_row (by decide)]
  refine hB.iast d_Md_copy_23 (by decide) rfl rfl (by omega) (by decide) ?_
  refine hB.iconst d_Md_copy_24 (v := 0) rfl ?_
  refine hB.istore_n d_Md_copy_25 (Nat.le_of_ble_eq_true rfl) ?_
  have h9 := h26 R.2.1 0 (by omega)
  rw [sCy_0] at h9
  exact h9
def sTa (z : sT) (a c n s : Nat) : sT := sI (sI (sI z 141 (24 * a + c) (nI n)) 140 a (nI (c + 1))) 139 a (nI s)
theorem sTa_fr {z : sT} {a c n s : Nat} (hc : c < 24) : frR z (sTa z a c n s) a := by
  refine ⟨rfl, fun q q1 q2 q3 => by unfold sTa; rw [sI_row q1, sI_row q2, sI_row q3], fun q hq => ⟨by unfold sTa; rw [sI_ne hq, sI_row (by decide), sI_row (by decide)], by unfold sTa; rw [sI_row (by decide), sI_ne hq, sI_row (by decide)], fun m hm => ?_⟩⟩
  unfold sTa
  rw [sI_row (by decide), sI_row (by decide), sI_ne (by omega)]
theorem sTa_R {z : sT} {a n s : Nat} {R : rR} {va : Int32} (h : mdR z a R) (h1 : 1 ≤ R.2.1) (h24 : R.2.1 < 24) (hn : n < 520) (hv : z.1 137 n = va) : mdR (sTa z a R.2.1 n s) a (rTk R (nI n) va s) := by
  obtain ⟨g1, g2, g3, g4, g5⟩ := h
  have row : ∀ q, q ≠ 139 → q ≠ 140 → q ≠ 141 → (sTa z a R.2.1 n s).1 q = z.1 q := fun q q1 q2 q3 => by unfold sTa; rw [sI_row q1, sI_row q2, sI_row q3]
  refine ⟨by unfold sTa; rw [sI_eq]; rfl, by unfold sTa; rw [sI_row (by decide), sI_eq]; rfl, fun m hm => ?_, fun e he hq => ?_, fun e he hq => ?_⟩
  · unfold sTa
    rw [sI_row (by decide), sI_row (by decide)]
    show (sI z 141 (24 * a + R.2.1) (nI n)).1 141 (24 * a + m) = upd R.2.2.1 R.2.1 (nI n) m
    unfold upd
    by_cases hmm : m = R.2.1
    · subst hmm
      rw [sI_eq, if_pos rfl]
    · rw [sI_ne (by omega), if_neg hmm]
      have : m < R.2.1 + 1 := hm
      exact g3 m (by omega)
  · rw [row 136 (by decide) (by decide) (by decide), row 138 (by decide) (by decide) (by decide)]
    have hq2 : upd R.2.2.1 R.2.1 (nI n) 0 = nI e := hq
    unfold upd at hq2
    rw [if_neg (by omega)] at hq2
    exact g4 e he hq2
  · rw [row 137 (by decide) (by decide) (by decide)]
    have hq2 : upd R.2.2.1 R.2.1 (nI n) (R.2.1 + 1 - 1) = nI e := hq
    unfold upd at hq2
    rw [if_pos (by omega)] at hq2
    have : n = e := (nI_eq (by omega) (by omega)).mp hq2
    subst this
    exact hv
set_option maxRecDepth 100000 in
set_option maxHeartbeats 4000000 in
theorem k_mTake (l : Launch) (g : mG) (ad : Nat → Nat) (z : sT) (a c n s d : Nat) (ha : a < 75) (hc : c < 24) (h140 : z.1 140 a = nI c) (h139 : z.1 139 a = nI s) : sC l y_Md_take c_Md_take 4 none 0 g ad [.ref (ad 126), .int (nI a), .int (nI n), .int (nI d)] z (fun r w => r = none ∧ w = sTa z a c n (s + d)) := by
  refine sC.intro (own := R_Md) rfl (by decide) (by decide) (by simp [Value.category]) (Nat.le_of_ble_eq_true rfl) (fun K hB hE => ?_)
  show K 0 [some (.ref (ad 126)), some (.int (nI a)), some (.int (nI n)), some (.int (nI d))] [] z
  refine hB.aload_n d_Md_take_0 rfl ?_
  refine hB.getC (Or.inl fa_Md_58) d_Md_take_1 (by decide) sK_126 rfl ?_
  refine hB.bipush d_Md_take_4 (v := 24) rfl ?_
  refine hB.iload_n d_Md_take_6 rfl ?_
  refine hB.imul d_Md_take_7 ?_
  refine hB.aload_n d_Md_take_8 rfl ?_
  refine hB.getC (Or.inl fa_Md_55) d_Md_take_9 (by decide) sK_126 rfl ?_
  refine hB.iload_n d_Md_take_12 rfl ?_
  refine hB.iald d_Md_take_13 (by decide) rfl rfl (by omega) (by decide) ?_
  refine hB.iadd d_Md_take_14 ?_
  have e16 : (24 : Int32) * nI a + z.1 140 a = nI (24 * a + c) := by rw [h140]; exact mul24
  refine hB.iload_n d_Md_take_15 rfl ?_
  refine hB.iast d_Md_take_16 (by decide) rfl e16 (by omega) (by decide) ?_
  refine hB.aload_n d_Md_take_17 rfl ?_
  refine hB.getC (Or.inl fa_Md_55) d_Md_take_18 (by decide) sK_126 rfl ?_
  refine hB.iload_n d_Md_take_21 rfl ?_
  refine hB.dup2 d_Md_take_22 rfl rfl ?_
  refine hB.iald d_Md_take_23 (by decide) rfl rfl (by omega) (by decide) ?_
  refine hB.iconst d_Md_take_24 (v := 1) rfl ?_
  refine hB.iadd d_Md_take_25 ?_
  rw [sI_row (by decide), h140, ← nI_succ]
  refine hB.iast d_Md_take_26 (by decide) rfl rfl (by omega) (by decide) ?_
  refine hB.aload_n d_Md_take_27 rfl ?_
  refine hB.getC (Or.inl fa_Md_52) d_Md_take_28 (by decide) sK_126 rfl ?_
  refine hB.iload_n d_Md_take_31 rfl ?_
  refine hB.dup2 d_Md_take_32 rfl rfl ?_
  refine hB.iald d_Md_take_33 (by decide) rfl rfl (by omega) (by decide) ?_
  refine hB.iload_n d_Md_take_34 rfl ?_
  refine hB.iadd d_Md_take_35 ?_
  rw [sI_row (by decide), sI_row (by decide), h139, nI_add]
  refine hB.iast d_Md_take_36 (by decide) rfl rfl (by omega) (by decide) ?_
  exact hE.2.2 _ _ _ d_Md_take_37 rfl ⟨rfl, rfl⟩
