def sPy (z : sT) (i m k : Nat) : sT := (fun c d => if c = 143 ∧ 24 * m ≤ d ∧ d < 24 * m + k then z.1 141 (24 * i + (d - 24 * m)) else z.1 c d, z.2)
theorem sPy_0 {z : sT} {i m : Nat} : sPy z i m 0 = z := by
  unfold sPy
  refine Prod.ext ?_ rfl
  funext c d
  show (if c = 143 ∧ 24 * m ≤ d ∧ d < 24 * m + 0 then z.1 141 (24 * i + (d - 24 * m)) else z.1 c d) = z.1 c d
  rw [if_neg (by omega)]
theorem sPy_row {z : sT} {i m k c : Nat} (h : c ≠ 143) : (sPy z i m k).1 c = z.1 c := by
  funext d
  show (if c = 143 ∧ 24 * m ≤ d ∧ d < 24 * m + k then z.1 141 (24 * i + (d - 24 * m)) else z.1 c d) = z.1 c d
  rw [if_neg (fun q => h q.1)]
theorem sPy_143 {z : sT} {i m k d : Nat} : (sPy z i m k).1 143 d = if 24 * m ≤ d ∧ d < 24 * m + k then z.1 141 (24 * i + (d - 24 * m)) else z.1 143 d := by
  show (if 143 = 143 ∧ 24 * m ≤ d ∧ d < 24 * m + k then z.1 141 (24 * i + (d - 24 * m)) else z.1 143 d) = _
  by_cases h : 24 * m ≤ d ∧ d < 24 * m + k
  · rw [if_pos h, if_pos ⟨rfl, h⟩]
  · rw [if_neg h, if_neg (fun q => h q.2)]
theorem sPy_s {z : sT} {i m k : Nat} : sI (sPy z i m k) 143 (24 * m + k) (z.1 141 (24 * i + k)) = sPy z i m (k + 1) := by
  refine Prod.ext ?_ rfl
  funext c d
  by_cases hc : c = 143
  · subst hc
    rw [sPy_143]
    by_cases hd : d = 24 * m + k
    · subst hd
      rw [sI_eq, if_pos (by omega), show 24 * m + k - 24 * m = k by omega]
    · rw [sI_ne hd, sPy_143]
      by_cases h : 24 * m ≤ d ∧ d < 24 * m + k
      · rw [if_pos h, if_pos (by omega)]
      · rw [if_neg h, if_neg (by omega)]
  · rw [sI_row hc, sPy_row hc, sPy_row hc]
def sDn (v : sT) (m n len : Nat) : sT := sI (sI (sI (sI v 143 (24 * m + len) (nI n)) 142 m (nI (len + 1))) 126 30 (nI (m + 1))) 126 33 (v.1 126 33 + 1)
def frD (z w : sT) (m : Nat) : Prop := w.2 = z.2 ∧ (∀ c, c ≠ 126 → c ≠ 142 → c ≠ 143 → w.1 c = z.1 c) ∧ (∀ j, j ≠ 30 → j ≠ 33 → w.1 126 j = z.1 126 j) ∧ w.1 126 30 = nI (m + 1) ∧ w.1 126 33 = z.1 126 33 + 1 ∧ (∀ c, c ≠ m → w.1 142 c = z.1 142 c ∧ ∀ q, q < 24 → w.1 143 (24 * c + q) = z.1 143 (24 * c + q))
theorem sDn_fr {z : sT} {i m n len : Nat} (hl : len < 24) : frD z (sDn (sPy z i m len) m n len) m := by
  refine ⟨rfl, fun c c1 c2 c3 => ?_, fun j j1 j2 => ?_, ?_, ?_, fun c hc => ⟨?_, fun q hq => ?_⟩⟩
  · unfold sDn
    rw [sI_row c1, sI_row c1, sI_row c2, sI_row c3, sPy_row c3]
  · unfold sDn
    rw [sI_ne j2, sI_ne j1, sI_row (by decide), sI_row (by decide), sPy_row (by decide)]
  · unfold sDn
    rw [sI_ne (by decide), sI_eq]
  · unfold sDn
    rw [sI_eq, sPy_row (by decide)]
  · unfold sDn
    rw [sI_row (by decide), sI_row (by decide), sI_ne hc, sI_row (by decide), sPy_row (by decide)]
  · unfold sDn
    rw [sI_row (by decide), sI_row (by decide), sI_row (by decide), sI_ne (by omega), sPy_143, if_neg (by omega)]
theorem sDn_at {z : sT} {i m n len q : Nat} (hq : q ≤ len) : (sDn (sPy z i m len) m n len).1 143 (24 * m + q) = if q = len then nI n else z.1 141 (24 * i + q) := by
  unfold sDn
  rw [sI_row (by decide), sI_row (by decide), sI_row (by decide)]
  by_cases h : q = len
  · rw [if_pos h, h, sI_eq]
  · rw [if_neg h, sI_ne (by omega), sPy_143, if_pos (by omega), show 24 * m + q - 24 * m = q by omega]
theorem sDn_142 {v : sT} {m n len : Nat} : (sDn v m n len).1 142 m = nI (len + 1) := by
  unfold sDn
  rw [sI_row (by decide), sI_row (by decide), sI_eq]
theorem mdM.fr {z w : sT} {m c : Nat} {R : rR} (h : mdM z c R) (hf : frD z w m) (hc : c ≠ m) (h24 : R.2.1 ≤ 24) : mdM w c R := by
  obtain ⟨g1, g2⟩ := hf.2.2.2.2.2 c hc
  exact ⟨g1.trans h.1, fun q hq => (g2 q (by omega)).trans (h.2 q hq)⟩
theorem sDn_M {z : sT} {i m n s : Nat} {R : rR} {va : Int32} (h : mdR z i R) : mdM (sDn (sPy z i m R.2.1) m n R.2.1) m (rTk R (nI n) va s) := by
  refine ⟨sDn_142, fun q hq => ?_⟩
  have hq2 : q < R.2.1 + 1 := hq
  rw [sDn_at (by omega)]
  show _ = upd R.2.2.1 R.2.1 (nI n) q
  unfold upd
  by_cases hh : q = R.2.1
  · rw [if_pos hh, if_pos hh]
  · rw [if_neg hh, if_neg hh]
    exact h.2.2.1 q (by omega)
theorem sDn_M0 {z : sT} {i m n : Nat} {ke va ti : Int32} : mdM (sDn (sPy z i m 0) m n 0) m (rNw (nI n) ke va ti) := by
  refine ⟨sDn_142, fun q hq => ?_⟩
  have hq2 : q < 1 := hq
  have hq0 : q = 0 := by omega
  subst hq0
  rw [sDn_at (by omega), if_pos rfl]
  rfl
set_option maxRecDepth 100000 in
set_option maxHeartbeats 4000000 in
theorem k_mDone1 (l : Launch) (g : mG) (ad : Nat → Nat) (z : sT) (i m n : Nat) (R : rR) (hi : i < 75) (hm : z.1 126 30 = nI m) (hm5 : m < 26) (hR : mdR z i R) (h19 : R.2.1 ≤ 19) : sC l y_Md_complete c_Md_complete 5 none 0 g ad [.ref (ad 126), .int (nI i), .int (nI n)] z (fun r w => r = none ∧ w = sDn (sPy z i m R.2.1) m n R.2.1) := by
  refine sC.intro (own := R_Md) rfl (by decide) (by decide) (by simp [Value.category]) (Nat.le_of_ble_eq_true rfl) (fun K hB hE => ?_)
  show K 0 [some (.ref (ad 126)), some (.int (nI i)), some (.int (nI n)), none, none] [] z
  have h18 : ∀ f k : Nat, k + f = R.2.1 → K 18 [some (.ref (ad 126)), some (.int (nI i)), some (.int (nI n)), some (.int (nI R.2.1)), some (.int (nI k))] [] (sPy z i m k) := by
    intro f
    induction f with
    | zero =>
      intro k hk
      have hkR : k = R.2.1 := hk
      subst hkR
      refine hB.iload d_Md_complete_18 rfl ?_
      refine hB.iload_n d_Md_complete_20 rfl ?_
      refine hB.icmp_ge d_Md_complete_21 (tgt := 57) rfl (fun q21 => ?_) (fun q21 => absurd (nI_le (Nat.le_refl _) (by omega)) q21)
      have ef : (sPy z i m R.2.1).1 126 30 = nI m := by rw [sPy_row (by decide)]; exact hm
      have e71 : (24 : Int32) * (sPy z i m R.2.1).1 126 30 + nI (R.2.1) = nI (24 * m + R.2.1) := by rw [ef]; exact mul24
      refine hB.aload_n d_Md_complete_57 rfl ?_
      refine hB.getC (Or.inl fa_Md_64) d_Md_complete_58 (by decide) sK_126 rfl ?_
      refine hB.bipush d_Md_complete_61 (v := 24) rfl ?_
      refine hB.aload_n d_Md_complete_63 rfl ?_
      refine hB.getI (Or.inl fa_Md_126) d_Md_complete_64 (by decide) sK_126 rfl ?_
      refine hB.imul d_Md_complete_67 ?_
      refine hB.iload_n d_Md_complete_68 rfl ?_
      refine hB.iadd d_Md_complete_69 ?_
      refine hB.iload_n d_Md_complete_70 rfl ?_
      refine hB.iast d_Md_complete_71 (by decide) rfl e71 (by omega) (by decide) ?_
      refine hB.aload_n d_Md_complete_72 rfl ?_
      refine hB.getC (Or.inl fa_Md_61) d_Md_complete_73 (by decide) sK_126 rfl ?_
      refine hB.aload_n d_Md_complete_76 rfl ?_
      refine hB.getI (Or.inl fa_Md_126) d_Md_complete_77 (by decide) sK_126 rfl ?_
      refine hB.iload_n d_Md_complete_80 rfl ?_
      refine hB.iconst d_Md_complete_81 (v := 1) rfl ?_
      refine hB.iadd d_Md_complete_82 ?_
      have e83 : (sI (sPy z i m R.2.1) 143 (24 * m + R.2.1) (nI n)).1 126 30 = nI m := by rw [sI_row (by decide)]; exact ef
      rw [← nI_succ]
      refine hB.iast d_Md_complete_83 (by decide) rfl e83 (by omega) (by decide) ?_
      refine hB.aload_n d_Md_complete_84 rfl ?_
      refine hB.dup d_Md_complete_85 rfl ?_
      refine hB.getI (Or.inl fa_Md_126) d_Md_complete_86 (by decide) sK_126 rfl ?_
      refine hB.iconst d_Md_complete_89 (v := 1) rfl ?_
      refine hB.iadd d_Md_complete_90 ?_
      rw [sI_row (by decide), e83, ← nI_succ]
      refine hB.putI (Or.inl fa_Md_126) d_Md_complete_91 (by decide) sK_126 rfl rfl rfl ?_
      refine hB.aload_n d_Md_complete_94 rfl ?_
      refine hB.dup d_Md_complete_95 rfl ?_
      refine hB.getI (Or.inl fa_Md_129) d_Md_complete_96 (by decide) sK_126 rfl ?_
      refine hB.iconst d_Md_complete_99 (v := 1) rfl ?_
      refine hB.iadd d_Md_complete_100 ?_
      rw [sI_ne (by decide), sI_row (by decide), sI_row (by decide)]
      refine hB.putI (Or.inl fa_Md_129) d_Md_complete_101 (by decide) sK_126 rfl rfl rfl ?_
      exact hE.2.2 _ _ _ d_Md_complete_104 rfl ⟨rfl, rfl⟩
    | succ f ih =>
      intro k hk
      refine hB.iload d_Md_complete_18 rfl ?_
      refine hB.iload_n d_Md_complete_20 rfl ?_
      refine hB.icmp_ge d_Md_complete_21 (tgt := 57) rfl (fun q21 => absurd q21 (nI_ge (by omega) (by omega))) (fun q21 => ?_)
      refine hB.aload_n d_Md_complete_24 rfl ?_
      refine hB.getC (Or.inl fa_Md_64) d_Md_complete_25 (by decide) sK_126 rfl ?_
      refine hB.bipush d_Md_complete_28 (v := 24) rfl ?_
      refine hB.aload_n d_Md_complete_30 rfl ?_
      refine hB.getI (Or.inl fa_Md_126) d_Md_complete_31 (by decide) sK_126 rfl ?_
      refine hB.imul d_Md_complete_34 ?_
      refine hB.iload d_Md_complete_35 rfl ?_
      refine hB.iadd d_Md_complete_37 ?_
      refine hB.aload_n d_Md_complete_38 rfl ?_
      refine hB.getC (Or.inl fa_Md_58) d_Md_complete_39 (by decide) sK_126 rfl ?_
      refine hB.bipush d_Md_complete_42 (v := 24) rfl ?_
      refine hB.iload_n d_Md_complete_44 rfl ?_
      refine hB.imul d_Md_complete_45 ?_
      refine hB.iload d_Md_complete_46 rfl ?_
      refine hB.iadd d_Md_complete_48 ?_
      have e50 : (24 : Int32) * (sPy z i m k).1 126 30 + nI k = nI (24 * m + k) := by rw [sPy_row (by decide), hm]; exact mul24
      refine hB.iald d_Md_complete_49 (by decide) rfl mul24 (by omega) (by decide) ?_
      rw [sPy_row (show (141 : Nat) ≠ 143 by decide)]
      refine hB.iast d_Md_complete_50 (by decide) rfl e50 (by omega) (by decide) ?_
      rw [sPy_s]
      refine hB.iinc d_Md_complete_51 rfl (v := nI (k + 1)) (nI_succ k).symm ?_
      refine hB.goto d_Md_complete_54 (tgt := 18) rfl ?_
      exact ih (k + 1) (by omega)
  refine hB.iload_n d_Md_complete_0 rfl ?_
  refine hB.if_ge d_Md_complete_1 (tgt := 8) rfl (fun q1 => ?_) (fun q1 => absurd (nI_pos' (by omega)) q1)
  refine hB.aload_n d_Md_complete_8 rfl ?_
  refine hB.getC (Or.inl fa_Md_55) d_Md_complete_9 (by decide) sK_126 rfl ?_
  refine hB.iload_n d_Md_complete_12 rfl ?_
  refine hB.iald d_Md_complete_13 (by decide) rfl rfl (by omega) (by decide) ?_
  rw [hR.2.1]
  refine hB.istore_n d_Md_complete_14 (Nat.le_of_ble_eq_true rfl) ?_
  refine hB.iconst d_Md_complete_15 (v := 0) rfl ?_
  refine hB.istore d_Md_complete_16 (Nat.le_of_ble_eq_true rfl) ?_
  have h9 := h18 R.2.1 0 (by omega)
  rw [sPy_0] at h9
  exact h9
set_option maxRecDepth 100000 in
set_option maxHeartbeats 4000000 in
theorem k_mDone0 (l : Launch) (g : mG) (ad : Nat → Nat) (z : sT) (m n : Nat) (hm : z.1 126 30 = nI m) (hm5 : m < 26) : sC l y_Md_complete c_Md_complete 5 none 0 g ad [.ref (ad 126), .int (-1), .int (nI n)] z (fun r w => r = none ∧ w = sDn (sPy z 0 m 0) m n 0) := by
  refine sC.intro (own := R_Md) rfl (by decide) (by decide) (by simp [Value.category]) (Nat.le_of_ble_eq_true rfl) (fun K hB hE => ?_)
  show K 0 [some (.ref (ad 126)), some (.int (-1)), some (.int (nI n)), none, none] [] z
  refine hB.iload_n d_Md_complete_0 rfl ?_
  refine hB.if_ge d_Md_complete_1 (tgt := 8) rfl (fun q1 => absurd q1 (by decide)) (fun q1 => ?_)
  refine hB.iconst d_Md_complete_4 (v := 0) rfl ?_
  refine hB.goto d_Md_complete_5 (tgt := 14) rfl ?_
  refine hB.istore_n d_Md_complete_14 (Nat.le_of_ble_eq_true rfl) ?_
  refine hB.iconst d_Md_complete_15 (v := 0) rfl ?_
  refine hB.istore d_Md_complete_16 (Nat.le_of_ble_eq_true rfl) ?_
  refine hB.iload d_Md_complete_18 rfl ?_
  refine hB.iload_n d_Md_complete_20 rfl ?_
  refine hB.icmp_ge d_Md_complete_21 (tgt := 57) rfl (fun q21 => ?_) (fun q21 => absurd (by decide) q21)
  have h9 : sPy z 0 m 0 = z := sPy_0
  suffices h8 : K 57 [some (.ref (ad 126)), some (.int (-1)), some (.int (nI n)), some (.int (nI 0)), some (.int (nI 0))] [] (sPy z 0 m 0) by rw [h9] at h8; exact h8
  have ef : (sPy z 0 m 0).1 126 30 = nI m := by rw [sPy_row (by decide)]; exact hm
  have e71 : (24 : Int32) * (sPy z 0 m 0).1 126 30 + nI (0) = nI (24 * m + 0) := by rw [ef]; exact mul24
  refine hB.aload_n d_Md_complete_57 rfl ?_
  refine hB.getC (Or.inl fa_Md_64) d_Md_complete_58 (by decide) sK_126 rfl ?_
  refine hB.bipush d_Md_complete_61 (v := 24) rfl ?_
  refine hB.aload_n d_Md_complete_63 rfl ?_
  refine hB.getI (Or.inl fa_Md_126) d_Md_complete_64 (by decide) sK_126 rfl ?_
  refine hB.imul d_Md_complete_67 ?_
  refine hB.iload_n d_Md_complete_68 rfl ?_
  refine hB.iadd d_Md_complete_69 ?_
  refine hB.iload_n d_Md_complete_70 rfl ?_
  refine hB.iast d_Md_complete_71 (by decide) rfl e71 (by omega) (by decide) ?_
  refine hB.aload_n d_Md_complete_72 rfl ?_
  refine hB.getC (Or.inl fa_Md_61) d_Md_complete_73 (by decide) sK_126 rfl ?_
  refine hB.aload_n d_Md_complete_76 rfl ?_
  refine hB.getI (Or.inl fa_Md_126) d_Md_complete_77 (by decide) sK_126 rfl ?_
  refine hB.iload_n d_Md_complete_80 rfl ?_
  refine hB.iconst d_Md_complete_81 (v := 1) rfl ?_
  refine hB.iadd d_Md_complete_82 ?_
  have e83 : (sI (sPy z 0 m 0) 143 (24 * m + 0) (nI n)).1 126 30 = nI m := by rw [sI_row (by decide)]; exact ef
  rw [← nI_succ]
  refine hB.iast d_Md_complete_83 (by decide) rfl e83 (by omega) (by decide) ?_
  refine hB.aload_n d_Md_complete_84 rfl ?_
  refine hB.dup d_Md_complete_85 rfl ?_
  refine hB.getI (Or.inl fa_Md_126) d_Md_complete_86 (by decide) sK_126 rfl ?_
  refine hB.iconst d_Md_complete_89 (v := 1) rfl ?_
  refine hB.iadd d_Md_complete_90 ?_
  rw [sI_row (by decide), e83, ← nI_succ]
  refine hB.putI (Or.inl fa_Md_126) d_Md_complete_91 (by decide) sK_126 rfl rfl rfl ?_
  refine hB.aload_n d_Md_complete_94 rfl ?_
  refine hB.dup d_Md_complete_95 rfl ?_
  refine hB.getI (Or.inl fa_Md_129) d_Md_complete_96 (by decide) sK_126 rfl ?_
  refine hB.iconst d_Md_complete_99 (v := 1) rfl ?_
  refine hB.iadd d_Md_complete_100 ?_
  rw [sI_ne (by decide), sI_row (by decide), sI_row (by decide)]
  refine hB.putI (Or.inl fa_Md_129) d_Md_complete_101 (by decide) sK_126 rfl rfl rfl ?_
  exact hE.2.2 _ _ _ d_Md_complete_104 rfl ⟨rfl, rfl⟩
