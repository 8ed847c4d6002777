set_option maxRecDepth 100000 in
set_option maxHeartbeats 4000000 in
theorem k_mBarred (l : Launch) (g : mG) (ad : Nat → Nat) (z : sT) (C : eC) (n : Nat) (hC : evM z C n) (i : Nat) (R : rR) (hi : i < 75) (hR : mdR z i R) (h1 : 1 ≤ R.2.1) (h19 : R.2.1 ≤ 19) (hV0 : ∀ m, m < R.2.1 → ∃ e, e < n ∧ R.2.2.1 m = nI e) (hV : wV R.2.2.2.2.2) (x y : Nat) (hx : z.1 134 R.1 = nI x) (hy : z.1 134 (R.1 + 1) = nI y) (hxy : x < y) (hy8 : y < 8) (hs8 : R.1 + 1 < 8) (hel : ∀ e, e < 8 → e ≤ y → mdE z e (xEl C e) ∧ wN (xEl C e).2.2.2.2.2) : sC l y_Md_isBarred c_Md_isBarred 5 (some .boolean) 1 g ad [.ref (ad 126), .int (nI i), .int (nI n)] z (fun r9 w => r9 = some (.int (bI (aBar C R (y - (x + 1)) (x + 1)))) ∧ w = z) := by
  refine sC.intro (own := R_Md) rfl (by decide) (by decide) (by simp [Value.category]) (Nat.le_of_ble_eq_true rfl) (fun K hB hE => ?_)
  show K 0 [some (.ref (ad 126)), some (.int (nI i)), some (.int (nI n)), none, none] [] z
  have h17 : ∀ (f e : Nat) (b : Bool), e + f = y → (b || aBar C R f e) = aBar C R (y - (x + 1)) (x + 1) → K 17 [some (.ref (ad 126)), some (.int (nI i)), some (.int (nI n)), some (.int (bI b)), some (.int (nI e))] [] z := by
    intro f
    induction f with
    | zero =>
      intro e b he hb
      have hey : e = y := he
      subst hey
      have es : z.1 139 i + 1 = nI (R.1 + 1) := by rw [hR.1, ← nI_succ]
      refine hB.iload d_Md_isBarred_17 rfl ?_
      refine hB.aload_n d_Md_isBarred_19 rfl ?_
      refine hB.getC (Or.inl fa_Md_37) d_Md_isBarred_20 (by decide) sK_126 rfl ?_
      refine hB.aload_n d_Md_isBarred_23 rfl ?_
      refine hB.getC (Or.inl fa_Md_52) d_Md_isBarred_24 (by decide) sK_126 rfl ?_
      refine hB.iload_n d_Md_isBarred_27 rfl ?_
      refine hB.iald d_Md_isBarred_28 (by decide) rfl rfl (by omega) (by decide) ?_
      refine hB.iconst d_Md_isBarred_29 (v := 1) rfl ?_
      refine hB.iadd d_Md_isBarred_30 ?_
      refine hB.iald d_Md_isBarred_31 (by decide) rfl es (by omega) (by decide) ?_
      rw [hy]
      refine hB.icmp_ge d_Md_isBarred_32 (tgt := 62) rfl (fun q32 => ?_) (fun q32 => absurd (nI_le (Nat.le_refl _) (by omega)) q32)
      refine hB.iload_n d_Md_isBarred_62 rfl ?_
      exact hE.1 _ _ _ _ _ d_Md_isBarred_63 rfl (bI_nar _) ⟨by rw [← hb]; simp [aBar], rfl⟩
    | succ f ih =>
      intro e b he hb
      have h55 : ∀ b2 : Bool, (b2 || aBar C R f (e + 1)) = aBar C R (y - (x + 1)) (x + 1) → K 55 [some (.ref (ad 126)), some (.int (nI i)), some (.int (nI n)), some (.int (bI b)), some (.int (nI e))] [.int (bI b2)] z := by
        intro b2 hb2
        refine hB.istore_n d_Md_isBarred_55 (Nat.le_of_ble_eq_true rfl) ?_
        refine hB.iinc d_Md_isBarred_56 rfl (v := nI (e + 1)) (nI_succ e).symm ?_
        refine hB.goto d_Md_isBarred_59 (tgt := 17) rfl ?_
        exact ih (e + 1) b2 (by omega) hb2
      refine hB.iload d_Md_isBarred_17 rfl ?_
      refine hB.aload_n d_Md_isBarred_19 rfl ?_
      refine hB.getC (Or.inl fa_Md_37) d_Md_isBarred_20 (by decide) sK_126 rfl ?_
      refine hB.aload_n d_Md_isBarred_23 rfl ?_
      refine hB.getC (Or.inl fa_Md_52) d_Md_isBarred_24 (by decide) sK_126 rfl ?_
      refine hB.iload_n d_Md_isBarred_27 rfl ?_
      refine hB.iald d_Md_isBarred_28 (by decide) rfl rfl (by omega) (by decide) ?_
      refine hB.iconst d_Md_isBarred_29 (v := 1) rfl ?_
      refine hB.iadd d_Md_isBarred_30 ?_
      have es : z.1 139 i + 1 = nI (R.1 + 1) := by rw [hR.1, ← nI_succ]
      refine hB.iald d_Md_isBarred_31 (by decide) rfl es (by omega) (by decide) ?_
      rw [hy]
      refine hB.icmp_ge d_Md_isBarred_32 (tgt := 62) rfl (fun q32 => absurd q32 (nI_ge (by omega) (by omega))) (fun q32 => ?_)
      refine hB.iload_n d_Md_isBarred_35 rfl ?_
      refine hB.if_ne d_Md_isBarred_36 (tgt := 50) rfl (fun q36 => ?_) (fun q36 => ?_)
      · refine hB.iconst d_Md_isBarred_50 (v := 1) rfl ?_
        refine hB.goto d_Md_isBarred_51 (tgt := 55) rfl ?_
        first
          | (refine h55 true ?_; have h9 := bI_1 q36; rw [← hb, h9]; simp [aBar]; done)
          | (refine h55 true ?_; have h9 := bI_0 q36; have h8 := bI_1 q47; rw [← hb, h9]; simp [aBar, h8]; done)
          | (refine h55 false ?_; have h9 := bI_0 q36; have h8 := bI_0 q47; rw [← hb, h9]; simp [aBar, h8])
      · refine hB.aload_n d_Md_isBarred_39 rfl ?_
        refine hB.iload d_Md_isBarred_40 rfl ?_
        refine hB.iload_n d_Md_isBarred_42 rfl ?_
        refine hB.iload_n d_Md_isBarred_43 rfl ?_
        refine hB.callV lk_Md_148 cd_Md_fits (k_mFit1 l g ad z C n e (xEl C e) hC (by omega) (hel e (by omega) (by omega)).1 (hel e (by omega) (by omega)).2 i R hi hR h1 h19 hV0 hV) rfl (by decide) sK_126 d_Md_isBarred_44 rfl rfl (by decide) (by simp [Value.category]) ?_
        rintro _ w9 ⟨rfl, hw9⟩
        have hw8 := hw9.symm
        clear hw9
        subst hw8
        refine hB.if_eq d_Md_isBarred_47 (tgt := 54) rfl (fun q47 => ?_) (fun q47 => ?_)
        · refine hB.iconst d_Md_isBarred_54 (v := 0) rfl ?_
          first
            | (refine h55 true ?_; have h9 := bI_1 q36; rw [← hb, h9]; simp [aBar]; done)
            | (refine h55 true ?_; have h9 := bI_0 q36; have h8 := bI_1 q47; rw [← hb, h9]; simp [aBar, h8]; done)
            | (refine h55 false ?_; have h9 := bI_0 q36; have h8 := bI_0 q47; rw [← hb, h9]; simp [aBar, h8])
        · refine hB.iconst d_Md_isBarred_50 (v := 1) rfl ?_
          refine hB.goto d_Md_isBarred_51 (tgt := 55) rfl ?_
          first
            | (refine h55 true ?_; have h9 := bI_1 q36; rw [← hb, h9]; simp [aBar]; done)
            | (refine h55 true ?_; have h9 := bI_0 q36; have h8 := bI_1 q47; rw [← hb, h9]; simp [aBar, h8]; done)
            | (refine h55 false ?_; have h9 := bI_0 q36; have h8 := bI_0 q47; rw [← hb, h9]; simp [aBar, h8])
  refine hB.iconst d_Md_isBarred_0 (v := 0) rfl ?_
  refine hB.istore_n d_Md_isBarred_1 (Nat.le_of_ble_eq_true rfl) ?_
  refine hB.aload_n d_Md_isBarred_2 rfl ?_
  refine hB.getC (Or.inl fa_Md_37) d_Md_isBarred_3 (by decide) sK_126 rfl ?_
  refine hB.aload_n d_Md_isBarred_6 rfl ?_
  refine hB.getC (Or.inl fa_Md_52) d_Md_isBarred_7 (by decide) sK_126 rfl ?_
  refine hB.iload_n d_Md_isBarred_10 rfl ?_
  refine hB.iald d_Md_isBarred_11 (by decide) rfl rfl (by omega) (by decide) ?_
  refine hB.iald d_Md_isBarred_12 (by decide) rfl hR.1 (by omega) (by decide) ?_
  refine hB.iconst d_Md_isBarred_13 (v := 1) rfl ?_
  refine hB.iadd d_Md_isBarred_14 ?_
  rw [hx, ← nI_succ]
  refine hB.istore d_Md_isBarred_15 (Nat.le_of_ble_eq_true rfl) ?_
  exact h17 (y - (x + 1)) (x + 1) false (by omega) rfl
