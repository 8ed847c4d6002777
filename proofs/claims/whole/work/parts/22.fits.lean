abbrev rR : Type := Nat × Nat × (Nat → Int32) × Int32 × Int32 × Int32
def rTk (R : rR) (nu va : Int32) (s : Nat) : rR := (s, R.2.1 + 1, upd R.2.2.1 R.2.1 nu, R.2.2.2.1, R.2.2.2.2.1, va)
def rNw (nu ke va ti : Int32) : rR := (0, 1, fun _ => nu, ke, ti, va)
def RunA (z : sT) (r : Nat) (R : rR) : Prop := z.1 r 1 = nI R.2.1 ∧ z.1 r 2 = nI R.1 ∧ z.1 r 3 = R.2.2.1 0 ∧ z.1 r 4 = R.2.2.2.1 ∧ z.1 r 5 = R.2.2.2.2.1 ∧ z.1 r 6 = R.2.2.1 (R.2.1 - 1) ∧ z.1 r 7 = R.2.2.2.2.2 ∧ (∀ i, i < R.2.1 → z.1 (r + 48) i = R.2.2.1 i) ∧ 1 ≤ R.2.1 ∧ R.2.1 ≤ 19
theorem RunA.fr {z w : sT} {r : Nat} {R : rR} (h1 : w.1 r = z.1 r) (h2 : w.1 (r + 48) = z.1 (r + 48)) (h : RunA z r R) : RunA w r R := by
  unfold RunA
  rw [h1, h2]
  exact h
theorem sTk_row {z : sT} {r c a : Nat} {s : Int32} (h1 : a ≠ r) (h2 : a ≠ r + 48) : (sTk z r c s).1 a = z.1 a := by
  unfold sTk
  rw [sI_row h1, sI_row h1, sI_row h1, sI_row h1, sI_row h2]
theorem sTk_2 {z : sT} {r c : Nat} {s : Int32} : (sTk z r c s).2 = z.2 := rfl
theorem sCf_2 {z : sT} {q r : Nat} : (sCf z q r).2 = z.2 := rfl
theorem sCf_row {z : sT} {q r a : Nat} (h1 : a ≠ r) (h2 : a ≠ r + 48) : (sCf z q r).1 a = z.1 a := by
  unfold sCf
  rw [sI_row h1, sI_row h1, sI_row h1, sI_row h1, sI_row h1, sI_row h1, sI_row h1, sCp_row h2]
theorem sTk_at {z : sT} {r c k : Nat} {s : Int32} : (sTk z r c s).1 r k = if k = 1 then nI (c + 1) else if k = 2 then s else if k = 6 then z.1 7 0 else if k = 7 then z.1 7 3 else z.1 r k := by
  have e1 : ¬ r = r + 48 := by omega
  unfold sTk
  by_cases h7 : k = 7
  · subst h7; simp [sI]
  · by_cases h6 : k = 6
    · subst h6; simp [sI]
    · by_cases h2 : k = 2
      · subst h2; simp [sI]
      · by_cases h1 : k = 1
        · subst h1; simp [sI]
        · simp [sI, h7, h6, h2, h1]
theorem sTk_tk {z : sT} {r c i : Nat} {s : Int32} : (sTk z r c s).1 (r + 48) i = if i = c then z.1 7 0 else z.1 (r + 48) i := by
  unfold sTk
  rw [sI_row (by omega), sI_row (by omega), sI_row (by omega), sI_row (by omega)]
  by_cases h : i = c <;> simp [sI, h]
theorem sCf_at {z : sT} {q r k : Nat} (hk : 1 ≤ k) (hk8 : k < 8) : (sCf z q r).1 r k = z.1 q k := by
  unfold sCf
  rcases k with _ | _ | _ | _ | _ | _ | _ | _ | k
  · omega
  · simp [sI]
  · simp [sI]
  · simp [sI]
  · simp [sI]
  · simp [sI]
  · simp [sI]
  · simp [sI]
  · omega
theorem sCf_tk {z : sT} {q r i : Nat} (hi : i < 19) : (sCf z q r).1 (r + 48) i = z.1 (q + 48) i := by
  unfold sCf
  rw [sI_row (by omega), sI_row (by omega), sI_row (by omega), sI_row (by omega), sI_row (by omega), sI_row (by omega), sI_row (by omega)]
  simp [sCp, hi]
theorem RunA.tk {z : sT} {r s : Nat} {R : rR} (h : RunA z r R) (hc : R.2.1 < 19) : RunA (sTk z r R.2.1 (nI s)) r (rTk R (z.1 7 0) (z.1 7 3) s) := by
  obtain ⟨h1, h2, h3, h4, h5, h6, h7, h8, h9, h10⟩ := h
  refine ⟨?_, ?_, ?_, ?_, ?_, ?_, ?_, fun i hi => ?_, ?_, ?_⟩
  · rw [sTk_at]; rfl
  · rw [sTk_at]; rfl
  · rw [sTk_at]
    simp [rTk, upd]
    rw [if_neg (by omega)]
    exact h3
  · rw [sTk_at]; simpa [rTk] using h4
  · rw [sTk_at]; simpa [rTk] using h5
  · rw [sTk_at]
    simp [rTk, upd]
  · rw [sTk_at]
    simp [rTk]
  · rw [sTk_tk]
    simp only [rTk, upd]
    by_cases hic : i = R.2.1
    · rw [if_pos hic, if_pos hic]
    · rw [if_neg hic, if_neg hic]
      refine h8 i ?_
      have : i < R.2.1 + 1 := hi
      omega
  · show 1 ≤ R.2.1 + 1
    omega
  · show R.2.1 + 1 ≤ 19
    omega
theorem RunA.cf {z : sT} {q r : Nat} {R : rR} (h : RunA z q R) : RunA (sCf z q r) r R := by
  obtain ⟨h1, h2, h3, h4, h5, h6, h7, h8, h9, h10⟩ := h
  refine ⟨?_, ?_, ?_, ?_, ?_, ?_, ?_, fun i hi => ?_, h9, h10⟩
  · rw [sCf_at (by omega) (by omega)]; exact h1
  · rw [sCf_at (by omega) (by omega)]; exact h2
  · rw [sCf_at (by omega) (by omega)]; exact h3
  · rw [sCf_at (by omega) (by omega)]; exact h4
  · rw [sCf_at (by omega) (by omega)]; exact h5
  · rw [sCf_at (by omega) (by omega)]; exact h6
  · rw [sCf_at (by omega) (by omega)]; exact h7
  · rw [sCf_tk (by omega)]; exact h8 i hi
theorem RunA.new {z : sT} {r : Nat} (hr : 30 ≤ r) : RunA (sTk (sI (sI (sI (sI z r 1 0) r 3 (z.1 7 0)) r 4 (z.1 7 2)) r 5 (z.1 7 4)) r 0 0) r (rNw (z.1 7 0) (z.1 7 2) (z.1 7 3) (z.1 7 4)) := by
  have e7 : ∀ j, (sI (sI (sI (sI z r 1 0) r 3 (z.1 7 0)) r 4 (z.1 7 2)) r 5 (z.1 7 4)).1 7 j = z.1 7 j := fun j => by rw [sI_7 hr, sI_7 hr, sI_7 hr, sI_7 hr]
  refine ⟨?_, ?_, ?_, ?_, ?_, ?_, ?_, fun i hi => ?_, Nat.le_refl 1, (show 1 ≤ 19 by decide)⟩
  · rw [sTk_at]; rfl
  · rw [sTk_at]; rfl
  · rw [sTk_at]; simp [sI, rNw]
  · rw [sTk_at]; simp [sI, rNw]
  · rw [sTk_at]; simp [sI, rNw]
  · rw [sTk_at]; simp only [e7]; simp [rNw]
  · rw [sTk_at]; simp only [e7]; simp [rNw]
  · have hi0 : i = 0 := by
      have : i < 1 := hi
      omega
    rw [sTk_tk, if_pos hi0, e7]
    rfl
def rFit (z : sT) (pt e r : Nat) : Bool := rAd (elOf z e) (z.1 7 1) (z.1 7 3) (z.1 r 7) && (decide (z.1 pt 4 = 0) || decide (z.1 7 2 = z.1 r 4))
def rBar (z : sT) (pt r : Nat) : Nat → Nat → Bool
  | 0, _ => false
  | f + 1, j => rFit z pt (pb pt + j) r || rBar z pt r f (j + 1)
set_option maxRecDepth 100000 in
set_option maxHeartbeats 4000000 in
theorem k_Pw_fits (l : Launch) (g : mG) (ad : Nat → Nat) (z : sT) (e r : Nat) (hp : z.2.1 0 4 = 8 ∨ z.2.1 0 4 = 11) (he : 14 ≤ e ∧ e < 30) (hr : 30 ≤ r ∧ r < 78) : sC l y_Pw_fits c_Pw_fits 3 (some .boolean) 1 g ad [.ref (ad 0), .ref (ad e), .ref (ad r)] z (fun r9 w => r9 = some (.int (bI (rFit z (z.2.1 0 4) e r))) ∧ w = z) := by
  refine sC.intro (own := R_Pw) rfl (by decide) (by decide) (by simp [Value.category]) (Nat.le_of_ble_eq_true rfl) (fun K hB hE => ?_)
  show K 0 [some (.ref (ad 0)), some (.ref (ad e)), some (.ref (ad r))] [] z
  refine hB.aload_n d_Pw_fits_0 rfl ?_
  refine hB.aload_n d_Pw_fits_1 rfl ?_
  refine hB.getC (Or.inl fa_Pw_29) d_Pw_fits_2 (by decide) sK_0 rfl ?_
  refine hB.aload_n d_Pw_fits_5 rfl ?_
  refine hB.getI (Or.inr fa_Pw_221) d_Pw_fits_6 (by omega) (sK_run (by omega) (by omega)) rfl ?_
  refine hB.callVN lk_Pw_224 cd_El_admits (k_El_admits l g ad z e he (z.1 r 7)) rfl (by omega) (sK_el (by omega) (by omega)) d_Pw_fits_9 rfl rfl (by decide) (by simp [Value.category]) ?_
  rintro _ w9 ⟨rfl, hw9⟩
  have hw8 := hw9.symm
  clear hw9
  subst hw8
  refine hB.if_eq d_Pw_fits_12 (tgt := 43) rfl (fun q12 => ?_) (fun q12 => ?_)
  · have h12 := bI_0 q12
    refine hB.iconst d_Pw_fits_43 (v := 0) rfl ?_
    exact hE.1 _ _ _ _ _ d_Pw_fits_44 rfl rfl ⟨by
          first
            | (have e0 : rFit z (z.2.1 0 4) e r = false := by unfold rFit; rw [h12]; rfl
               rw [e0]; rfl; done)
            | (have e0 : rFit z (z.2.1 0 4) e r = true := by unfold rFit; rw [h12]; simp [q22]
               rw [e0]; rfl; done)
            | (have e0 : rFit z (z.2.1 0 4) e r = true := by unfold rFit; rw [h12]; simp [q36]
               rw [e0]; rfl; done)
            | (have e0 : rFit z (z.2.1 0 4) e r = false := by unfold rFit; rw [h12]; simp [q22, q36]
               rw [e0]; rfl), rfl⟩
  · have h12 := bI_1 q12
    refine hB.aload_n d_Pw_fits_15 rfl ?_
    refine hB.getR (Or.inl fa_Pw_36) d_Pw_fits_16 (by decide) sK_0 rfl ?_
    refine hB.getI (Or.inr fa_Pw_228) d_Pw_fits_19 (by omega) (sK_pt hp) rfl ?_
    refine hB.if_eq d_Pw_fits_22 (tgt := 39) rfl (fun q22 => ?_) (fun q22 => ?_)
    · refine hB.iconst d_Pw_fits_39 (v := 1) rfl ?_
      refine hB.goto d_Pw_fits_40 (tgt := 44) rfl ?_
      exact hE.1 _ _ _ _ _ d_Pw_fits_44 rfl rfl ⟨by
          first
            | (have e0 : rFit z (z.2.1 0 4) e r = false := by unfold rFit; rw [h12]; rfl
               rw [e0]; rfl; done)
            | (have e0 : rFit z (z.2.1 0 4) e r = true := by unfold rFit; rw [h12]; simp [q22]
               rw [e0]; rfl; done)
            | (have e0 : rFit z (z.2.1 0 4) e r = true := by unfold rFit; rw [h12]; simp [q36]
               rw [e0]; rfl; done)
            | (have e0 : rFit z (z.2.1 0 4) e r = false := by unfold rFit; rw [h12]; simp [q22, q36]
               rw [e0]; rfl), rfl⟩
    · refine hB.aload_n d_Pw_fits_25 rfl ?_
      refine hB.getC (Or.inl fa_Pw_29) d_Pw_fits_26 (by decide) sK_0 rfl ?_
      refine hB.getI (Or.inr fa_Pw_98) d_Pw_fits_29 (by decide) sK_7 rfl ?_
      refine hB.aload_n d_Pw_fits_32 rfl ?_
      refine hB.getI (Or.inr fa_Pw_231) d_Pw_fits_33 (by omega) (sK_run (by omega) (by omega)) rfl ?_
      refine hB.icmp_ne d_Pw_fits_36 (tgt := 43) rfl (fun q36 => ?_) (fun q36 => ?_)
      · refine hB.iconst d_Pw_fits_43 (v := 0) rfl ?_
        exact hE.1 _ _ _ _ _ d_Pw_fits_44 rfl rfl ⟨by
          first
            | (have e0 : rFit z (z.2.1 0 4) e r = false := by unfold rFit; rw [h12]; rfl
               rw [e0]; rfl; done)
            | (have e0 : rFit z (z.2.1 0 4) e r = true := by unfold rFit; rw [h12]; simp [q22]
               rw [e0]; rfl; done)
            | (have e0 : rFit z (z.2.1 0 4) e r = true := by unfold rFit; rw [h12]; simp [q36]
               rw [e0]; rfl; done)
            | (have e0 : rFit z (z.2.1 0 4) e r = false := by unfold rFit; rw [h12]; simp [q22, q36]
               rw [e0]; rfl), rfl⟩
      · refine hB.iconst d_Pw_fits_39 (v := 1) rfl ?_
        refine hB.goto d_Pw_fits_40 (tgt := 44) rfl ?_
        exact hE.1 _ _ _ _ _ d_Pw_fits_44 rfl rfl ⟨by
          first
            | (have e0 : rFit z (z.2.1 0 4) e r = false := by unfold rFit; rw [h12]; rfl
               rw [e0]; rfl; done)
            | (have e0 : rFit z (z.2.1 0 4) e r = true := by unfold rFit; rw [h12]; simp [q22]
               rw [e0]; rfl; done)
            | (have e0 : rFit z (z.2.1 0 4) e r = true := by unfold rFit; rw [h12]; simp [q36]
               rw [e0]; rfl; done)
            | (have e0 : rFit z (z.2.1 0 4) e r = false := by unfold rFit; rw [h12]; simp [q22, q36]
               rw [e0]; rfl), rfl⟩
set_option maxRecDepth 100000 in
set_option maxHeartbeats 4000000 in
theorem k_Pw_mayStay (l : Launch) (g : mG) (ad : Nat → Nat) (z : sT) (r x : Nat) (s ns : Nat) (hst : z.1 r 2 = nI s) (hns : z.1 (z.2.1 0 4) 3 = nI ns) (hn8 : ns ≤ 8) (hp : z.2.1 0 4 = 8 ∨ z.2.1 0 4 = 11) (hr : 30 ≤ r ∧ r < 78) (hsn : s < ns) (hx : z.1 ((z.2.1 0 4) + 2) s = nI x) (hx8 : x < 8) : sC l y_Pw_mayStay c_Pw_mayStay 3 (some .boolean) 3 g ad [.ref (ad 0), .ref (ad r)] z (fun r9 w => r9 = some (.int (bI (decide (¬ z.1 (pb (z.2.1 0 4) + x) 2 = 0) && (decide (z.1 r 1 < 12) && rFit z (z.2.1 0 4) (pb (z.2.1 0 4) + x) r)))) ∧ w = z) := by
  refine sC.intro (own := R_Pw) rfl (by decide) (by decide) (by simp [Value.category]) (Nat.le_of_ble_eq_true rfl) (fun K hB hE => ?_)
  show K 0 [some (.ref (ad 0)), some (.ref (ad r)), none] [] z
  have hpb := pb_in hp
  refine hB.aload_n d_Pw_mayStay_0 rfl ?_
  refine hB.getR (Or.inl fa_Pw_36) d_Pw_mayStay_1 (by decide) sK_0 rfl ?_
  refine hB.aload_n d_Pw_mayStay_4 rfl ?_
  refine hB.getI (Or.inr fa_Pw_146) d_Pw_mayStay_5 (by omega) (sK_run (by omega) (by omega)) rfl ?_
  rw [hst]
  refine hB.callVN lk_Pw_185 cd_Pt_stepElement (k_Pt_stepElement l g ad z (z.2.1 0 4) s ns x hp hns hn8 hsn hx hx8) rfl (by omega) (sK_pt hp) d_Pw_mayStay_8 rfl rfl (by decide) (by simp [Value.category]) ?_
  rintro _ w9 ⟨rfl, hw9⟩
  have hw8 := hw9.symm
  clear hw9
  subst hw8
  refine hB.astore_n d_Pw_mayStay_11 (Nat.le_of_ble_eq_true rfl) ?_
  refine hB.aload_n d_Pw_mayStay_12 rfl ?_
  refine hB.getI (Or.inr fa_Pw_215) d_Pw_mayStay_13 (by omega) (sK_el (by omega) (by omega)) rfl ?_
  refine hB.if_eq d_Pw_mayStay_16 (tgt := 41) rfl (fun q16 => ?_) (fun q16 => ?_)
  · refine hB.iconst d_Pw_mayStay_41 (v := 0) rfl ?_
    exact hE.1 _ _ _ _ _ d_Pw_mayStay_42 rfl rfl ⟨by
          first
            | (simp [bI, q16]; done)
            | (have h9 := Int32.not_lt.mpr q25; simp [bI, h9]; done)
            | (have h8 := bI_0 q34; simp [bI, h8]; done)
            | (have h8 := bI_1 q34; have h9 := Int32.not_le.mp q25; simp [bI, h8, h9, q16]), rfl⟩
  · refine hB.aload_n d_Pw_mayStay_19 rfl ?_
    refine hB.getI (Or.inr fa_Pw_135) d_Pw_mayStay_20 (by omega) (sK_run (by omega) (by omega)) rfl ?_
    refine hB.bipush d_Pw_mayStay_23 (v := 12) rfl ?_
    refine hB.icmp_ge d_Pw_mayStay_25 (tgt := 41) rfl (fun q25 => ?_) (fun q25 => ?_)
    · refine hB.iconst d_Pw_mayStay_41 (v := 0) rfl ?_
      exact hE.1 _ _ _ _ _ d_Pw_mayStay_42 rfl rfl ⟨by
          first
            | (simp [bI, q16]; done)
            | (have h9 := Int32.not_lt.mpr q25; simp [bI, h9]; done)
            | (have h8 := bI_0 q34; simp [bI, h8]; done)
            | (have h8 := bI_1 q34; have h9 := Int32.not_le.mp q25; simp [bI, h8, h9, q16]), rfl⟩
    · refine hB.aload_n d_Pw_mayStay_28 rfl ?_
      refine hB.aload_n d_Pw_mayStay_29 rfl ?_
      refine hB.aload_n d_Pw_mayStay_30 rfl ?_
      refine hB.callV lk_Pw_189 cd_Pw_fits (k_Pw_fits l g ad z (pb (z.2.1 0 4) + x) r hp (by omega) hr) rfl (by decide) sK_0 d_Pw_mayStay_31 rfl rfl (by decide) (by simp [Value.category]) ?_
      rintro _ w9 ⟨rfl, hw9⟩
      have hw8 := hw9.symm
      clear hw9
      subst hw8
      refine hB.if_eq d_Pw_mayStay_34 (tgt := 41) rfl (fun q34 => ?_) (fun q34 => ?_)
      · refine hB.iconst d_Pw_mayStay_41 (v := 0) rfl ?_
        exact hE.1 _ _ _ _ _ d_Pw_mayStay_42 rfl rfl ⟨by
          first
            | (simp [bI, q16]; done)
            | (have h9 := Int32.not_lt.mpr q25; simp [bI, h9]; done)
            | (have h8 := bI_0 q34; simp [bI, h8]; done)
            | (have h8 := bI_1 q34; have h9 := Int32.not_le.mp q25; simp [bI, h8, h9, q16]), rfl⟩
      · refine hB.iconst d_Pw_mayStay_37 (v := 1) rfl ?_
        refine hB.goto d_Pw_mayStay_38 (tgt := 42) rfl ?_
        exact hE.1 _ _ _ _ _ d_Pw_mayStay_42 rfl rfl ⟨by
          first
            | (simp [bI, q16]; done)
            | (have h9 := Int32.not_lt.mpr q25; simp [bI, h9]; done)
            | (have h8 := bI_0 q34; simp [bI, h8]; done)
            | (have h8 := bI_1 q34; have h9 := Int32.not_le.mp q25; simp [bI, h8, h9, q16]), rfl⟩
set_option maxRecDepth 100000 in
set_option maxHeartbeats 4000000 in
theorem k_Pw_isBarred (l : Launch) (g : mG) (ad : Nat → Nat) (z : sT) (r x y : Nat) (s ns : Nat) (hst : z.1 r 2 = nI s) (hns : z.1 (z.2.1 0 4) 3 = nI ns) (hn8 : ns ≤ 8) (hp : z.2.1 0 4 = 8 ∨ z.2.1 0 4 = 11) (hr : 30 ≤ r ∧ r < 78) (hsn : s + 1 < ns) (hx : z.1 ((z.2.1 0 4) + 2) s = nI x) (hy : z.1 ((z.2.1 0 4) + 2) (s + 1) = nI y) (hxy : x < y) (hy8 : y < 8) : sC l y_Pw_isBarred c_Pw_isBarred 4 (some .boolean) 2 g ad [.ref (ad 0), .ref (ad r)] z (fun r9 w => r9 = some (.int (bI (rBar z (z.2.1 0 4) r (y - (x + 1)) (x + 1)))) ∧ w = z) := by
  refine sC.intro (own := R_Pw) rfl (by decide) (by decide) (by simp [Value.category]) (Nat.le_of_ble_eq_true rfl) (fun K hB hE => ?_)
  show K 0 [some (.ref (ad 0)), some (.ref (ad r)), none, none] [] z
  have hpb := pb_in hp
  have h28 : ∀ f j : Nat, j + f = y → rBar z (z.2.1 0 4) r f j = rBar z (z.2.1 0 4) r (y - (x + 1)) (x + 1) → K 28 [some (.ref (ad 0)), some (.ref (ad r)), some (.int (nI y)), some (.int (nI j))] [] z := by
    intro f
    induction f with
    | zero =>
      intro j hj hb
      refine hB.iload_n d_Pw_isBarred_28 rfl ?_
      refine hB.iload_n d_Pw_isBarred_29 rfl ?_
      refine hB.icmp_ge d_Pw_isBarred_30 (tgt := 58) rfl (fun q30 => ?_) (fun q30 => absurd (nI_le (by omega) (by omega)) q30)
      refine hB.iconst d_Pw_isBarred_58 (v := 0) rfl ?_
      exact hE.1 _ _ _ _ _ d_Pw_isBarred_59 rfl rfl ⟨by rw [← hb]; rfl, rfl⟩
    | succ f ih =>
      intro j hj hb
      refine hB.iload_n d_Pw_isBarred_28 rfl ?_
      refine hB.iload_n d_Pw_isBarred_29 rfl ?_
      refine hB.icmp_ge d_Pw_isBarred_30 (tgt := 58) rfl (fun q30 => absurd q30 (nI_ge (by omega) (by omega))) (fun q30 => ?_)
      refine hB.aload_n d_Pw_isBarred_33 rfl ?_
      refine hB.aload_n d_Pw_isBarred_34 rfl ?_
      refine hB.getR (Or.inl fa_Pw_36) d_Pw_isBarred_35 (by decide) sK_0 rfl ?_
      refine hB.getC (Or.inr fa_Pw_211) d_Pw_isBarred_38 (by omega) (sK_pt hp) rfl ?_
      refine hB.iload_n d_Pw_isBarred_41 rfl ?_
      refine hB.aald5 d_Pw_isBarred_42 (by omega) (sK_els hp) rfl (by omega) (by decide) ?_
      rw [sRf_el hp]
      refine hB.aload_n d_Pw_isBarred_43 rfl ?_
      refine hB.callV lk_Pw_189 cd_Pw_fits (k_Pw_fits l g ad z (pb (z.2.1 0 4) + j) r hp (by omega) hr) rfl (by decide) sK_0 d_Pw_isBarred_44 rfl rfl (by decide) (by simp [Value.category]) ?_
      rintro _ w9 ⟨rfl, hw9⟩
      have hw8 := hw9.symm
      clear hw9
      subst hw8
      refine hB.if_eq d_Pw_isBarred_47 (tgt := 52) rfl (fun q47 => ?_) (fun q47 => ?_)
      · have h47 := bI_0 q47
        refine hB.iinc d_Pw_isBarred_52 rfl (v := nI (j + 1)) (nI_succ j).symm ?_
        refine hB.goto d_Pw_isBarred_55 (tgt := 28) rfl ?_
        exact ih (j + 1) (by omega) (by rw [← hb]; simp [rBar, h47])
      · have h47 := bI_1 q47
        refine hB.iconst d_Pw_isBarred_50 (v := 1) rfl ?_
        exact hE.1 _ _ _ _ _ d_Pw_isBarred_51 rfl rfl ⟨by rw [← hb]; simp [rBar, h47, bI], rfl⟩
  refine hB.aload_n d_Pw_isBarred_0 rfl ?_
  refine hB.getR (Or.inl fa_Pw_36) d_Pw_isBarred_1 (by decide) sK_0 rfl ?_
  refine hB.aload_n d_Pw_isBarred_4 rfl ?_
  refine hB.getI (Or.inr fa_Pw_146) d_Pw_isBarred_5 (by omega) (sK_run (by omega) (by omega)) rfl ?_
  refine hB.iconst d_Pw_isBarred_8 (v := 1) rfl ?_
  refine hB.iadd d_Pw_isBarred_9 ?_
  rw [hst, ← nI_succ]
  refine hB.callVN lk_Pw_207 cd_Pt_stepPlace (k_Pt_stepPlace l g ad z (z.2.1 0 4) (s + 1) ns hp hns hn8 hsn) rfl (by omega) (sK_pt hp) d_Pw_isBarred_10 rfl rfl (by decide) (by simp [Value.category]) ?_
  rintro _ w9 ⟨rfl, hw9⟩
  have hw8 := hw9.symm
  clear hw9
  subst hw8
  refine hB.istore_n d_Pw_isBarred_13 (Nat.le_of_ble_eq_true rfl) ?_
  refine hB.aload_n d_Pw_isBarred_14 rfl ?_
  refine hB.getR (Or.inl fa_Pw_36) d_Pw_isBarred_15 (by decide) sK_0 rfl ?_
  refine hB.aload_n d_Pw_isBarred_18 rfl ?_
  refine hB.getI (Or.inr fa_Pw_146) d_Pw_isBarred_19 (by omega) (sK_run (by omega) (by omega)) rfl ?_
  rw [hst]
  refine hB.callVN lk_Pw_207 cd_Pt_stepPlace (k_Pt_stepPlace l g ad z (z.2.1 0 4) s ns hp hns hn8 (by omega)) rfl (by omega) (sK_pt hp) d_Pw_isBarred_22 rfl rfl (by decide) (by simp [Value.category]) ?_
  rintro _ w9 ⟨rfl, hw9⟩
  have hw8 := hw9.symm
  clear hw9
  subst hw8
  refine hB.iconst d_Pw_isBarred_25 (v := 1) rfl ?_
  refine hB.iadd d_Pw_isBarred_26 ?_
  refine hB.istore_n d_Pw_isBarred_27 (Nat.le_of_ble_eq_true rfl) ?_
  rw [hx, hy, ← nI_succ]
  exact h28 (y - (x + 1)) (x + 1) (by omega) rfl
