theorem sI_sI {z : sT} {i j : Nat} {x y : Int32} : sI (sI z i j x) i j y = sI z i j y := by
  unfold sI
  congr 1
  funext a b
  by_cases h : a = i ∧ b = j
  · simp [h]
  · simp only [if_neg h]
theorem sI_comm {z : sT} {i j a b : Nat} {x y : Int32} (h : i ≠ a ∨ j ≠ b) : sI (sI z i j x) a b y = sI (sI z a b y) i j x := by
  unfold sI
  congr 1
  funext c d
  by_cases h1 : c = a ∧ d = b
  · by_cases h2 : c = i ∧ d = j
    · exact absurd h (by omega)
    · simp only [if_pos h1, if_neg h2]
  · by_cases h2 : c = i ∧ d = j
    · simp only [if_neg h1, if_pos h2]
    · simp only [if_neg h1, if_neg h2]
theorem sI_same {z : sT} {i j : Nat} {x : Int32} (h : z.1 i j = x) : sI z i j x = z := by
  obtain ⟨z1, z2⟩ := z
  unfold sI
  congr 1
  funext a b
  by_cases h1 : a = i ∧ b = j
  · simp only [if_pos h1]
    rw [← h, h1.1, h1.2]
  · simp only [if_neg h1]
def sPl (z : sT) (p : Nat) : sT := sI z 1 2 (nI p)
theorem sPl_tx {z : sT} {p : Nat} : (sPl z p).1 2 = z.1 2 := sI_row (by decide)
theorem rdA.pl {z : sT} {n p k : Nat} (h : rdA z n p) (hk : k ≤ n) : rdA (sPl z k) n k := by
  obtain ⟨h1, h2, h3, h4, h5⟩ := h
  exact ⟨by simp [sPl, sI, h1], by simp [sPl, sI], h3, hk, fun i hi => by simpa [sPl, sI] using h5 i hi⟩
theorem rdA.self {z : sT} {n p : Nat} (h : rdA z n p) : sPl z p = z := sI_same h.2.1
theorem sPl_sPl {z : sT} {p q : Nat} : sPl (sPl z p) q = sPl z q := sI_sI
theorem cDs_in {tx : Nat → Int32} {n : Nat} : ∀ (m i p : Nat) (num : Int32), p ≤ n → p ≤ (cDs tx n m i num p).2 ∧ (cDs tx n m i num p).2 ≤ n
  | 0, _, p, _, h => ⟨Nat.le_refl _, h⟩
  | m + 1, i, p, num, h => by
    cases hd : pDg (pA tx n p)
    · rw [cDs_n hd]
      exact ⟨Nat.le_refl _, h⟩
    · rw [cDs_s hd]
      have hp : p < n := pA_lt (fun q => by rw [q] at hd; exact absurd hd (by decide))
      have := cDs_in (tx := tx) (n := n) m (i + 1) (p + 1) (if i = 0 then pA tx n p - 48 else 10 * num + (pA tx n p - 48)) (by omega)
      exact ⟨by omega, this.2⟩
set_option maxRecDepth 100000 in
set_option maxHeartbeats 4000000 in
theorem rd_loop {l : Launch} {g : mG} {ad : Nat → Nat} {K : sJt} {n k : Nat} (hk : k < 2 ^ 31) (hB : sB l K c_Rd_readDigits R_Rd 5 (mRm 2 0 0) g ad) (z0 : sT) (fin : Int32 × Nat) (hend : ∀ (v w : Option Value), K 58 [some (.ref (ad 1)), some (.int (nI k)), some (.int fin.1), v, w] [] (sPl z0 fin.2)) :
    ∀ (f i p : Nat) (num : Int32) (v : Option Value), i + f = k → rdA (sPl z0 p) n p → cDs (z0.1 2) n f i num p = fin → K 4 [some (.ref (ad 1)), some (.int (nI k)), some (.int num), some (.int (nI i)), v] [] (sPl z0 p) := by
  intro f
  induction f with
  | zero =>
    intro i p num v hi hR hf
    have hik : i = k := by omega
    subst hik
    rw [cDs_z] at hf
    subst hf
    refine hB.iload_n d_Rd_readDigits_4 rfl ?_
    refine hB.iload_n d_Rd_readDigits_5 rfl ?_
    refine hB.icmp_ge d_Rd_readDigits_6 (tgt := 58) rfl (fun q6 => ?_) (fun q6 => absurd (Int32.le_refl _) q6)
    exact hend _ _
  | succ f ih =>
    intro i p num v hi hR hf
    refine hB.iload_n d_Rd_readDigits_4 rfl ?_
    refine hB.iload_n d_Rd_readDigits_5 rfl ?_
    refine hB.icmp_ge d_Rd_readDigits_6 (tgt := 58) rfl (fun q6 => absurd q6 (nI_ge (by omega) hk)) (fun q6 => ?_)
    refine hB.aload_n d_Rd_readDigits_9 rfl ?_
    refine hB.callV lk_Rd_99 cd_Rd_isDigitAhead (k_Rd_isDigitAhead l g ad _ n p hR) rfl (by decide) sK_1 d_Rd_readDigits_10 rfl rfl (by decide) (by simp [Value.category]) ?_
    rintro _ w9 ⟨rfl, hw9⟩
    rw [hw9, sPl_tx]
    refine hB.if_eq d_Rd_readDigits_13 (tgt := 58) rfl (fun q13 => ?_) (fun q13 => ?_)
    · rw [cDs_n (bI_0 q13)] at hf
      subst hf
      exact hend _ _
    · have hd := bI_1 q13
      have hp : p < n := pA_lt (fun q => by rw [q] at hd; exact absurd hd (by decide))
      rw [cDs_s hd] at hf
      refine hB.aload_n d_Rd_readDigits_16 rfl ?_
      refine hB.callV lk_Rd_52 cd_Rd_ahead (k_Rd_ahead l g ad _ n p hR) rfl (by decide) sK_1 d_Rd_readDigits_17 rfl rfl (by decide) (by simp [Value.category]) ?_
      rintro _ w8 ⟨rfl, hw8⟩
      rw [hw8, sPl_tx]
      refine hB.bipush d_Rd_readDigits_20 (v := 48) rfl ?_
      refine hB.isub d_Rd_readDigits_22 ?_
      refine hB.istore d_Rd_readDigits_23 (Nat.le_of_ble_eq_true rfl) ?_
      refine hB.iload_n d_Rd_readDigits_25 rfl ?_
      have hnext : ∀ x : Int32, (if i = 0 then pA (z0.1 2) n p - 48 else 10 * num + (pA (z0.1 2) n p - 48)) = x → K 42 [some (.ref (ad 1)), some (.int (nI k)), some (.int x), some (.int (nI i)), some (.int (pA (z0.1 2) n p - 48))] [] (sPl z0 p) := by
        intro x hx
        refine hB.aload_n d_Rd_readDigits_42 rfl ?_
        refine hB.dup d_Rd_readDigits_43 rfl ?_
        refine hB.getI (Or.inl fa_Rd_19) d_Rd_readDigits_44 (by decide) sK_1 rfl ?_
        refine hB.iconst d_Rd_readDigits_47 (v := 1) rfl ?_
        refine hB.iadd d_Rd_readDigits_48 ?_
        refine hB.putI (Or.inl fa_Rd_19) d_Rd_readDigits_49 (by decide) sK_1 rfl rfl rfl ?_
        rw [hR.2.1, ← nI_succ]
        refine hB.iinc d_Rd_readDigits_52 rfl (v := nI (i + 1)) (nI_succ i).symm ?_
        refine hB.goto d_Rd_readDigits_55 (tgt := 4) rfl ?_
        have e1 : sI (sPl z0 p) 1 2 (nI (p + 1)) = sPl z0 (p + 1) := sI_sI
        rw [e1]
        refine ih (i + 1) (p + 1) x _ (by omega) ?_ (by rw [← hx]; exact hf)
        have := hR.pl (k := p + 1) (by omega)
        rw [sPl_sPl] at this
        exact this
      refine hB.if_ne d_Rd_readDigits_26 (tgt := 34) rfl (fun q26 => ?_) (fun q26 => ?_)
      · have hi0 : ¬ i = 0 := fun q => q26 (by rw [q]; rfl)
        refine hB.bipush d_Rd_readDigits_34 (v := 10) rfl ?_
        refine hB.iload_n d_Rd_readDigits_36 rfl ?_
        refine hB.imul d_Rd_readDigits_37 ?_
        refine hB.iload d_Rd_readDigits_38 rfl ?_
        refine hB.iadd d_Rd_readDigits_40 ?_
        refine hB.istore_n d_Rd_readDigits_41 (Nat.le_of_ble_eq_true rfl) ?_
        exact hnext _ (if_neg hi0)
      · have hi0 : i = 0 := by
          rcases Nat.eq_zero_or_pos i with h | h
          · exact h
          · exact absurd q26 (nI_ne0 h (by omega))
        refine hB.iload d_Rd_readDigits_29 rfl ?_
        refine hB.goto d_Rd_readDigits_31 (tgt := 41) rfl ?_
        refine hB.istore_n d_Rd_readDigits_41 (Nat.le_of_ble_eq_true rfl) ?_
        exact hnext _ (if_pos hi0)
set_option maxRecDepth 100000 in
set_option maxHeartbeats 4000000 in
theorem k_Rd_readDigits (l : Launch) (g : mG) (ad : Nat → Nat) (z : sT) (n p : Nat) (hR : rdA z n p) (k : Nat) (hk : k < 2 ^ 31) : sC l y_Rd_readDigits c_Rd_readDigits 5 (some .int) 2 g ad [.ref (ad 1), .int (nI k)] z (fun r w => r = some (.int (cDs (z.1 2) n k 0 (-1) p).1) ∧ w = sPl z (cDs (z.1 2) n k 0 (-1) p).2) := by
  refine sC.intro (own := R_Rd) rfl (by decide) (by decide) (by simp [Value.category]) (Nat.le_of_ble_eq_true rfl) (fun K hB hE => ?_)
  show K 0 [some (.ref (ad 1)), some (.int (nI k)), none, none, none] [] z
  refine hB.iconst d_Rd_readDigits_0 (v := -1) rfl ?_
  refine hB.istore_n d_Rd_readDigits_1 (Nat.le_of_ble_eq_true rfl) ?_
  refine hB.iconst d_Rd_readDigits_2 (v := 0) rfl ?_
  refine hB.istore_n d_Rd_readDigits_3 (Nat.le_of_ble_eq_true rfl) ?_
  have h0 := hR.self
  rw [← h0]
  refine rd_loop (n := n) hk hB z (cDs (z.1 2) n k 0 (-1) p) (fun v w => ?_) k 0 p (-1) _ (by omega) (by rw [h0]; exact hR) rfl
  refine hB.iload_n d_Rd_readDigits_58 rfl ?_
  exact hE.1 _ _ _ _ _ d_Rd_readDigits_59 rfl rfl ⟨rfl, rfl⟩
