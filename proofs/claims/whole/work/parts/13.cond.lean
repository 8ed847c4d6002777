def eF (E : pE) (b : Nat) (d : Int32) : Int32 := match b with
  | 0 => E.1
  | 1 => E.2.1
  | 2 => E.2.2.1
  | 3 => E.2.2.2.1
  | 4 => E.2.2.2.2.1
  | 5 => E.2.2.2.2.2
  | _ => d
def sEl (z : sT) (e : Nat) (E : pE) : sT := (fun a b => if a = e then eF E b (z.1 a b) else z.1 a b, z.2)
def sQ (z : sT) (e p : Nat) (E : pE) : sT := sEl (sPl z p) e E
theorem sEl_0 {z : sT} {e : Nat} {a b c d u v x : Int32} : sI (sEl z e (a, b, c, d, u, v)) e 0 x = sEl z e (x, b, c, d, u, v) := by
  unfold sI sEl
  congr 1
  funext i j
  by_cases hi : i = e
  · rcases j with _ | _ | _ | _ | _ | _ | j <;> simp [hi, eF]
  · simp [hi]
theorem sQ_0 {z : sT} {e p : Nat} {a b c d u v x : Int32} : sI (sQ z e p (a, b, c, d, u, v)) e 0 x = sQ z e p (x, b, c, d, u, v) := sEl_0
theorem sQ_at0 {z : sT} {e p : Nat} {E : pE} : (sQ z e p E).1 e 0 = E.1 := by
  simp [sQ, sEl, eF]
theorem sEl_1 {z : sT} {e : Nat} {a b c d u v x : Int32} : sI (sEl z e (a, b, c, d, u, v)) e 1 x = sEl z e (a, x, c, d, u, v) := by
  unfold sI sEl
  congr 1
  funext i j
  by_cases hi : i = e
  · rcases j with _ | _ | _ | _ | _ | _ | j <;> simp [hi, eF]
  · simp [hi]
theorem sQ_1 {z : sT} {e p : Nat} {a b c d u v x : Int32} : sI (sQ z e p (a, b, c, d, u, v)) e 1 x = sQ z e p (a, x, c, d, u, v) := sEl_1
theorem sQ_at1 {z : sT} {e p : Nat} {E : pE} : (sQ z e p E).1 e 1 = E.2.1 := by
  simp [sQ, sEl, eF]
theorem sEl_2 {z : sT} {e : Nat} {a b c d u v x : Int32} : sI (sEl z e (a, b, c, d, u, v)) e 2 x = sEl z e (a, b, x, d, u, v) := by
  unfold sI sEl
  congr 1
  funext i j
  by_cases hi : i = e
  · rcases j with _ | _ | _ | _ | _ | _ | j <;> simp [hi, eF]
  · simp [hi]
theorem sQ_2 {z : sT} {e p : Nat} {a b c d u v x : Int32} : sI (sQ z e p (a, b, c, d, u, v)) e 2 x = sQ z e p (a, b, x, d, u, v) := sEl_2
theorem sQ_at2 {z : sT} {e p : Nat} {E : pE} : (sQ z e p E).1 e 2 = E.2.2.1 := by
  simp [sQ, sEl, eF]
theorem sEl_3 {z : sT} {e : Nat} {a b c d u v x : Int32} : sI (sEl z e (a, b, c, d, u, v)) e 3 x = sEl z e (a, b, c, x, u, v) := by
  unfold sI sEl
  congr 1
  funext i j
  by_cases hi : i = e
  · rcases j with _ | _ | _ | _ | _ | _ | j <;> simp [hi, eF]
  · simp [hi]
theorem sQ_3 {z : sT} {e p : Nat} {a b c d u v x : Int32} : sI (sQ z e p (a, b, c, d, u, v)) e 3 x = sQ z e p (a, b, c, x, u, v) := sEl_3
theorem sQ_at3 {z : sT} {e p : Nat} {E : pE} : (sQ z e p E).1 e 3 = E.2.2.2.1 := by
  simp [sQ, sEl, eF]
theorem sEl_4 {z : sT} {e : Nat} {a b c d u v x : Int32} : sI (sEl z e (a, b, c, d, u, v)) e 4 x = sEl z e (a, b, c, d, x, v) := by
  unfold sI sEl
  congr 1
  funext i j
  by_cases hi : i = e
  · rcases j with _ | _ | _ | _ | _ | _ | j <;> simp [hi, eF]
  · simp [hi]
theorem sQ_4 {z : sT} {e p : Nat} {a b c d u v x : Int32} : sI (sQ z e p (a, b, c, d, u, v)) e 4 x = sQ z e p (a, b, c, d, x, v) := sEl_4
theorem sQ_at4 {z : sT} {e p : Nat} {E : pE} : (sQ z e p E).1 e 4 = E.2.2.2.2.1 := by
  simp [sQ, sEl, eF]
theorem sEl_5 {z : sT} {e : Nat} {a b c d u v x : Int32} : sI (sEl z e (a, b, c, d, u, v)) e 5 x = sEl z e (a, b, c, d, u, x) := by
  unfold sI sEl
  congr 1
  funext i j
  by_cases hi : i = e
  · rcases j with _ | _ | _ | _ | _ | _ | j <;> simp [hi, eF]
  · simp [hi]
theorem sQ_5 {z : sT} {e p : Nat} {a b c d u v x : Int32} : sI (sQ z e p (a, b, c, d, u, v)) e 5 x = sQ z e p (a, b, c, d, u, x) := sEl_5
theorem sQ_at5 {z : sT} {e p : Nat} {E : pE} : (sQ z e p E).1 e 5 = E.2.2.2.2.2 := by
  simp [sQ, sEl, eF]
theorem sQ_pl {z : sT} {e p q : Nat} {E : pE} (he : 14 ≤ e) : sI (sQ z e p E) 1 2 (nI q) = sQ z e q E := by
  unfold sQ sEl sPl sI
  congr 1
  funext i j
  by_cases hi : i = e
  · have : ¬ e = 1 := by omega
    simp [hi, this]
  · by_cases h2 : i = 1 ∧ j = 2
    · have : ¬ 1 = e := by omega
      simp [h2, this]
    · simp [hi, h2]
theorem sQ_tx {z : sT} {e p : Nat} {E : pE} (he : 14 ≤ e) : (sQ z e p E).1 2 = z.1 2 := by
  funext j
  have : ¬ 2 = e := by omega
  simp [sQ, sEl, sPl, sI, this]
theorem sQ_p {z : sT} {e p : Nat} {E : pE} (he : 14 ≤ e) : (sQ z e p E).1 1 2 = nI p := by
  have : ¬ 1 = e := by omega
  simp [sQ, sEl, sPl, sI, this]
def rd0 (z : sT) (n : Nat) : Prop := z.1 1 1 = nI n ∧ n ≤ 40 ∧ ∀ i, i < n → ∃ q : Nat, 33 ≤ q ∧ q ≤ 126 ∧ z.1 2 i = nI q
theorem rd0.q {z : sT} {n e p : Nat} {E : pE} (h : rd0 z n) (he : 14 ≤ e) (hp : p ≤ n) : rdA (sQ z e p E) n p := by
  have h1 : ¬ 1 = e := by omega
  refine ⟨?_, sQ_p he, h.2.1, hp, fun i hi => ?_⟩
  · have := h.1
    simpa [sQ, sEl, sPl, sI, h1] using this
  · rw [sQ_tx he]
    exact h.2.2 i hi
theorem rd0.p {z : sT} {n p : Nat} (h : rd0 z n) (hp : p ≤ n) : rdA (sPl z p) n p := by
  refine ⟨?_, by simp [sPl, sI], h.2.1, hp, fun i hi => ?_⟩
  · have := h.1
    simpa [sPl, sI] using this
  · rw [sPl_tx]
    exact h.2.2 i hi
theorem sQ_sPl {z : sT} {e p q : Nat} {E : pE} (he : 14 ≤ e) : sPl (sQ z e p E) q = sQ z e q E := sQ_pl he
theorem pKd_lt {tx : Nat → Int32} {n p : Nat} (h : pKd (pA tx n p) = true) : p < n := pA_lt (fun q => by rw [q] at h; exact absurd h (by decide))
theorem pTs_lt {tx : Nat → Int32} {n p : Nat} (h : pTs (pA tx n p) = true) : p < n := pA_lt (fun q => by rw [q] at h; exact absurd h (by decide))
set_option maxRecDepth 100000 in
set_option maxHeartbeats 4000000 in
theorem k_El_clear (l : Launch) (g : mG) (ad : Nat → Nat) (z : sT) (e : Nat) (he : 14 ≤ e ∧ e < 30) : sC l y_El_clear c_El_clear 1 none 0 g ad [.ref (ad e)] z (fun r w => r = none ∧ w = sEl z e (0, 42, 0, 32, 0, 0)) := by
  refine sC.intro (own := R_El) rfl (by decide) (by decide) (by simp [Value.category]) (Nat.le_of_ble_eq_true rfl) (fun K hB hE => ?_)
  show K 0 [some (.ref (ad e))] [] z
  refine hB.aload_n d_El_clear_0 rfl ?_
  refine hB.iconst d_El_clear_1 (v := 0) rfl ?_
  refine hB.putI (Or.inl fa_El_9) d_El_clear_2 (by omega) (sK_el (by omega) (by omega)) rfl rfl rfl ?_
  refine hB.aload_n d_El_clear_5 rfl ?_
  refine hB.bipush d_El_clear_6 (v := 42) rfl ?_
  refine hB.putI (Or.inl fa_El_15) d_El_clear_8 (by omega) (sK_el (by omega) (by omega)) rfl rfl rfl ?_
  refine hB.aload_n d_El_clear_11 rfl ?_
  refine hB.iconst d_El_clear_12 (v := 0) rfl ?_
  refine hB.putI (Or.inl fa_El_19) d_El_clear_13 (by omega) (sK_el (by omega) (by omega)) rfl rfl rfl ?_
  refine hB.aload_n d_El_clear_16 rfl ?_
  refine hB.bipush d_El_clear_17 (v := 32) rfl ?_
  refine hB.putI (Or.inl fa_El_22) d_El_clear_19 (by omega) (sK_el (by omega) (by omega)) rfl rfl rfl ?_
  refine hB.aload_n d_El_clear_22 rfl ?_
  refine hB.iconst d_El_clear_23 (v := 0) rfl ?_
  refine hB.putI (Or.inl fa_El_25) d_El_clear_24 (by omega) (sK_el (by omega) (by omega)) rfl rfl rfl ?_
  refine hB.aload_n d_El_clear_27 rfl ?_
  refine hB.iconst d_El_clear_28 (v := 0) rfl ?_
  refine hB.putI (Or.inl fa_El_28) d_El_clear_29 (by omega) (sK_el (by omega) (by omega)) rfl rfl rfl ?_
  exact hE.2.2 _ _ _ d_El_clear_32 rfl ⟨rfl, by
      unfold sEl sI
      congr 1
      funext i j
      by_cases hi : i = e
      · rcases j with _ | _ | _ | _ | _ | _ | j <;> simp [hi, eF]
      · simp [hi]⟩
set_option maxRecDepth 100000 in
set_option maxHeartbeats 4000000 in
theorem k_Rd_readCondition (l : Launch) (g : mG) (ad : Nat → Nat) (z : sT) (n k e p : Nat) (bar kd rep : Int32) (hz : rd0 z n) (hp : p < n) (hk : k < 8) (he : 14 ≤ e ∧ e < 30) : sC l y_Rd_readCondition c_Rd_readCondition 5 (some .boolean) 3 g ad [.ref (ad 1), .ref (ad e), .int (nI k)] (sQ z e p (bar, kd, rep, 32, 0, 0)) (fun r w => r = some (.int (bI (cC2 (z.1 2) n k (p + 1)).1)) ∧ w = sQ z e (cC2 (z.1 2) n k (p + 1)).2.1 (bar, kd, rep, pA (z.1 2) n p, (cC2 (z.1 2) n k (p + 1)).2.2)) := by
  refine sC.intro (own := R_Rd) rfl (by decide) (by decide) (by simp [Value.category]) (Nat.le_of_ble_eq_true rfl) (fun K hB hE => ?_)
  show K 0 [some (.ref (ad 1)), some (.ref (ad e)), some (.int (nI k)), none, none] [] (sQ z e p (bar, kd, rep, 32, 0, 0))
  have hA := hz.q (p := p) (E := (bar, kd, rep, 32, 0, 0)) he.1 (by omega)
  refine hB.aload_n d_Rd_readCondition_0 rfl ?_
  refine hB.aload_n d_Rd_readCondition_1 rfl ?_
  refine hB.callV lk_Rd_52 cd_Rd_ahead (k_Rd_ahead l g ad _ n p hA) rfl (by decide) sK_1 d_Rd_readCondition_2 rfl rfl (by decide) (by simp [Value.category]) ?_
  rintro _ w9 ⟨rfl, hw9⟩
  have hw8 := hw9.symm
  clear hw9
  subst hw8
  refine hB.putI (Or.inr fa_Rd_76) d_Rd_readCondition_5 (by omega) (sK_el (by omega) (by omega)) rfl hA.nar hA.fit ?_
  rw [sQ_3, sQ_tx he.1]
  refine hB.aload_n d_Rd_readCondition_8 rfl ?_
  refine hB.dup d_Rd_readCondition_9 rfl ?_
  refine hB.getI (Or.inl fa_Rd_19) d_Rd_readCondition_10 (by decide) sK_1 rfl ?_
  refine hB.iconst d_Rd_readCondition_13 (v := 1) rfl ?_
  refine hB.iadd d_Rd_readCondition_14 ?_
  refine hB.putI (Or.inl fa_Rd_19) d_Rd_readCondition_15 (by decide) sK_1 rfl rfl rfl ?_
  rw [sQ_p he.1, ← nI_succ, sQ_pl he.1]
  refine hB.iload_n d_Rd_readCondition_18 rfl ?_
  have hcont : ∀ w0 : sT, w0 = sQ z e (p + 1) (bar, kd, rep, pA (z.1 2) n p, 0, 0) → ¬ (0 < k ∧ pA (z.1 2) n (p + 1) = 112) → K 38 [some (.ref (ad 1)), some (.ref (ad e)), some (.int (nI k)), none, none] [] w0 := by
    intro w0 hw0 hno
    subst hw0
    refine hB.aload_n d_Rd_readCondition_38 rfl ?_
    refine hB.bipush d_Rd_readCondition_39 (v := 45) rfl ?_
    refine hB.callV lk_Rd_79 cd_Rd_passes (k_Rd_passes l g ad _ n (p + 1) (hz.q he.1 (by omega)) 45) rfl (by decide) sK_1 d_Rd_readCondition_41 rfl rfl (by decide) (by simp [Value.category]) ?_
    rintro _ w9 ⟨rfl, hw9⟩
    rw [hw9, sQ_tx he.1]
    have hcon2 : ∀ (neg : Bool) (x : Nat), decide (pA (z.1 2) n (p + 1) = 45) = neg → x = (if neg then p + 1 + 1 else p + 1) → K 44 [some (.ref (ad 1)), some (.ref (ad e)), some (.int (nI k)), none, none] [.int (bI neg)] (sQ z e x (bar, kd, rep, pA (z.1 2) n p, 0, 0)) := by
      intro neg x hneg hx0
      have hxn : x ≤ n := by
        cases neg
        · simp at hx0; omega
        · have h45 : pA (z.1 2) n (p + 1) = 45 := by simpa using hneg
          have : p + 1 < n := pA_lt (by rw [h45]; decide)
          simp at hx0; omega
      have hA2 := hz.q (e := e) (p := x) (E := (bar, kd, rep, pA (z.1 2) n p, 0, 0)) he.1 hxn
      have e0 : cC2 (z.1 2) n k (p + 1) = (decide (0 ≤ (cDs (z.1 2) n 2 0 (-1) x).1), (cDs (z.1 2) n 2 0 (-1) x).2, 0, if neg then -(cDs (z.1 2) n 2 0 (-1) x).1 else (cDs (z.1 2) n 2 0 (-1) x).1) := by
        unfold cC2
        rw [if_neg hno]
        cases neg
        · have h45 : ¬ pA (z.1 2) n (p + 1) = 45 := by simpa using hneg
          simp at hx0
          rw [if_neg h45, hx0]; rfl
        · have h45 : pA (z.1 2) n (p + 1) = 45 := by simpa using hneg
          simp at hx0
          rw [if_pos h45, hx0]; rfl
      refine hB.istore_n d_Rd_readCondition_44 (Nat.le_of_ble_eq_true rfl) ?_
      refine hB.aload_n d_Rd_readCondition_45 rfl ?_
      refine hB.iconst d_Rd_readCondition_46 (v := 2) rfl ?_
      refine hB.callV lk_Rd_86 cd_Rd_readDigits (k_Rd_readDigits l g ad _ n x hA2 2 (by decide)) rfl (by decide) sK_1 d_Rd_readCondition_47 rfl rfl (by decide) (by simp [Value.category]) ?_
      rintro _ w9 ⟨rfl, hw9⟩
      rw [hw9, sQ_tx he.1, sQ_sPl he.1]
      refine hB.istore d_Rd_readCondition_50 (Nat.le_of_ble_eq_true rfl) ?_
      refine hB.aload_n d_Rd_readCondition_52 rfl ?_
      refine hB.iload_n d_Rd_readCondition_53 rfl ?_
      refine hB.if_eq d_Rd_readCondition_54 (tgt := 63) rfl (fun q54 => ?_) (fun q54 => ?_)
      · have hneg1 := bI_0 q54
        refine hB.iload d_Rd_readCondition_63 rfl ?_
        refine hB.putI (Or.inr fa_Rd_90) d_Rd_readCondition_65 (by omega) (sK_el (by omega) (by omega)) rfl rfl rfl ?_
        rw [sQ_5]
        refine hB.iload d_Rd_readCondition_68 rfl ?_
        refine hB.if_lt d_Rd_readCondition_70 (tgt := 77) rfl (fun q70 => ?_) (fun q70 => ?_)
        · refine hB.iconst d_Rd_readCondition_77 (v := 0) rfl ?_
          exact hE.1 _ _ _ _ _ d_Rd_readCondition_78 rfl rfl ⟨by rw [e0]; first | (have h9 := Int32.not_lt.mp q70; simp [bI, h9]; done) | (have h9 := Int32.not_le.mpr q70; simp [bI, h9]), by rw [e0, hneg1]; rfl⟩
        · refine hB.iconst d_Rd_readCondition_73 (v := 1) rfl ?_
          refine hB.goto d_Rd_readCondition_74 (tgt := 78) rfl ?_
          exact hE.1 _ _ _ _ _ d_Rd_readCondition_78 rfl rfl ⟨by rw [e0]; first | (have h9 := Int32.not_lt.mp q70; simp [bI, h9]; done) | (have h9 := Int32.not_le.mpr q70; simp [bI, h9]), by rw [e0, hneg1]; rfl⟩
      · have hneg1 := bI_1 q54
        refine hB.iload d_Rd_readCondition_57 rfl ?_
        refine hB.ineg d_Rd_readCondition_59 ?_
        refine hB.goto d_Rd_readCondition_60 (tgt := 65) rfl ?_
        refine hB.putI (Or.inr fa_Rd_90) d_Rd_readCondition_65 (by omega) (sK_el (by omega) (by omega)) rfl rfl rfl ?_
        rw [sQ_5]
        refine hB.iload d_Rd_readCondition_68 rfl ?_
        refine hB.if_lt d_Rd_readCondition_70 (tgt := 77) rfl (fun q70 => ?_) (fun q70 => ?_)
        · refine hB.iconst d_Rd_readCondition_77 (v := 0) rfl ?_
          exact hE.1 _ _ _ _ _ d_Rd_readCondition_78 rfl rfl ⟨by rw [e0]; first | (have h9 := Int32.not_lt.mp q70; simp [bI, h9]; done) | (have h9 := Int32.not_le.mpr q70; simp [bI, h9]), by rw [e0, hneg1]; rfl⟩
        · refine hB.iconst d_Rd_readCondition_73 (v := 1) rfl ?_
          refine hB.goto d_Rd_readCondition_74 (tgt := 78) rfl ?_
          exact hE.1 _ _ _ _ _ d_Rd_readCondition_78 rfl rfl ⟨by rw [e0]; first | (have h9 := Int32.not_lt.mp q70; simp [bI, h9]; done) | (have h9 := Int32.not_le.mpr q70; simp [bI, h9]), by rw [e0, hneg1]; rfl⟩
    by_cases h45 : pA (z.1 2) n (p + 1) = 45
    · rw [if_pos h45, sQ_pl he.1]
      exact hcon2 _ (p + 1 + 1) rfl (by simp [h45])
    · rw [if_neg h45]
      exact hcon2 _ (p + 1) rfl (by simp [h45])
  refine hB.if_le d_Rd_readCondition_19 (tgt := 38) rfl (fun q19 => hcont _ rfl (fun q => absurd q19 (nI_nle q.1 (by omega)))) (fun q19 => ?_)
  refine hB.aload_n d_Rd_readCondition_22 rfl ?_
  refine hB.bipush d_Rd_readCondition_23 (v := 112) rfl ?_
  refine hB.callV lk_Rd_79 cd_Rd_passes (k_Rd_passes l g ad _ n (p + 1) (hz.q he.1 (by omega)) 112) rfl (by decide) sK_1 d_Rd_readCondition_25 rfl rfl (by decide) (by simp [Value.category]) ?_
  rintro _ w9 ⟨rfl, hw9⟩
  rw [hw9, sQ_tx he.1]
  refine hB.if_eq d_Rd_readCondition_28 (tgt := 38) rfl (fun q28 => ?_) (fun q28 => ?_)
  · have h28 : ¬ pA (z.1 2) n (p + 1) = 112 := by simpa using bI_0 q28
    rw [if_neg h28]
    exact hcont _ rfl (fun q => h28 q.2)
  have h28 : pA (z.1 2) n (p + 1) = 112 := by simpa using bI_1 q28
  have hk0 : 0 < k := by
    rcases Nat.eq_zero_or_pos k with h | h
    · rw [h] at q19; exact absurd (show nI 0 ≤ 0 from Int32.le_refl _) q19
    · exact h
  have e0 : cC2 (z.1 2) n k (p + 1) = (true, p + 1 + 1, 1, 0) := by unfold cC2; rw [if_pos ⟨hk0, h28⟩]
  rw [if_pos h28, sQ_pl he.1]
  refine hB.aload_n d_Rd_readCondition_31 rfl ?_
  refine hB.iconst d_Rd_readCondition_32 (v := 1) rfl ?_
  refine hB.putI (Or.inr fa_Rd_83) d_Rd_readCondition_33 (by omega) (sK_el (by omega) (by omega)) rfl rfl rfl ?_
  rw [sQ_4]
  refine hB.iconst d_Rd_readCondition_36 (v := 1) rfl ?_
  exact hE.1 _ _ _ _ _ d_Rd_readCondition_37 rfl rfl ⟨by rw [e0]; rfl, by rw [e0]⟩
