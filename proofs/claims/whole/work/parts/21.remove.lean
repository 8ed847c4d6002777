def sSh (z : sT) (q i j : Nat) : sT := (z.1, fun a b => if a = q + 1 ∧ i ≤ b ∧ b + 1 < j then z.2.1 a (b + 1) else z.2.1 a b, z.2.2)
theorem sSh_0 {z : sT} {q i : Nat} : sSh z q i (i + 1) = z := by
  unfold sSh
  have : (fun a b => if a = q + 1 ∧ i ≤ b ∧ b + 1 < i + 1 then z.2.1 a (b + 1) else z.2.1 a b) = z.2.1 := by
    funext a b
    rw [if_neg (by omega)]
  rw [this]
theorem sSh_s {z : sT} {q i j : Nat} (hij : i + 1 ≤ j) : sP (sSh z q i j) (q + 1) (j - 1) (z.2.1 (q + 1) j) = sSh z q i (j + 1) := by
  unfold sSh sP
  congr 2
  funext a b
  show (if a = q + 1 ∧ b = j - 1 then z.2.1 (q + 1) j else (if a = q + 1 ∧ i ≤ b ∧ b + 1 < j then z.2.1 a (b + 1) else z.2.1 a b)) = (if a = q + 1 ∧ i ≤ b ∧ b + 1 < j + 1 then z.2.1 a (b + 1) else z.2.1 a b)
  by_cases ha : a = q + 1
  · subst ha
    by_cases hb : b = j - 1
    · subst hb
      rw [if_pos ⟨rfl, rfl⟩, if_pos ⟨rfl, by omega, by omega⟩, show j - 1 + 1 = j by omega]
    · rw [if_neg (fun h => hb h.2)]
      by_cases h1 : i ≤ b ∧ b + 1 < j
      · rw [if_pos ⟨rfl, h1⟩, if_pos ⟨rfl, h1.1, by omega⟩]
      · rw [if_neg (fun h => h1 h.2), if_neg (fun h => h1 ⟨h.2.1, by omega⟩)]
  · rw [if_neg (fun h => ha h.1), if_neg (fun h => ha h.1), if_neg (fun h => ha h.1)]
theorem sSh_j {z : sT} {q i j : Nat} : (sSh z q i j).2.1 (q + 1) j = z.2.1 (q + 1) j := by
  show (if q + 1 = q + 1 ∧ i ≤ j ∧ j + 1 < j then _ else _) = _
  rw [if_neg (by omega)]
def sRm (z : sT) (q i c : Nat) : sT := sP (sI (sSh z q i c) q 1 (nI (c - 1))) (q + 1) (c - 1) (z.2.1 (q + 1) i)
set_option maxRecDepth 100000 in
set_option maxHeartbeats 4000000 in
theorem k_RL_remove (l : Launch) (g : mG) (ad : Nat → Nat) (z : sT) (q i c : Nat) (hq : q = 3 ∨ q = 5) (hc : z.1 q 1 = nI c) (hc4 : c ≤ 24) (hi : i < c) (hrow : ∀ j, j < 24 → 30 ≤ z.2.1 (q + 1) j ∧ z.2.1 (q + 1) j < 78) : sC l y_RL_remove c_RL_remove 4 none 2 g ad [.ref (ad q), .int (nI i)] z (fun r w => r = none ∧ w = sRm z q i c) := by
  refine sC.intro (own := R_RL) rfl (by decide) (by decide) (by simp [Value.category]) (Nat.le_of_ble_eq_true rfl) (fun K hB hE => ?_)
  show K 0 [some (.ref (ad q)), some (.int (nI i)), none, none] [] z
  have h48 : ∀ j : Nat, j = c → K 48 [some (.ref (ad q)), some (.int (nI i)), some (.ref (ad (z.2.1 (q + 1) i))), some (.int (nI j))] [] (sSh z q i j) := by
    intro j hj
    have hjc : j = c := by omega
    subst hjc
    have hg := hrow i (by omega)
    have hz1 : (sSh z q i j).1 = z.1 := rfl
    refine hB.aload_n d_RL_remove_48 rfl ?_
    refine hB.dup d_RL_remove_49 rfl ?_
    refine hB.getI (Or.inl fa_RL_18) d_RL_remove_50 (by omega) (sK_rl hq) rfl ?_
    refine hB.iconst d_RL_remove_53 (v := 1) rfl ?_
    refine hB.isub d_RL_remove_54 ?_
    refine hB.putI (Or.inl fa_RL_18) d_RL_remove_55 (by omega) (sK_rl hq) rfl rfl rfl ?_
    have e1 : (sSh z q i j).1 q 1 - 1 = nI (j - 1) := by
      rw [hz1, hc, show (1 : Int32) = nI 1 from rfl, pk_sub (by omega)]
    rw [e1]
    refine hB.aload_n d_RL_remove_58 rfl ?_
    refine hB.getC (Or.inl fa_RL_11) d_RL_remove_59 (by omega) (sK_rl hq) rfl ?_
    refine hB.aload_n d_RL_remove_62 rfl ?_
    refine hB.getI (Or.inl fa_RL_18) d_RL_remove_63 (by omega) (sK_rl hq) rfl ?_
    refine hB.aload_n d_RL_remove_66 rfl ?_
    have e2 : (sI (sSh z q i j) q 1 (nI (j - 1))).1 q 1 = nI (j - 1) := by simp [sI]
    refine hB.aast4 d_RL_remove_67 (by omega) (sK_rows hq) e2 (by omega) (by decide) (by omega) (sK_run (by omega) (by omega)) ?_
    exact hE.2.2 _ _ _ d_RL_remove_68 rfl ⟨rfl, rfl⟩
  have h20 : ∀ f j : Nat, j + f = c → i + 1 ≤ j → K 20 [some (.ref (ad q)), some (.int (nI i)), some (.ref (ad (z.2.1 (q + 1) i))), some (.int (nI j))] [] (sSh z q i j) := by
    intro f
    induction f with
    | zero =>
      intro j hj hij
      refine hB.iload_n d_RL_remove_20 rfl ?_
      refine hB.aload_n d_RL_remove_21 rfl ?_
      refine hB.getI (Or.inl fa_RL_18) d_RL_remove_22 (by omega) (sK_rl hq) rfl ?_
      have e0 : (sSh z q i j).1 q 1 = nI c := hc
      rw [e0]
      refine hB.icmp_ge d_RL_remove_25 (tgt := 48) rfl (fun q25 => ?_) (fun q25 => absurd (nI_le (by omega) (by omega)) q25)
      exact h48 j (by omega)
    | succ f ih =>
      intro j hj hij
      refine hB.iload_n d_RL_remove_20 rfl ?_
      refine hB.aload_n d_RL_remove_21 rfl ?_
      refine hB.getI (Or.inl fa_RL_18) d_RL_remove_22 (by omega) (sK_rl hq) rfl ?_
      refine hB.icmp_ge d_RL_remove_25 (tgt := 48) rfl (fun q25 => absurd q25 (by have e0 : (sSh z q i j).1 q 1 = nI c := hc; rw [e0]; exact nI_ge (by omega) (by omega))) (fun q25 => ?_)
      have hg := hrow j (by omega)
      refine hB.aload_n d_RL_remove_28 rfl ?_
      refine hB.getC (Or.inl fa_RL_11) d_RL_remove_29 (by omega) (sK_rl hq) rfl ?_
      refine hB.iload_n d_RL_remove_32 rfl ?_
      refine hB.iconst d_RL_remove_33 (v := 1) rfl ?_
      refine hB.isub d_RL_remove_34 ?_
      refine hB.aload_n d_RL_remove_35 rfl ?_
      refine hB.getC (Or.inl fa_RL_11) d_RL_remove_36 (by omega) (sK_rl hq) rfl ?_
      refine hB.iload_n d_RL_remove_39 rfl ?_
      have e3 : nI j - 1 = nI (j - 1) := by rw [show (1 : Int32) = nI 1 from rfl, pk_sub (by omega)]
      refine hB.aald4 d_RL_remove_40 (by omega) (sK_rows hq) rfl (by omega) (by decide) ?_
      rw [sRf_0, sSh_j]
      refine hB.aast4 d_RL_remove_41 (by omega) (sK_rows hq) e3 (by omega) (by decide) (by omega) (sK_run (by omega) (by omega)) ?_
      rw [sSh_s hij]
      refine hB.iinc d_RL_remove_42 rfl (v := nI (j + 1)) (nI_succ j).symm ?_
      refine hB.goto d_RL_remove_45 (tgt := 20) rfl ?_
      exact ih (j + 1) (by omega) (by omega)
  refine hB.aload_n d_RL_remove_0 rfl ?_
  refine hB.iload_n d_RL_remove_1 rfl ?_
  refine hB.callV lk_RL_26 cd_RL_has (k_RL_has l g ad z q (nI i) hq) rfl (by omega) (sK_rl hq) d_RL_remove_2 rfl rfl (by decide) (by simp [Value.category]) ?_
  rintro _ w9 ⟨rfl, hw9⟩
  have hw8 := hw9.symm
  clear hw9
  subst hw8
  have h1 : fWi (nI i) 0 (z.1 q 1 - 1) = 1 := by
    have e1 : z.1 q 1 - 1 = nI (c - 1) := by rw [hc, show (1 : Int32) = nI 1 from rfl, pk_sub (by omega)]
    rw [e1]
    unfold fWi
    rw [if_neg (nI_pos (by omega)), if_neg (nI_nlt (by omega) (by omega))]
  rw [h1]
  refine hB.if_ne d_RL_remove_5 (tgt := 9) rfl (fun q5 => ?_) (fun q5 => absurd q5 (by decide))
  refine hB.aload_n d_RL_remove_9 rfl ?_
  refine hB.getC (Or.inl fa_RL_11) d_RL_remove_10 (by omega) (sK_rl hq) rfl ?_
  refine hB.iload_n d_RL_remove_13 rfl ?_
  refine hB.aald4 d_RL_remove_14 (by omega) (sK_rows hq) rfl (by omega) (by decide) ?_
  rw [sRf_0]
  refine hB.astore_n d_RL_remove_15 (Nat.le_of_ble_eq_true rfl) ?_
  refine hB.iload_n d_RL_remove_16 rfl ?_
  refine hB.iconst d_RL_remove_17 (v := 1) rfl ?_
  refine hB.iadd d_RL_remove_18 ?_
  refine hB.istore_n d_RL_remove_19 (Nat.le_of_ble_eq_true rfl) ?_
  have e9 := h20 (c - (i + 1)) (i + 1) (by omega) (by omega)
  rw [sSh_0] at e9
  rw [← nI_succ]
  exact e9
