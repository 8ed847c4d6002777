abbrev aA : Type := List rR × List rR × List rR × Int32 × Int32 × Int32
def aOne (C : eC) (S : aA) (R : rR) (m : Nat) : aA := (S.1 ++ (aKp C R).toList, S.2.1 ++ (aPt C (decide (S.1.length + (m + S.2.1.length) + 1 < 24)) R).toList, S.2.2.1 ++ (aMt C R).toList, S.2.2.2.1 + aDr C (decide (S.1.length + (m + S.2.1.length) + 1 < 24)) R, S.2.2.2.2.1 + aLa C R, S.2.2.2.2.2 + aBa C R)
def aLook (C : eC) : aA → List rR → aA
  | S, [] => S
  | S, R :: rem => aLook C (aOne C S R rem.length) rem
def lkA (z : sT) (pt : Nat) (C : eC) (S : aA) (rem : List rR) (w : sT) : Prop :=
  frE z w ∧ evC w pt C ∧ rwA w ∧ lsA w 3 (S.1 ++ (rem ++ S.2.1)) ∧ lsA w 5 S.2.2.1 ∧ w.1 0 9 = S.2.2.2.1 ∧ w.1 0 10 = S.2.2.2.2.1 ∧ w.1 0 11 = S.2.2.2.2.2 ∧ zEq z w
theorem frE.trans {z w v : sT} (h : frE z w) (h2 : frE w v) : frE z v := ⟨h2.1.trans h.1, fun a a1 a2 a3 a4 => (h2.2 a a1 a2 a3 a4).trans (h.2 a a1 a2 a3 a4)⟩
theorem zEq.trans {z w v : sT} (h : zEq z w) (h2 : zEq w v) : zEq z v := fun j a1 a2 a3 => (h2 j a1 a2 a3).trans (h j a1 a2 a3)
theorem sRm_row {z : sT} {q i c a : Nat} (h : a ≠ q) : (sRm z q i c).1 a = z.1 a := by
  show (sI (sSh z q i c) q 1 (nI (c - 1))).1 a = _
  rw [sI_row h]
  rfl
theorem sRm_ref {z : sT} {q i c a : Nat} (h : a ≠ q + 1) : (sRm z q i c).2.1 a = z.2.1 a := by
  funext j
  show (if a = q + 1 ∧ j = c - 1 then z.2.1 (q + 1) i else (if a = q + 1 ∧ i ≤ j ∧ j + 1 < c then z.2.1 a (j + 1) else z.2.1 a j)) = _
  rw [if_neg (fun q => h q.1), if_neg (fun q => h q.1)]
theorem rOk_take {C : eC} {R : rR} (h : rOk C R) (hs : R.2.1 < 12) : rOk C (aTk C R R.1) := ⟨h.1, by show R.2.1 + 1 ≤ 12 + R.1; omega⟩
theorem rOk_next {C : eC} {R : rR} (h : rOk C R) (hn : ¬ R.1 + 1 + 1 = (xSl C).length) : rOk C (aTk C R (R.1 + 1)) := by
  have h1 := h.1
  have h2 := h.2
  refine ⟨?_, ?_⟩
  · show R.1 + 1 + 1 < (xSl C).length
    omega
  · show R.2.1 + 1 ≤ 12 + (R.1 + 1)
    omega
theorem aSt_12 {C : eC} {R : rR} (h : aSt C R = true) : R.2.1 < 12 := by
  unfold aSt at h
  simp only [Bool.and_eq_true, decide_eq_true_eq] at h
  exact h.2.1
theorem aKp_ok {C : eC} {R : rR} (h : rOk C R) : ∀ Q ∈ (aKp C R).toList, rOk C Q := by
  intro Q hQ
  unfold aKp at hQ
  cases hl : aLt C R <;> rw [hl] at hQ
  · cases hb : aBr C R <;> rw [hb] at hQ
    · cases hs : aSt C R <;> rw [hs] at hQ
      · cases hg : aGo C R <;> rw [hg] at hQ
        · simp at hQ; rw [hQ]; exact h
        · cases hc : aCm C R <;> rw [hc] at hQ
          · simp at hQ
            rw [hQ]
            refine rOk_next h (fun q => ?_)
            unfold aCm at hc
            rw [hg, decide_eq_true q] at hc
            cases hc
          · simp at hQ
      · simp at hQ
        rw [hQ]
        exact rOk_take h (aSt_12 hs)
    · simp at hQ
  · simp at hQ
theorem aPt_ok {C : eC} {R : rR} {b : Bool} (h : rOk C R) : ∀ Q ∈ (aPt C b R).toList, rOk C Q := by
  intro Q hQ
  unfold aPt at hQ
  cases hl : aLt C R <;> rw [hl] at hQ
  · cases hb : aBr C R <;> rw [hb] at hQ
    · cases hs : aAp C R <;> rw [hs] at hQ
      · simp at hQ
      · cases b
        · simp at hQ
        · simp at hQ
          rw [hQ]
          refine rOk_next h (fun q => ?_)
          unfold aAp at hs
          simp only [Bool.and_eq_true] at hs
          have h1 : aCm C R = true := by unfold aCm; rw [hs.1, decide_eq_true q]; rfl
          rw [h1] at hs
          exact absurd hs.2.2 (by decide)
    · simp at hQ
  · simp at hQ
theorem toList_le {o : Option rR} : o.toList.length ≤ 1 := by cases o <;> simp
def sOk (C : eC) (S : aA) : Prop := (∀ Q ∈ S.1, rOk C Q) ∧ (∀ Q ∈ S.2.1, rOk C Q)
theorem aOne_ok {C : eC} {S : aA} {R : rR} {m : Nat} (hS : sOk C S) (h : rOk C R) : sOk C (aOne C S R m) := by
  refine ⟨fun Q hQ => ?_, fun Q hQ => ?_⟩
  · rcases List.mem_append.mp hQ with q | q
    · exact hS.1 Q q
    · exact aKp_ok h Q q
  · rcases List.mem_append.mp hQ with q | q
    · exact hS.2 Q q
    · exact aPt_ok h Q q
theorem aLook_ok {C : eC} : ∀ (rem : List rR) (S : aA), sOk C S → (∀ Q ∈ rem, rOk C Q) → sOk C (aLook C S rem)
  | [], S, hS, _ => hS
  | R :: rem, S, hS, h => aLook_ok rem _ (aOne_ok hS (h R (List.mem_cons_self ..))) (fun Q hQ => h Q (List.mem_cons_of_mem _ hQ))
theorem aPt_none {C : eC} {R : rR} {b : Bool} (h : aKp C R = none) : aPt C b R = none := by
  unfold aKp at h
  unfold aPt
  cases hl : aLt C R <;> rw [hl] at h
  · cases hb : aBr C R <;> rw [hb] at h
    · cases hs : aSt C R <;> rw [hs] at h
      · have : aAp C R = false := by unfold aAp; rw [hs]; simp
        rw [this]; rfl
      · simp at h
    · rfl
  · rfl
theorem len_mid {a b : List rR} {R : rR} : (a ++ R :: b).length = a.length + b.length + 1 := by simp; omega
theorem look_one {z w v : sT} {pt : Nat} {C : eC} {S : aA} {R : rR} {rem : List rR} (h : lkA z pt C S (R :: rem) w) (hv : stPost w C S.1 (rem ++ S.2.1) S.2.2.1 R v) :
    (∀ Q, aKp C R = some Q → lkA z pt C (aOne C S R rem.length) rem v) ∧ (aKp C R = none → lkA z pt C (aOne C S R rem.length) rem (sRm v 3 S.1.length (S.1 ++ (rem ++ S.2.1)).length.succ)) := by
  obtain ⟨h1, h2, h3, h4, h5, h6, h7, h8, h9⟩ := h
  obtain ⟨v1, v2, v3, v4, v5, v6, v7, v8⟩ := hv
  have hrm : rm24 (S.1 ++ R :: (rem ++ S.2.1)) = decide (S.1.length + (rem.length + S.2.1.length) + 1 < 24) := by
    unfold rm24
    rw [len_mid, List.length_append]
  rw [hrm] at v3 v5
  have hwv : rwA v := by
    unfold rwA
    rw [v2]
    exact h3
  constructor
  · intro Q hQ
    refine ⟨h1.trans v1, h2.fr v1, hwv, ?_, v4, ?_, ?_, ?_, h9.trans v8⟩
    · have e1 : (aOne C S R rem.length).1 ++ (rem ++ (aOne C S R rem.length).2.1) = S.1 ++ (aKp C R).getD R :: (rem ++ S.2.1) ++ (aPt C (decide (S.1.length + (rem.length + S.2.1.length) + 1 < 24)) R).toList := by
        simp [aOne, hQ]
      rw [e1]
      exact v3
    · rw [v5, h6]; rfl
    · rw [v6, h7]; rfl
    · rw [v7, h8]; rfl
  · intro hN
    have hp := aPt_none (b := decide (S.1.length + (rem.length + S.2.1.length) + 1 < 24)) hN
    rw [hN, hp] at v3
    have v3' : lsA v 3 (S.1 ++ R :: (rem ++ S.2.1)) := by simpa using v3
    have hlen : (S.1 ++ R :: (rem ++ S.2.1)).length = (S.1 ++ (rem ++ S.2.1)).length.succ := by
      rw [len_mid, List.length_append, List.length_append, List.length_append]
    have hr := v3'.rem rfl hwv
    rw [hlen] at hr
    generalize hn : (S.1 ++ (rem ++ S.2.1)).length.succ = n9 at hr
    have f1 : frE v (sRm v 3 S.1.length n9) := ⟨sRm_ref (by omega), fun a a1 a2 a3 a4 => sRm_row a2⟩
    have f0 : (sRm v 3 S.1.length n9).1 0 = v.1 0 := sRm_row (by omega)
    have e1 : (aOne C S R rem.length).1 ++ (rem ++ (aOne C S R rem.length).2.1) = S.1 ++ (rem ++ S.2.1) := by
      simp [aOne, hN, hp]
    refine ⟨(h1.trans v1).trans f1, (h2.fr v1).fr f1, hr.2, ?_, ?_, ?_, ?_, ?_, (h9.trans v8).trans (fun j _ _ _ => by rw [f0])⟩
    · rw [e1]
      exact hr.1
    · have v4' : lsA v 5 (aOne C S R rem.length).2.2.1 := v4
      refine ⟨by rw [sRm_row (by omega)]; exact v4'.1, v4'.2.1, fun i Q hi => ?_⟩
      have hl := (List.getElem?_eq_some_iff.mp hi).1
      have h24 := v4'.2.1
      have hg := v4'.2.2 i Q hi
      rw [sRm_ref (show (5 : Nat) + 1 ≠ 3 + 1 by omega)]
      have hq := hwv.2.2 i (by omega)
      exact hg.fr (sRm_row (by show v.2.1 6 i ≠ 3; omega)) (sRm_row (by show v.2.1 6 i + 48 ≠ 3; omega))
    · rw [f0, v5, h6]; rfl
    · rw [f0, v6, h7]; rfl
    · rw [f0, v7, h8]; rfl
set_option maxRecDepth 100000 in
set_option maxHeartbeats 4000000 in
theorem k_Pw_lookAtRuns (l : Launch) (g : mG) (ad : Nat → Nat) (z : sT) (pt : Nat) (C : eC) (rs : List rR) (hev : evC z pt C) (hw : rwA z) (h3 : lsA z 3 rs) (h5 : lsA z 5 []) (hok : ∀ Q ∈ rs, rOk C Q) : sC l y_Pw_lookAtRuns c_Pw_lookAtRuns 4 none 5 g ad [.ref (ad 0)] z (fun r9 w => r9 = none ∧ lkA z pt C (aLook C ([], [], [], z.1 0 9, z.1 0 10, z.1 0 11) rs) [] w) := by
  refine sC.intro (own := R_Pw) rfl (by decide) (by decide) (by simp [Value.category]) (Nat.le_of_ble_eq_true rfl) (fun K hB hE => ?_)
  show K 0 [some (.ref (ad 0)), none, none, none] [] z
  have h240 := h3.2.1
  have h12 : ∀ (rem : List rR) (S : aA) (p j : Nat) (w : sT), p = S.1.length → j + rem.length = rs.length → (∀ Q ∈ rem, rOk C Q) → S.2.2.1.length + rem.length ≤ 24 → aLook C S rem = aLook C ([], [], [], z.1 0 9, z.1 0 10, z.1 0 11) rs → lkA z pt C S rem w → K 12 [some (.ref (ad 0)), some (.int (nI rs.length)), some (.int (nI p)), some (.int (nI j))] [] w := by
    intro rem
    induction rem with
    | nil =>
      intro S p j w hp hj hR hm hb hL
      have hj0 : j = rs.length := hj
      subst hj0
      refine hB.iload_n d_Pw_lookAtRuns_12 rfl ?_
      refine hB.iload_n d_Pw_lookAtRuns_13 rfl ?_
      refine hB.icmp_ge d_Pw_lookAtRuns_14 (tgt := 53) rfl (fun q14 => ?_) (fun q14 => absurd (nI_le (Nat.le_refl _) (by omega)) q14)
      exact hE.2.2 _ _ _ d_Pw_lookAtRuns_53 rfl ⟨rfl, by rw [← hb]; exact hL⟩
    | cons R rem ih =>
      intro S p j w hp hj hR hm hb hL
      subst hp
      have hj2 : j + rem.length + 1 = rs.length := by rw [List.length_cons] at hj; omega
      have hm2 : S.2.2.1.length + rem.length + 1 ≤ 24 := by rw [List.length_cons] at hm; omega
      have h4 : lsA w 3 (S.1 ++ R :: (rem ++ S.2.1)) := hL.2.2.2.1
      have h24 := h4.2.1
      rw [len_mid] at h24
      have h47 : ∀ (v : sT) (p : Nat), p = (aOne C S R rem.length).1.length → lkA z pt C (aOne C S R rem.length) rem v → K 47 [some (.ref (ad 0)), some (.int (nI rs.length)), some (.int (nI p)), some (.int (nI j))] [] v := by
        intro v p hp hv
        refine hB.iinc d_Pw_lookAtRuns_47 rfl (v := nI (j + 1)) (nI_succ j).symm ?_
        refine hB.goto d_Pw_lookAtRuns_50 (tgt := 12) rfl ?_
        refine ih (aOne C S R rem.length) p (j + 1) v hp (by omega) (fun Q hQ => hR Q (List.mem_cons_of_mem _ hQ)) ?_ hb hv
        have e1 : (aOne C S R rem.length).2.2.1.length = S.2.2.1.length + (aMt C R).toList.length := List.length_append
        have e2 := toList_le (o := aMt C R)
        omega
      refine hB.iload_n d_Pw_lookAtRuns_12 rfl ?_
      refine hB.iload_n d_Pw_lookAtRuns_13 rfl ?_
      refine hB.icmp_ge d_Pw_lookAtRuns_14 (tgt := 53) rfl (fun q14 => absurd q14 (nI_ge (by omega) (by omega))) (fun q14 => ?_)
      refine hB.aload_n d_Pw_lookAtRuns_17 rfl ?_
      refine hB.aload_n d_Pw_lookAtRuns_18 rfl ?_
      refine hB.getC (Or.inl fa_Pw_19) d_Pw_lookAtRuns_19 (by decide) sK_0 rfl ?_
      refine hB.getC (Or.inr fa_Pw_131) d_Pw_lookAtRuns_22 (by decide) (sK_rl (Or.inl rfl)) rfl ?_
      refine hB.iload_n d_Pw_lookAtRuns_25 rfl ?_
      refine hB.aald4 d_Pw_lookAtRuns_26 (by decide) (sK_rows (Or.inl rfl)) rfl (by omega) (by decide) ?_
      rw [sRf_0]
      refine hB.callV lk_Pw_171 cd_Pw_staysInList (k_stays l g ad hL.2.1 hL.2.2.1 h4 hL.2.2.2.2.1 (by omega) (hR R (List.mem_cons_self ..))) rfl (by decide) sK_0 d_Pw_lookAtRuns_27 rfl rfl (by decide) (by simp [Value.category]) ?_
      rintro _ v ⟨rfl, hv⟩
      have h9 := look_one hL hv
      refine hB.if_eq d_Pw_lookAtRuns_30 (tgt := 39) rfl (fun q30 => ?_) (fun q30 => ?_)
      · have hb := bI_0 q30
        have hN : aKp C R = none := by cases h : aKp C R with
          | none => rfl
          | some Q => rw [h] at hb; cases hb
        have hv3 := hv.2.2.1
        rw [hN, aPt_none hN] at hv3
        have hv4 : lsA v 3 (S.1 ++ R :: (rem ++ S.2.1)) := by simpa using hv3
        have hc9 := hv4.1
        rw [len_mid] at hc9
        have hl9 : (S.1 ++ (rem ++ S.2.1)).length.succ = S.1.length + (rem ++ S.2.1).length + 1 := by rw [List.length_append]
        have hL9 := h9.2 hN
        rw [hl9] at hL9
        have hrow9 : ∀ j, j < 24 → 30 ≤ v.2.1 (3 + 1) j ∧ v.2.1 (3 + 1) j < 78 := fun j hj => by
          rw [hv.2.1]
          have := hL.2.2.1.1 j hj
          exact ⟨this.1, Nat.lt_of_lt_of_le this.2 (by decide)⟩
        refine hB.aload_n d_Pw_lookAtRuns_39 rfl ?_
        refine hB.getC (Or.inl fa_Pw_19) d_Pw_lookAtRuns_40 (by decide) sK_0 rfl ?_
        refine hB.iload_n d_Pw_lookAtRuns_43 rfl ?_
        refine hB.callVN lk_Pw_175 cd_RL_remove (k_RL_remove l g ad v 3 S.1.length _ (Or.inl rfl) hc9 (by omega) (by omega) hrow9) rfl (by decide) (sK_rl (Or.inl rfl)) d_Pw_lookAtRuns_44 rfl rfl (by decide) (by simp [Value.category]) ?_
        rintro _ v9 ⟨rfl, hv9⟩
        rw [hv9]
        exact h47 _ S.1.length (by simp [aOne, hN]) hL9
      · have hb := bI_1 q30
        have hQ : ∃ Q, aKp C R = some Q := by cases h : aKp C R with
          | none => rw [h] at hb; cases hb
          | some Q => exact ⟨Q, rfl⟩
        obtain ⟨Q, hQ⟩ := hQ
        refine hB.iinc d_Pw_lookAtRuns_33 rfl (v := nI (S.1.length + 1)) (nI_succ _).symm ?_
        refine hB.goto d_Pw_lookAtRuns_36 (tgt := 47) rfl ?_
        exact h47 v (S.1.length + 1) (by simp [aOne, hQ]) (h9.1 Q hQ)
  have h24 := h3.2.1
  refine hB.aload_n d_Pw_lookAtRuns_0 rfl ?_
  refine hB.getC (Or.inl fa_Pw_19) d_Pw_lookAtRuns_1 (by decide) sK_0 rfl ?_
  refine hB.getI (Or.inr fa_Pw_119) d_Pw_lookAtRuns_4 (by decide) (sK_rl (Or.inl rfl)) rfl ?_
  refine hB.istore_n d_Pw_lookAtRuns_7 (Nat.le_of_ble_eq_true rfl) ?_
  refine hB.iconst d_Pw_lookAtRuns_8 (v := 0) rfl ?_
  refine hB.istore_n d_Pw_lookAtRuns_9 (Nat.le_of_ble_eq_true rfl) ?_
  refine hB.iconst d_Pw_lookAtRuns_10 (v := 0) rfl ?_
  refine hB.istore_n d_Pw_lookAtRuns_11 (Nat.le_of_ble_eq_true rfl) ?_
  rw [h3.1]
  exact h12 rs ([], [], [], z.1 0 9, z.1 0 10, z.1 0 11) 0 0 z rfl (by omega) hok (by simpa using h24) rfl ⟨⟨rfl, fun a _ _ _ _ => rfl⟩, hev, hw, by simpa using h3, h5, rfl, rfl, rfl, fun j _ _ _ => rfl⟩
def sNew (z : sT) : sT := sI (sI (sI (sI (sI (sI (sI (sI z 3 1 0) 5 1 0) 7 4 0) 0 7 0) 0 8 0) 0 9 0) 0 10 0) 0 11 0
set_option maxRecDepth 100000 in
set_option maxHeartbeats 4000000 in
theorem k_Pw_startAnew (l : Launch) (g : mG) (ad : Nat → Nat) (z : sT)  : sC l y_Pw_startAnew c_Pw_startAnew 1 none 1 g ad [.ref (ad 0)] z (fun r w => r = none ∧ w = sNew z) := by
  refine sC.intro (own := R_Pw) rfl (by decide) (by decide) (by simp [Value.category]) (Nat.le_of_ble_eq_true rfl) (fun K hB hE => ?_)
  show K 0 [some (.ref (ad 0))] [] z
  refine hB.aload_n d_Pw_startAnew_0 rfl ?_
  refine hB.getC (Or.inl fa_Pw_19) d_Pw_startAnew_1 (by decide) sK_0 rfl ?_
  refine hB.callVN lk_Pw_107 cd_RL_clear (k_RL_clear l g ad z 3 (Or.inl rfl)) rfl (by decide) (sK_rl (Or.inl rfl)) d_Pw_startAnew_4 rfl rfl (by decide) (by simp [Value.category]) ?_
  rintro _ w9 ⟨rfl, hw9⟩
  have hw8 := hw9.symm
  clear hw9
  subst hw8
  refine hB.aload_n d_Pw_startAnew_7 rfl ?_
  refine hB.getC (Or.inl fa_Pw_23) d_Pw_startAnew_8 (by decide) sK_0 rfl ?_
  refine hB.callVN lk_Pw_107 cd_RL_clear (k_RL_clear l g ad (sI z 3 1 0) 5 (Or.inr rfl)) rfl (by decide) (sK_rl (Or.inr rfl)) d_Pw_startAnew_11 rfl rfl (by decide) (by simp [Value.category]) ?_
  rintro _ w9 ⟨rfl, hw9⟩
  have hw8 := hw9.symm
  clear hw9
  subst hw8
  refine hB.aload_n d_Pw_startAnew_14 rfl ?_
  refine hB.getC (Or.inl fa_Pw_29) d_Pw_startAnew_15 (by decide) sK_0 rfl ?_
  refine hB.iconst d_Pw_startAnew_18 (v := 0) rfl ?_
  refine hB.putI (Or.inr fa_Pw_104) d_Pw_startAnew_19 (by decide) sK_7 rfl rfl rfl ?_
  refine hB.aload_n d_Pw_startAnew_22 rfl ?_
  refine hB.iconst d_Pw_startAnew_23 (v := 0) rfl ?_
  refine hB.putI (Or.inl fa_Pw_88) d_Pw_startAnew_24 (by decide) sK_0 rfl rfl rfl ?_
  refine hB.aload_n d_Pw_startAnew_27 rfl ?_
  refine hB.iconst d_Pw_startAnew_28 (v := 0) rfl ?_
  refine hB.putI (Or.inl fa_Pw_116) d_Pw_startAnew_29 (by decide) sK_0 rfl rfl rfl ?_
  refine hB.aload_n d_Pw_startAnew_32 rfl ?_
  refine hB.iconst d_Pw_startAnew_33 (v := 0) rfl ?_
  refine hB.putI (Or.inl fa_Pw_157) d_Pw_startAnew_34 (by decide) sK_0 rfl rfl rfl ?_
  refine hB.aload_n d_Pw_startAnew_37 rfl ?_
  refine hB.iconst d_Pw_startAnew_38 (v := 0) rfl ?_
  refine hB.putI (Or.inl fa_Pw_160) d_Pw_startAnew_39 (by decide) sK_0 rfl rfl rfl ?_
  refine hB.aload_n d_Pw_startAnew_42 rfl ?_
  refine hB.iconst d_Pw_startAnew_43 (v := 0) rfl ?_
  refine hB.putI (Or.inl fa_Pw_163) d_Pw_startAnew_44 (by decide) sK_0 rfl rfl rfl ?_
  exact hE.2.2 _ _ _ d_Pw_startAnew_47 rfl ⟨rfl, rfl⟩
