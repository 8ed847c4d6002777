theorem evC.at {z : sT} {pt s x : Nat} {C : eC} (h : evC z pt C) (hs : (xSl C)[s]? = some x) : z.1 (pt + 2) s = nI x ∧ x < xK C := ⟨h.2.2.1.2.2.2 s x hs, stO_in hs⟩
theorem getD_some {l : List Nat} {s : Nat} (h : s < l.length) : l[s]? = some (l.getD s 0) := by
  rw [List.getD_eq_getElem?_getD, List.getElem?_eq_getElem h]
  rfl
theorem aFit_eq {z : sT} {pt r j : Nat} {C : eC} {R : rR} (h : evC z pt C) (hR : RunA z r R) (hj : j < xK C) : rFit z pt (pb pt + j) r = aFit C (xEl C j) R := by
  obtain ⟨h1, h2, h3, h4, h5, h6, h7, h8, h9, h10, h11⟩ := h
  unfold rFit aFit
  rw [elA_of h3.2.2.1 hj, h8, h10, h5, h9, hR.2.2.2.1, hR.2.2.2.2.2.2.1]
theorem aBar_eq {z : sT} {pt r : Nat} {C : eC} {R : rR} (h : evC z pt C) (hR : RunA z r R) : ∀ (f j : Nat), j + f ≤ xK C → rBar z pt r f j = aBar C R f j
  | 0, _, _ => rfl
  | f + 1, j, hj => by
    show (rFit z pt (pb pt + j) r || rBar z pt r f (j + 1)) = (aFit C (xEl C j) R || aBar C R f (j + 1))
    rw [aFit_eq h hR (by omega), aBar_eq h hR f (j + 1) (by omega)]
theorem run_facts {z : sT} {pt r : Nat} {C : eC} {R : rR} (h : evC z pt C) (hR : RunA z r R) (hok : rOk C R) :
    (xSl C)[R.1]? = some (aX C R) ∧ (xSl C)[R.1 + 1]? = some (aY C R) ∧ aX C R < aY C R ∧ aY C R < xK C ∧ gGo z r (aY C R) = aGo C R ∧ gSt z r (aX C R) = aSt C R ∧ gCm z r (aY C R) R.1 (xSl C).length = aCm C R ∧ gBr z r (aX C R) (aY C R) = aBr C R ∧ decide (z.1 (z.2.1 0 4) 5 < z.1 7 4 - z.1 r 5) = aLt C R := by
  have hx : (xSl C)[R.1]? = some (aX C R) := getD_some (by have := hok.1; omega)
  have hy : (xSl C)[R.1 + 1]? = some (aY C R) := getD_some hok.1
  have hxy : aX C R < aY C R := stO_mono hx hy (by omega)
  have hyk : aY C R < xK C := stO_in hy
  have e1 : gGo z r (aY C R) = aGo C R := by
    unfold gGo aGo
    rw [h.1]
    exact aFit_eq h hR hyk
  have e2 : gSt z r (aX C R) = aSt C R := by
    unfold gSt aSt
    rw [h.1, aFit_eq h hR (by omega)]
    have e3 : z.1 (pb pt + aX C R) 2 = (xEl C (aX C R)).2.2.1 := h.2.2.1.2.2.1 (aX C R) (by omega) 2 (by omega)
    have e4 : decide (z.1 r 1 < 12) = decide (R.2.1 < 12) := by
      rw [hR.1]
      have := hR.2.2.2.2.2.2.2.2.2
      by_cases hc : R.2.1 < 12
      · have : nI R.2.1 < (12 : Int32) := nI_lt (a := R.2.1) (b := 12) hc (by decide)
        rw [decide_eq_true hc, decide_eq_true this]
      · have : ¬ nI R.2.1 < (12 : Int32) := nI_nlt (a := R.2.1) (b := 12) (by omega) (by omega)
        rw [decide_eq_false hc, decide_eq_false this]
    rw [e3, e4]
  refine ⟨hx, hy, hxy, hyk, e1, e2, ?_, ?_, ?_⟩
  · unfold gCm aCm
    rw [e1]
  · unfold gBr aBr
    rw [h.1]
    exact aBar_eq h hR _ _ (by omega)
  · unfold aLt
    rw [h.1, h.2.2.2.2.2.1, h.2.2.2.2.2.2.2.2.2.2, hR.2.2.2.2.1]
def rm24 (rs : List rR) : Bool := decide (rs.length < 24)
def zEq (z w : sT) : Prop := ∀ j, j ≠ 9 → j ≠ 10 → j ≠ 11 → w.1 0 j = z.1 0 j
set_option maxHeartbeats 1000000 in
theorem W1_abs {z : sT} {pt i : Nat} {C : eC} {R : rR} {rs ms : List rR} (hev : evC z pt C) (hw : rwA z) (h3 : lsA z 3 rs) (h5 : lsA z 5 ms) (hm : ms.length < 24) (hi : rs[i]? = some R) (hok : rOk C R) {w1 : sT} (hw1 : w1 = gW1 z (z.2.1 4 i) R.2.1 R.1 (xSl C).length (aX C R) (aY C R) rs.length ms.length) :
    frE z w1 ∧ w1.2 = z.2 ∧ w1.1 (z.2.1 4 i) = z.1 (z.2.1 4 i) ∧ w1.1 (z.2.1 4 i + 48) = z.1 (z.2.1 4 i + 48) ∧ lsA w1 3 (rs ++ (if aAp C R && rm24 rs then [aTk C R (R.1 + 1)] else [])) ∧ lsA w1 5 (ms ++ (if aCm C R then [aTk C R (R.1 + 1)] else [])) ∧ w1.1 0 9 = z.1 0 9 + (if aAp C R && !rm24 rs then 1 else 0) ∧ w1.1 0 10 = z.1 0 10 ∧ w1.1 0 11 = z.1 0 11 ∧ zEq z w1 := by
  have hl := (List.getElem?_eq_some_iff.mp hi).1
  have h24 := h3.2.1
  have hR : RunA z (z.2.1 4 i) R := h3.2.2 i R hi
  obtain ⟨hx, hy, hxy, hyk, e1, e2, e3, -, -⟩ := run_facts hev hR hok
  have hri := hw.1 i (by omega)
  have hc9 : R.2.1 < 19 := by
    have := hok.2
    have := hok.1
    have := stO_len (xEl C) (xK C)
    have := hev.2.2.2.1
    have : (xSl C).length ≤ 8 := by
      show (stO (xEl C) (xK C)).length ≤ 8
      omega
    omega
  unfold gW1 at hw1
  rw [e1, e2, e3] at hw1
  have mk : ∀ (v : sT) (a : Nat), v.1 7 = z.1 7 → v.1 (z.2.1 4 i) = z.1 (z.2.1 4 i) → v.1 (z.2.1 4 i + 48) = z.1 (z.2.1 4 i + 48) → a ≠ z.2.1 4 i → 30 ≤ a → a < 78 → RunA (sTk (sCf v (z.2.1 4 i) a) a R.2.1 (nI (R.1 + 1))) a (aTk C R (R.1 + 1)) := by
    intro v a h7 hv1 hv2 hne ha1 ha2
    have hA : RunA (sCf v (z.2.1 4 i) a) a R := (hR.fr hv1 hv2).cf
    have := hA.tk (s := R.1 + 1) hc9
    have e7 : (sCf v (z.2.1 4 i) a).1 7 = z.1 7 := by rw [sCf_row (by omega) (by omega), h7]
    rw [e7, hev.2.2.2.2.2.2.1, hev.2.2.2.2.2.2.2.2.2.1] at this
    exact this
  by_cases hcm : aCm C R = true
  · have hlast : R.1 + 1 + 1 = (xSl C).length := by
      unfold aCm at hcm
      simp only [Bool.and_eq_true, decide_eq_true_eq] at hcm
      exact hcm.2
    have hap : aAp C R = false := by unfold aAp; rw [hcm]; simp
    rw [hcm, hap]
    rw [hcm] at hw1
    simp only [Bool.true_or, if_true] at hw1
    have ho : sRow z (decide (R.1 + 1 + 1 = (xSl C).length)) rs.length ms.length = (some (z.2.1 6 ms.length), sI z 5 1 (nI (ms.length + 1))) := by unfold sRow; simp [hlast]
    rw [ho] at hw1
    have h6 := hw.2.2 ms.length hm
    rw [h6] at hw1
    have hw2 : w1 = sTk (sCf (sI z 5 1 (nI (ms.length + 1))) (z.2.1 4 i) (54 + ms.length)) (54 + ms.length) R.2.1 (nI (R.1 + 1)) := hw1
    have hrow : ∀ c, c ≠ 54 + ms.length → c ≠ 54 + ms.length + 48 → c ≠ 5 → w1.1 c = z.1 c := fun c a1 a2 a3 => by
      rw [hw2, sTk_row a1 a2, sCf_row a1 a2, sI_row a3]
    have h2 : w1.2 = z.2 := by rw [hw2]; rfl
    refine ⟨⟨by rw [h2], fun c a1 a2 a3 a4 => hrow c (by omega) (by omega) a3⟩, h2, hrow _ (by omega) (by omega) (by omega), hrow _ (by omega) (by omega) (by omega), ?_, ?_, ?_, ?_, ?_, ?_⟩
    · simp only [Bool.false_and, Bool.false_eq_true, if_false, List.append_nil]
      refine h3.fr (by rw [h2]) (by rw [hrow 3 (by omega) (by omega) (by omega)]) (fun j hj => ?_)
      have := hw.1 j (by omega)
      exact ⟨hrow _ (by show z.2.1 4 j ≠ _; omega) (by show z.2.1 4 j ≠ _; omega) (by show z.2.1 4 j ≠ _; omega), hrow _ (by show z.2.1 4 j + 48 ≠ _; omega) (by show z.2.1 4 j + 48 ≠ _; omega) (by show z.2.1 4 j + 48 ≠ _; omega)⟩
    · simp only [if_true]
      refine h5.add hm (by rw [h2]) ?_ ?_ (fun j hj => ?_)
      · rw [hw2, sTk_row (by omega) (by omega), sCf_row (by omega) (by omega)]
        simp [sI]
      · show RunA w1 (z.2.1 6 ms.length) _
        rw [h6, hw2]
        exact mk _ _ (sI_row (by omega)) (sI_row (by omega)) (sI_row (by omega)) (by omega) (by omega) (by omega)
      · have := hw.2.2 j (by omega)
        exact ⟨hrow _ (by show z.2.1 6 j ≠ _; omega) (by show z.2.1 6 j ≠ _; omega) (by show z.2.1 6 j ≠ _; omega), hrow _ (by show z.2.1 6 j + 48 ≠ _; omega) (by show z.2.1 6 j + 48 ≠ _; omega) (by show z.2.1 6 j + 48 ≠ _; omega)⟩
    · rw [hrow 0 (by omega) (by omega) (by omega)]; simp
    · rw [hrow 0 (by omega) (by omega) (by omega)]
    · rw [hrow 0 (by omega) (by omega) (by omega)]
    · intro j _ _ _; rw [hrow 0 (by omega) (by omega) (by omega)]
  · have hcm0 : aCm C R = false := by
      cases h : aCm C R
      · rfl
      · exact absurd h hcm
    rw [hcm0] at hw1 ⊢
    simp only [Bool.false_or] at hw1
    by_cases hgs : (aGo C R && aSt C R) = true
    · have hap : aAp C R = true := by
        unfold aAp
        rw [hcm0]
        simp only [Bool.and_eq_true] at hgs
        rw [hgs.1, hgs.2]; rfl
      have hnl : ¬ R.1 + 1 + 1 = (xSl C).length := by
        intro q
        simp only [Bool.and_eq_true] at hgs
        unfold aCm at hcm0
        rw [hgs.1, decide_eq_true q] at hcm0
        cases hcm0
      rw [if_pos hgs] at hw1
      rw [hap]
      by_cases hrm : rs.length < 24
      · have ho : sRow z (decide (R.1 + 1 + 1 = (xSl C).length)) rs.length ms.length = (some (z.2.1 4 rs.length), sI z 3 1 (nI (rs.length + 1))) := by unfold sRow; simp [hnl, hrm]
        rw [ho] at hw1
        have hw2 : w1 = sTk (sCf (sI z 3 1 (nI (rs.length + 1))) (z.2.1 4 i) (z.2.1 4 rs.length)) (z.2.1 4 rs.length) R.2.1 (nI (R.1 + 1)) := hw1
        have ha := hw.1 rs.length hrm
        have hne : z.2.1 4 rs.length ≠ z.2.1 4 i := fun q => by have := hw.2.1 _ _ hrm (by omega) q; omega
        have hrow : ∀ c, c ≠ z.2.1 4 rs.length → c ≠ z.2.1 4 rs.length + 48 → c ≠ 3 → w1.1 c = z.1 c := fun c a1 a2 a3 => by
          rw [hw2, sTk_row a1 a2, sCf_row a1 a2, sI_row a3]
        have h2 : w1.2 = z.2 := by rw [hw2]; rfl
        have hr24 : rm24 rs = true := decide_eq_true hrm
        rw [hr24]
        refine ⟨⟨by rw [h2], fun c a1 a2 a3 a4 => hrow c (by omega) (by omega) a2⟩, h2, hrow _ (Ne.symm hne) (by omega) (by omega), hrow _ (by omega) (by omega) (by omega), ?_, ?_, ?_, ?_, ?_, ?_⟩
        · simp only [Bool.true_and, if_true]
          refine h3.add hrm (by rw [h2]) ?_ ?_ (fun j hj => ?_)
          · rw [hw2, sTk_row (by omega) (by omega), sCf_row (by omega) (by omega)]
            simp [sI]
          · show RunA w1 (z.2.1 4 rs.length) _
            rw [hw2]
            exact mk _ _ (sI_row (by omega)) (sI_row (by omega)) (sI_row (by omega)) hne (by omega) (by omega)
          · have hj2 := hw.1 j (by omega)
            have hjn : z.2.1 4 j ≠ z.2.1 4 rs.length := fun q => by have := hw.2.1 _ _ (by omega) hrm q; omega
            exact ⟨hrow _ hjn (by show z.2.1 4 j ≠ _; omega) (by show z.2.1 4 j ≠ _; omega), hrow _ (by show z.2.1 4 j + 48 ≠ _; omega) (by show z.2.1 4 j + 48 ≠ _; omega) (by show z.2.1 4 j + 48 ≠ _; omega)⟩
        · simp only [Bool.false_eq_true, if_false, List.append_nil]
          refine h5.fr (by rw [h2]) (by rw [hrow 5 (by omega) (by omega) (by omega)]) (fun j hj => ?_)
          have := hw.2.2 j (by omega)
          exact ⟨hrow _ (by show z.2.1 6 j ≠ _; omega) (by show z.2.1 6 j ≠ _; omega) (by show z.2.1 6 j ≠ _; omega), hrow _ (by show z.2.1 6 j + 48 ≠ _; omega) (by show z.2.1 6 j + 48 ≠ _; omega) (by show z.2.1 6 j + 48 ≠ _; omega)⟩
        · rw [hrow 0 (by omega) (by omega) (by omega)]; simp
        · rw [hrow 0 (by omega) (by omega) (by omega)]
        · rw [hrow 0 (by omega) (by omega) (by omega)]
        · intro j _ _ _; rw [hrow 0 (by omega) (by omega) (by omega)]
      · have ho : sRow z (decide (R.1 + 1 + 1 = (xSl C).length)) rs.length ms.length = (none, sI z 0 9 (z.1 0 9 + 1)) := by unfold sRow; simp [hnl, hrm]
        rw [ho] at hw1
        have hw2 : w1 = sI z 0 9 (z.1 0 9 + 1) := hw1
        have hrow : ∀ c, c ≠ 0 → w1.1 c = z.1 c := fun c a1 => by rw [hw2, sI_row a1]
        have h2 : w1.2 = z.2 := by rw [hw2]; rfl
        have hr24 : rm24 rs = false := decide_eq_false hrm
        rw [hr24]
        refine ⟨⟨by rw [h2], fun c a1 a2 a3 a4 => hrow c a1⟩, h2, hrow _ (by omega), hrow _ (by omega), ?_, ?_, ?_, ?_, ?_, ?_⟩
        · simp only [Bool.and_false, Bool.false_eq_true, if_false, List.append_nil]
          refine h3.fr (by rw [h2]) (by rw [hrow 3 (by omega)]) (fun j hj => ?_)
          have := hw.1 j (by omega)
          exact ⟨hrow _ (by show z.2.1 4 j ≠ _; omega), hrow _ (by show z.2.1 4 j + 48 ≠ _; omega)⟩
        · simp only [Bool.false_eq_true, if_false, List.append_nil]
          refine h5.fr (by rw [h2]) (by rw [hrow 5 (by omega)]) (fun j hj => ?_)
          have := hw.2.2 j (by omega)
          exact ⟨hrow _ (by show z.2.1 6 j ≠ _; omega), hrow _ (by show z.2.1 6 j + 48 ≠ _; omega)⟩
        · rw [hw2]; simp [sI]
        · rw [hw2]; simp [sI]
        · rw [hw2]; simp [sI]
        · intro j a1 _ _; rw [hw2]; simp [sI, a1]
    · have hap : aAp C R = false := by
        unfold aAp
        rw [hcm0]
        cases hg : aGo C R
        · rfl
        · cases hs : aSt C R
          · rfl
          · rw [hg, hs] at hgs; exact absurd rfl hgs
      rw [if_neg hgs] at hw1
      rw [hap]
      subst hw1
      refine ⟨⟨rfl, fun c _ _ _ _ => rfl⟩, rfl, rfl, rfl, ?_, ?_, ?_, rfl, rfl, fun j _ _ _ => rfl⟩
      · simp only [Bool.false_and, Bool.false_eq_true, if_false, List.append_nil]; exact h3
      · simp only [Bool.false_eq_true, if_false, List.append_nil]; exact h5
      · simp
