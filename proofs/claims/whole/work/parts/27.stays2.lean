theorem take_abs {z : sT} {i s : Nat} {R : rR} {nu va : Int32} {rs ms : List rR} (hw : rwA z) (h3 : lsA z 3 rs) (h5 : lsA z 5 ms) (hi : i < rs.length) (hR : RunA z (z.2.1 4 i) R) (hc : R.2.1 < 19) (h0 : z.1 7 0 = nu) (hv : z.1 7 3 = va) :
    lsA (sTk z (z.2.1 4 i) R.2.1 (nI s)) 3 (rs.set i (rTk R nu va s)) ∧ lsA (sTk z (z.2.1 4 i) R.2.1 (nI s)) 5 ms := by
  have h24 := h3.2.1
  have hri := hw.1 i (by omega)
  have hrow : ∀ c, c ≠ z.2.1 4 i → c ≠ z.2.1 4 i + 48 → (sTk z (z.2.1 4 i) R.2.1 (nI s)).1 c = z.1 c := fun c a1 a2 => sTk_row a1 a2
  constructor
  · refine h3.put rfl (by rw [hrow 3 (by omega) (by omega)]) hi ?_ (fun j hj hji => ?_)
    · have := hR.tk (s := s) hc
      rw [h0, hv] at this
      exact this
    · have := hw.1 j (by omega)
      have hne : z.2.1 4 j ≠ z.2.1 4 i := fun q => hji (hw.2.1 _ _ (by omega) (by omega) q)
      exact ⟨hrow _ hne (by show z.2.1 4 j ≠ _; omega), hrow _ (by show z.2.1 4 j + 48 ≠ _; omega) (by show z.2.1 4 j + 48 ≠ _; omega)⟩
  · refine h5.fr rfl (by rw [hrow 5 (by omega) (by omega)]) (fun j hj => ?_)
    have h54 := h5.2.1
    have := hw.2.2 j (by omega)
    exact ⟨hrow _ (by show z.2.1 6 j ≠ _; omega) (by show z.2.1 6 j ≠ _; omega), hrow _ (by show z.2.1 6 j + 48 ≠ _; omega) (by show z.2.1 6 j + 48 ≠ _; omega)⟩
theorem set_mid {a b c : List rR} {R R2 : rR} : ((a ++ R :: b) ++ c).set a.length R2 = a ++ R2 :: b ++ c := by
  simp
def stPost (z : sT) (C : eC) (a b ms : List rR) (R : rR) (w : sT) : Prop :=
  frE z w ∧ w.2 = z.2 ∧ lsA w 3 (a ++ (aKp C R).getD R :: b ++ (aPt C (rm24 (a ++ R :: b)) R).toList) ∧ lsA w 5 (ms ++ (aMt C R).toList) ∧ w.1 0 9 = z.1 0 9 + aDr C (rm24 (a ++ R :: b)) R ∧ w.1 0 10 = z.1 0 10 + aLa C R ∧ w.1 0 11 = z.1 0 11 + aBa C R ∧ zEq z w
set_option maxHeartbeats 1000000 in
theorem gRes_abs {z : sT} {pt : Nat} {C : eC} {R : rR} {a b ms : List rR} (hev : evC z pt C) (hw : rwA z) (h3 : lsA z 3 (a ++ R :: b)) (h5 : lsA z 5 ms) (hm : ms.length < 24) (hok : rOk C R) :
    (gRes z (z.2.1 4 a.length) R.2.1 R.1 (xSl C).length (aX C R) (aY C R) (a ++ R :: b).length ms.length).1 = (aKp C R).isSome ∧ stPost z C a b ms R (gRes z (z.2.1 4 a.length) R.2.1 R.1 (xSl C).length (aX C R) (aY C R) (a ++ R :: b).length ms.length).2 := by
  have h24 := h3.2.1
  have hlen : (a ++ R :: b).length = a.length + b.length + 1 := by simp; omega
  have hi : (a ++ R :: b)[a.length]? = some R := by simp
  have hR : RunA z (z.2.1 4 a.length) R := h3.2.2 a.length R hi
  have hri := hw.1 a.length (by omega)
  obtain ⟨hx, hy, hxy, hyk, e1, e2, e3, e4, e5⟩ := run_facts hev hR hok
  have hc9 : R.2.1 < 19 := by
    have := hok.2
    have := hok.1
    have := stO_len (xEl C) (xK C)
    have := hev.2.2.2.1
    have : (xSl C).length ≤ 8 := by
      show (stO (xEl C) (xK C)).length ≤ 8
      omega
    omega
  have cell0 : ∀ (k : Nat) (x : Int32), (k = 9 ∨ k = 10 ∨ k = 11) → frE z (sI z 0 k x) ∧ (sI z 0 k x).2 = z.2 ∧ lsA (sI z 0 k x) 3 (a ++ R :: b) ∧ lsA (sI z 0 k x) 5 ms ∧ zEq z (sI z 0 k x) := by
    intro k x hk
    refine ⟨⟨rfl, fun c c1 _ _ _ => sI_row c1⟩, rfl, h3.fr rfl (by rw [sI_row (by omega)]) (fun j hj => ?_), h5.fr rfl (by rw [sI_row (by omega)]) (fun j hj => ?_), fun j j1 j2 j3 => ?_⟩
    · have := hw.1 j (by omega)
      exact ⟨sI_row (by show z.2.1 4 j ≠ _; omega), sI_row (by show z.2.1 4 j + 48 ≠ _; omega)⟩
    · have := h5.2.1
      have := hw.2.2 j (by omega)
      exact ⟨sI_row (by show z.2.1 6 j ≠ _; omega), sI_row (by show z.2.1 6 j + 48 ≠ _; omega)⟩
    · have : ¬ j = k := by omega
      simp [sI, this]
  unfold gRes
  cases hlt : aLt C R
  · have hl0 : ¬ z.1 (z.2.1 0 4) 5 < z.1 7 4 - z.1 (z.2.1 4 a.length) 5 := by rw [hlt] at e5; simpa using e5
    rw [if_neg hl0, e4]
    cases hbr : aBr C R
    · simp only [Bool.false_eq_true, if_false]
      rw [e2, e3]
      have hKp : aKp C R = if aSt C R then some (aTk C R R.1) else if aGo C R then (if aCm C R then none else some (aTk C R (R.1 + 1))) else some R := by unfold aKp; rw [hlt, hbr]; rfl
      have hPt : (aPt C (rm24 (a ++ R :: b)) R).toList = if aAp C R && rm24 (a ++ R :: b) then [aTk C R (R.1 + 1)] else [] := by
        unfold aPt
        rw [hlt, hbr]
        cases aAp C R && rm24 (a ++ R :: b) <;> rfl
      have hMt : (aMt C R).toList = if aCm C R then [aTk C R (R.1 + 1)] else [] := by
        unfold aMt
        rw [hlt, hbr]
        cases aCm C R <;> rfl
      have hDr : aDr C (rm24 (a ++ R :: b)) R = if aAp C R && !rm24 (a ++ R :: b) then 1 else 0 := by unfold aDr; rw [hlt, hbr]; rfl
      have hLa : aLa C R = 0 := by unfold aLa; rw [hlt]; rfl
      have hBa : aBa C R = 0 := by unfold aBa; rw [hlt, hbr]; rfl
      obtain ⟨f1, f2, f3, f4, f5, f6, f7, f8, f9, f10⟩ := W1_abs hev hw h3 h5 hm hi hok rfl
      generalize hW1 : gW1 z (z.2.1 4 a.length) R.2.1 R.1 (xSl C).length (aX C R) (aY C R) (a ++ R :: b).length ms.length = w1 at f1 f2 f3 f4 f5 f6 f7 f8 f9 f10
      have hrw1 : rwA w1 := by
        unfold rwA
        rw [f2]
        exact hw
      have hR1 : RunA w1 (w1.2.1 4 a.length) R := by
        rw [f2]
        exact hR.fr f3 f4
      have ev1 := hev.fr f1
      have hil : a.length < ((a ++ R :: b) ++ (if aAp C R && rm24 (a ++ R :: b) then [aTk C R (R.1 + 1)] else [])).length := by
        rw [List.length_append, hlen]; omega
      have tk : ∀ s : Nat, frE z (sTk w1 (z.2.1 4 a.length) R.2.1 (nI s)) ∧ (sTk w1 (z.2.1 4 a.length) R.2.1 (nI s)).2 = z.2 ∧ lsA (sTk w1 (z.2.1 4 a.length) R.2.1 (nI s)) 3 (a ++ aTk C R s :: b ++ (if aAp C R && rm24 (a ++ R :: b) then [aTk C R (R.1 + 1)] else [])) ∧ lsA (sTk w1 (z.2.1 4 a.length) R.2.1 (nI s)) 5 (ms ++ (if aCm C R then [aTk C R (R.1 + 1)] else [])) ∧ (sTk w1 (z.2.1 4 a.length) R.2.1 (nI s)).1 0 = w1.1 0 := by
        intro s
        have h9 := take_abs (s := s) hrw1 f5 f6 hil hR1 hc9 ev1.2.2.2.2.2.2.1 ev1.2.2.2.2.2.2.2.2.2.1
        rw [f2, set_mid] at h9
        have hrow : ∀ c, c ≠ z.2.1 4 a.length → c ≠ z.2.1 4 a.length + 48 → (sTk w1 (z.2.1 4 a.length) R.2.1 (nI s)).1 c = w1.1 c := fun c c1 c2 => sTk_row c1 c2
        refine ⟨⟨by rw [sTk_2, f2], fun c c1 c2 c3 c4 => ?_⟩, by rw [sTk_2, f2], h9.1, h9.2, hrow 0 (by omega) (by omega)⟩
        rw [hrow c (by omega) (by omega)]
        exact f1.2 c c1 c2 c3 c4
      unfold gW2
      rw [hW1, e1, e2, e3]
      unfold stPost
      rw [hKp, hPt, hMt, hDr, hLa, hBa]
      cases hst : aSt C R
      · cases hgo : aGo C R
        · have hcm : aCm C R = false := by unfold aCm; rw [hgo]; rfl
          simp only [hcm, Bool.false_eq_true, if_false, Bool.false_and, Bool.not_false, Bool.or_true, Option.isSome_some, Option.getD_some]
          rw [hcm] at f6
          refine ⟨trivial, f1, f2, f5, f6, f7, by rw [f8]; simp, by rw [f9]; simp, f10⟩
        · cases hcm : aCm C R
          · obtain ⟨t1, t2, t3, t4, t5⟩ := tk (R.1 + 1)
            rw [hcm] at t4
            simp only [Bool.false_eq_true, if_false, Bool.true_and, Bool.not_false, if_true, Bool.or_true, Option.isSome_some, Option.getD_some]
            refine ⟨trivial, t1, t2, t3, t4, by rw [t5]; exact f7, by rw [t5, f8]; simp, by rw [t5, f9]; simp, fun j j1 j2 j3 => by rw [t5]; exact f10 j j1 j2 j3⟩
          · rw [hcm] at f6
            simp only [Bool.false_eq_true, if_false, Bool.not_true, Bool.and_false, Bool.or_false, if_true, Option.isSome_none, Option.getD_none]
            refine ⟨trivial, f1, f2, f5, f6, f7, by rw [f8]; simp, by rw [f9]; simp, f10⟩
      · obtain ⟨t1, t2, t3, t4, t5⟩ := tk R.1
        simp only [if_true, Bool.true_or, Option.isSome_some, Option.getD_some]
        refine ⟨trivial, t1, t2, t3, t4, by rw [t5]; exact f7, by rw [t5, f8]; simp, by rw [t5, f9]; simp, fun j j1 j2 j3 => by rw [t5]; exact f10 j j1 j2 j3⟩
    · simp only [if_true]
      obtain ⟨c1, c2, c3, c4, c5⟩ := cell0 11 (z.1 0 11 + 1) (by omega)
      have hKp : aKp C R = none := by unfold aKp; rw [hlt, hbr]; rfl
      have hPt : aPt C (rm24 (a ++ R :: b)) R = none := by unfold aPt; rw [hlt, hbr]; rfl
      have hMt : aMt C R = none := by unfold aMt; rw [hlt, hbr]; rfl
      have hDr : aDr C (rm24 (a ++ R :: b)) R = 0 := by unfold aDr; rw [hlt, hbr]; rfl
      have hLa : aLa C R = 0 := by unfold aLa; rw [hlt]; rfl
      have hBa : aBa C R = 1 := by unfold aBa; rw [hlt, hbr]; rfl
      unfold stPost
      rw [hKp, hPt, hMt, hDr, hLa, hBa]
      refine ⟨rfl, c1, c2, by simpa using c3, by simpa using c4, by simp [sI], by simp [sI], by simp [sI], c5⟩
  · have hl1 : z.1 (z.2.1 0 4) 5 < z.1 7 4 - z.1 (z.2.1 4 a.length) 5 := by rw [hlt] at e5; simpa using e5
    rw [if_pos hl1]
    obtain ⟨c1, c2, c3, c4, c5⟩ := cell0 10 (z.1 0 10 + 1) (by omega)
    have hKp : aKp C R = none := by unfold aKp; rw [hlt]; rfl
    have hPt : aPt C (rm24 (a ++ R :: b)) R = none := by unfold aPt; rw [hlt]; rfl
    have hMt : aMt C R = none := by unfold aMt; rw [hlt]; rfl
    have hDr : aDr C (rm24 (a ++ R :: b)) R = 0 := by unfold aDr; rw [hlt]; rfl
    have hLa : aLa C R = 1 := by unfold aLa; rw [hlt]; rfl
    have hBa : aBa C R = 0 := by unfold aBa; rw [hlt]; rfl
    unfold stPost
    rw [hKp, hPt, hMt, hDr, hLa, hBa]
    refine ⟨rfl, c1, c2, by simpa using c3, by simpa using c4, by simp [sI], by simp [sI], by simp [sI], c5⟩
theorem k_stays (l : Launch) (g : mG) (ad : Nat → Nat) {z : sT} {pt : Nat} {C : eC} {R : rR} {a b ms : List rR} (hev : evC z pt C) (hw : rwA z) (h3 : lsA z 3 (a ++ R :: b)) (h5 : lsA z 5 ms) (hm : ms.length < 24) (hok : rOk C R) :
    sC l y_Pw_staysInList c_Pw_staysInList 6 (some .boolean) 4 g ad [.ref (ad 0), .ref (ad (z.2.1 4 a.length))] z (fun r9 w => r9 = some (.int (bI (aKp C R).isSome)) ∧ stPost z C a b ms R w) := by
  have h24 := h3.2.1
  have hlen : (a ++ R :: b).length = a.length + b.length + 1 := by simp; omega
  have hi : (a ++ R :: b)[a.length]? = some R := by simp
  have hR : RunA z (z.2.1 4 a.length) R := h3.2.2 a.length R hi
  have hri := hw.1 a.length (by omega)
  obtain ⟨hx, hy, hxy, hyk, -⟩ := run_facts hev hR hok
  have hp : z.2.1 0 4 = 8 ∨ z.2.1 0 4 = 11 := by rw [hev.1]; exact hev.2.1
  have hk8 := hev.2.2.2.1
  have hns8 : (xSl C).length ≤ 8 := by
    have := stO_len (xEl C) (xK C)
    show (stO (xEl C) (xK C)).length ≤ 8
    omega
  have hc9 : R.2.1 < 19 := by
    have := hok.2
    have := hok.1
    omega
  have hrow : ∀ j, j < 24 → 30 ≤ z.2.1 4 j ∧ z.2.1 4 j < 78 := fun j hj => by have := hw.1 j hj; omega
  have hmrow : ∀ j, j < 24 → 30 ≤ z.2.1 6 j ∧ z.2.1 6 j < 78 := fun j hj => by have := hw.2.2 j hj; omega
  have hne : ∀ e, (sRow z (decide (R.1 + 1 + 1 = (xSl C).length)) (a ++ R :: b).length ms.length).1 = some e → e ≠ z.2.1 4 a.length := by
    intro e he
    unfold sRow at he
    split at he
    · cases he
      have := hw.2.2 ms.length hm
      omega
    · split at he
      · rename_i hq
        cases he
        intro q
        have := hw.2.1 _ _ hq (by omega) q
        omega
      · cases he
  have hns : z.1 (z.2.1 0 4) 3 = nI (xSl C).length := by rw [hev.1]; exact hev.2.2.1.2.1
  have hX : z.1 (z.2.1 0 4 + 2) R.1 = nI (aX C R) := by rw [hev.1]; exact (hev.at hx).1
  have hY : z.1 (z.2.1 0 4 + 2) (R.1 + 1) = nI (aY C R) := by rw [hev.1]; exact (hev.at hy).1
  have K := k_Pw_staysInList l g ad z (z.2.1 4 a.length) R.2.1 R.1 (xSl C).length (aX C R) (aY C R) (a ++ R :: b).length ms.length hp hns hns8 (by omega) hR.2.1 hR.1 hc9 hok.1 hX hY hxy (by omega) h3.1 h24 h5.1 (fun _ => hm) hrow hmrow hne
  obtain ⟨g1, g2⟩ := gRes_abs hev hw h3 h5 hm hok
  refine K.mono (fun r9 w h => ?_)
  obtain ⟨q1, q2⟩ := h
  rw [g1] at q1
  subst q2
  exact ⟨q1, g2⟩
