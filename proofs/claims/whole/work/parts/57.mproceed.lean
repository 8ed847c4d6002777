theorem frR.trans {z w v : sT} {b : Nat} (h : frR z w b) (h2 : frR w v b) : frR z v b := ⟨h2.1.trans h.1, fun c c1 c2 c3 => (h2.2.1 c c1 c2 c3).trans (h.2.1 c c1 c2 c3), fun c hc => ⟨((h2.2.2 c hc).1).trans (h.2.2 c hc).1, ((h2.2.2 c hc).2.1).trans (h.2.2 c hc).2.1, fun m hm => ((h2.2.2 c hc).2.2 m hm).trans ((h.2.2 c hc).2.2 m hm)⟩⟩
theorem aX_at {C : eC} {R : rR} (h : rOk C R) : (xSl C)[R.1]? = some (aX C R) := by
  have h1 : R.1 < (xSl C).length := by have := h.1; omega
  unfold aX
  rw [List.getD_eq_getElem?_getD, List.getElem?_eq_getElem h1]
  rfl
theorem aY_at {C : eC} {R : rR} (h : rOk C R) : (xSl C)[R.1 + 1]? = some (aY C R) := by
  have h1 : R.1 + 1 < (xSl C).length := h.1
  unfold aY
  rw [List.getD_eq_getElem?_getD, List.getElem?_eq_getElem h1]
  rfl
theorem ln0 {a b m : Nat} : nI (a + (m + b) + 1) + 0 = nI (a + 1 + (m + b)) := by
  rw [Int32.add_zero, show a + (m + b) + 1 = a + 1 + (m + b) by omega]
theorem ln9 {a b m : Nat} : nI (a + (m + b) + 1) + (-1) = nI (a + (m + b)) := pk_m1 _
theorem ln1 {a b m : Nat} : nI (a + (m + b) + 1) + 1 = nI (a + 1 + (m + (b + 1))) := by
  rw [nI_1, show a + (m + b) + 1 + 1 = a + 1 + (m + (b + 1)) by omega]
theorem one_000 {C : eC} {k p ms : List rR} {d la ba : Int32} {R : rR} {m : Nat} (hlt : aLt C R = false) (hbr : aBr C R = false) (hst : aSt C R = false) (hgo : aGo C R = false) (hcm : aCm C R = false) : aOne C (k, p, ms, d, la, ba) R m = (k ++ [R], p, ms, d, la, ba) := by
  simp only [aOne, aKp, aPt, aMt, aDr, aLa, aBa, aAp, hlt, hbr, hst, hgo, hcm]
  simp
theorem one_010 {C : eC} {k p ms : List rR} {d la ba : Int32} {R : rR} {m : Nat} (hlt : aLt C R = false) (hbr : aBr C R = false) (hst : aSt C R = false) (hgo : aGo C R = true) (hcm : aCm C R = false) : aOne C (k, p, ms, d, la, ba) R m = (k ++ [aTk C R (R.1 + 1)], p, ms, d, la, ba) := by
  simp only [aOne, aKp, aPt, aMt, aDr, aLa, aBa, aAp, hlt, hbr, hst, hgo, hcm]
  simp
theorem one_011 {C : eC} {k p ms : List rR} {d la ba : Int32} {R : rR} {m : Nat} (hlt : aLt C R = false) (hbr : aBr C R = false) (hst : aSt C R = false) (hgo : aGo C R = true) (hcm : aCm C R = true) : aOne C (k, p, ms, d, la, ba) R m = (k, p, ms ++ [aTk C R (R.1 + 1)], d, la, ba) := by
  simp only [aOne, aKp, aPt, aMt, aDr, aLa, aBa, aAp, hlt, hbr, hst, hgo, hcm]
  simp
theorem one_100 {C : eC} {k p ms : List rR} {d la ba : Int32} {R : rR} {m : Nat} (hlt : aLt C R = false) (hbr : aBr C R = false) (hst : aSt C R = true) (hgo : aGo C R = false) (hcm : aCm C R = false) : aOne C (k, p, ms, d, la, ba) R m = (k ++ [aTk C R R.1], p, ms, d, la, ba) := by
  simp only [aOne, aKp, aPt, aMt, aDr, aLa, aBa, aAp, hlt, hbr, hst, hgo, hcm]
  simp
theorem one_110_0 {C : eC} {k p ms : List rR} {d la ba : Int32} {R : rR} {m : Nat} (hlt : aLt C R = false) (hbr : aBr C R = false) (hst : aSt C R = true) (hgo : aGo C R = true) (hcm : aCm C R = false) (hr : decide (k.length + (m + p.length) + 1 < 24) = false) : aOne C (k, p, ms, d, la, ba) R m = (k ++ [aTk C R R.1], p, ms, d + 1, la, ba) := by
  simp only [aOne, aKp, aPt, aMt, aDr, aLa, aBa, aAp, hlt, hbr, hst, hgo, hcm, hr]
  simp
theorem one_110_1 {C : eC} {k p ms : List rR} {d la ba : Int32} {R : rR} {m : Nat} (hlt : aLt C R = false) (hbr : aBr C R = false) (hst : aSt C R = true) (hgo : aGo C R = true) (hcm : aCm C R = false) (hr : decide (k.length + (m + p.length) + 1 < 24) = true) : aOne C (k, p, ms, d, la, ba) R m = (k ++ [aTk C R R.1], p ++ [aTk C R (R.1 + 1)], ms, d, la, ba) := by
  simp only [aOne, aKp, aPt, aMt, aDr, aLa, aBa, aAp, hlt, hbr, hst, hgo, hcm, hr]
  simp
theorem one_111 {C : eC} {k p ms : List rR} {d la ba : Int32} {R : rR} {m : Nat} (hlt : aLt C R = false) (hbr : aBr C R = false) (hst : aSt C R = true) (hgo : aGo C R = true) (hcm : aCm C R = true) : aOne C (k, p, ms, d, la, ba) R m = (k ++ [aTk C R R.1], p, ms ++ [aTk C R (R.1 + 1)], d, la, ba) := by
  simp only [aOne, aKp, aPt, aMt, aDr, aLa, aBa, aAp, hlt, hbr, hst, hgo, hcm]
  simp
theorem one_lt {C : eC} {k p ms : List rR} {d la ba : Int32} {R : rR} {m : Nat} (hlt : aLt C R = true) : aOne C (k, p, ms, d, la, ba) R m = (k, p, ms, d, la + 1, ba) := by
  simp only [aOne, aKp, aPt, aMt, aDr, aLa, aBa, aAp, hlt]
  simp
theorem one_br {C : eC} {k p ms : List rR} {d la ba : Int32} {R : rR} {m : Nat} (hlt : aLt C R = false) (hbr : aBr C R = true) : aOne C (k, p, ms, d, la, ba) R m = (k, p, ms, d, la, ba + 1) := by
  simp only [aOne, aKp, aPt, aMt, aDr, aLa, aBa, aAp, hlt, hbr]
  simp
set_option maxRecDepth 100000 in
set_option maxHeartbeats 4000000 in
theorem k_mProceed (l : Launch) (g : mG) (ad : Nat → Nat) (z : sT) (C : eC) (n i m : Nat) (z0 : sT) (rs : List rR) (mc : Int32) (k p ms : List rR) (d la ba : Int32) (R : rR) (hc : cnA z C n) (hA : arA z0 rs mc (k, p, ms, d, la, ba) z) (hi : rs[i]? = some R) (hb : bdA rs (k, p, ms, d, la, ba)) (hok : rOk C R) (hR9 : rEv R n) (hsm : smA (k, p, ms, d, la, ba) (m + 1)) (hlt : aLt C R = false) (hbr : aBr C R = false) : sC l y_Md_proceed c_Md_proceed 7 (some .int) 1 g ad [.ref (ad 126), .int (nI i), .int (nI n), .int (nI (k.length + (m + p.length) + 1))] z (fun r9 w => ∃ x : Int32, r9 = some (.int x) ∧ nI (k.length + (m + p.length) + 1) + x = nI ((aOne C (k, p, ms, d, la, ba) R m).1.length + (m + (aOne C (k, p, ms, d, la, ba) R m).2.1.length)) ∧ arA z0 rs mc (aOne C (k, p, ms, d, la, ba) R m) w) := by
  refine sC.intro (own := R_Md) rfl (by decide) (by decide) (by simp [Value.category]) (Nat.le_of_ble_eq_true rfl) (fun K hB hE => ?_)
  show K 0 [some (.ref (ad 126)), some (.int (nI i)), some (.int (nI n)), some (.int (nI (k.length + (m + p.length) + 1))), none, none, none] [] z
  have h18 := rOk_18 hc.2.2.2.2.1 hok
  have hmd : mdR z i R := hA.2.1 i R hi
  have hi24 : i < 24 := by
    have h9 := ix_lt hi
    have h8 := hb.1
    omega
  obtain ⟨h1, h19, hV0, hV⟩ := hR9
  have hsm1 : k.length + (m + 1 + p.length) ≤ 24 := hsm.1
  have hsm2 : ms.length + (m + 1) ≤ 24 := hsm.2
  have hk25 : z.1 126 25 = nI k.length := hA.2.2.1.1
  have ek : (25 : Int32) + z.1 126 25 = nI (25 + k.length) := by rw [hk25]; exact nI_add 25 _
  have hnu : xNu C = nI n := hc.2.2.2.2.2.2.2
  have hK8 := hc.2.2.2.2.1
  have hel := hc.2.2.2.1
  have hx := hc.2.2.1 _ _ (aX_at hok)
  have hy := hc.2.2.1 _ _ (aY_at hok)
  have hx8 := stO_in (aX_at hok)
  have hy8 := stO_in (aY_at hok)
  have hx9 : aX C R < xK C := hx8
  have hy9 : aY C R < xK C := hy8
  have es : z.1 139 i + 1 = nI (R.1 + 1) := by rw [hmd.1, ← nI_succ]
  have e130 : z.1 130 (aX C R) = (xEl C (aX C R)).2.2.1 := (hel _ hx9).1.2.2.1
  have h105 : K 105 [some (.ref (ad 126)), some (.int (nI i)), some (.int (nI n)), some (.int (nI (k.length + (m + p.length) + 1))), some (.int (bI (aSt C R))), some (.int (bI (aGo C R))), some (.int (bI (aCm C R)))] [] z := by
    cases hst : aSt C R
    · cases hgo : aGo C R
      · have hcm : aCm C R = false := by unfold aCm; rw [hgo]; rfl
        rw [hcm]
        refine hB.iload d_Md_proceed_105 rfl ?_
        refine hB.if_ne d_Md_proceed_107 (tgt := 115) rfl (fun q107 => absurd rfl q107) (fun q107 => ?_)
        refine hB.iload d_Md_proceed_110 rfl ?_
        refine hB.if_ne d_Md_proceed_112 (tgt := 155) rfl (fun q112 => absurd rfl q112) (fun q112 => ?_)
        refine hB.aload_n d_Md_proceed_115 rfl ?_
        refine hB.iload_n d_Md_proceed_116 rfl ?_
        refine hB.bipush d_Md_proceed_117 (v := 25) rfl ?_
        refine hB.aload_n d_Md_proceed_119 rfl ?_
        refine hB.getI (Or.inl fa_Md_152) d_Md_proceed_120 (by decide) sK_126 rfl ?_
        refine hB.iadd d_Md_proceed_123 ?_
        rw [ek]
        refine hB.callV lk_Md_155 cd_Md_copy (k_mCopy l g ad z i (25 + k.length) R (by omega) (by omega) (by omega) hmd (by omega)) rfl (by decide) sK_126 d_Md_proceed_124 rfl rfl (by decide) (by simp [Value.category]) ?_
        rintro _ w1 ⟨rfl, hw1, hf1⟩
        have ek1 : (25 : Int32) + w1.1 126 25 = nI (25 + k.length) := by rw [hf1.2.1 126 (by decide) (by decide) (by decide)]; exact ek
        have hv1 : w1.1 137 n = xVa C := by rw [hf1.2.1 137 (by decide) (by decide) (by decide)]; exact hc.1.2.2.2.1
        refine hB.iload d_Md_proceed_127 rfl ?_
        refine hB.if_eq d_Md_proceed_129 (tgt := 145) rfl (fun q129 => ?_) (fun q129 => absurd rfl q129)
        refine hB.aload_n d_Md_proceed_145 rfl ?_
        refine hB.dup d_Md_proceed_146 rfl ?_
        refine hB.getI (Or.inl fa_Md_152) d_Md_proceed_147 (by decide) sK_126 rfl ?_
        refine hB.iconst d_Md_proceed_150 (v := 1) rfl ?_
        refine hB.iadd d_Md_proceed_151 ?_
        rw [show w1.1 126 25 + (1 : Int32) = nI (k.length + 1) by rw [hf1.2.1 126 (by decide) (by decide) (by decide), hk25, ← nI_succ]]
        refine hB.putI (Or.inl fa_Md_152) d_Md_proceed_152 (by decide) sK_126 rfl rfl rfl ?_
        have hA1 : arA z0 rs mc (k ++ [R], p, ms, d, la, ba) (sI w1 126 25 (nI (k.length + 1))) := hA.keep hb (by omega) hf1 hw1 rfl
        generalize sI w1 126 25 (nI (k.length + 1)) = v1 at hA1 ⊢
        have hb1 : bdA rs (k ++ [R], p, ms, d, la, ba) := ⟨hb.1, hb.2.1, hb.2.2.1.add (by first | (show R.2.1 ≤ 19; omega) | (show R.2.1 + 1 ≤ 19; omega)), hb.2.2.2⟩
        refine hB.iload d_Md_proceed_155 rfl ?_
        refine hB.if_eq d_Md_proceed_157 (tgt := 177) rfl (fun q157 => ?_) (fun q157 => absurd rfl q157)
        refine hB.iload d_Md_proceed_177 rfl ?_
        refine hB.if_ne d_Md_proceed_179 (tgt := 184) rfl (fun q179 => absurd rfl q179) (fun q179 => ?_)
        refine hB.iconst d_Md_proceed_182 (v := 0) rfl ?_
        exact hE.1 _ _ _ _ _ d_Md_proceed_183 rfl rfl ⟨0, rfl, by rw [one_000 hlt hbr hst hgo hcm]; simp only [List.length_append, List.length_singleton]; exact ln0, by rw [one_000 hlt hbr hst hgo hcm]; exact hA1⟩
      · cases hcm : aCm C R
        · refine hB.iload d_Md_proceed_105 rfl ?_
          refine hB.if_ne d_Md_proceed_107 (tgt := 115) rfl (fun q107 => absurd rfl q107) (fun q107 => ?_)
          refine hB.iload d_Md_proceed_110 rfl ?_
          refine hB.if_ne d_Md_proceed_112 (tgt := 155) rfl (fun q112 => ?_) (fun q112 => absurd q112 (by decide))
          refine hB.iload d_Md_proceed_155 rfl ?_
          refine hB.if_eq d_Md_proceed_157 (tgt := 177) rfl (fun q157 => ?_) (fun q157 => absurd rfl q157)
          refine hB.iload d_Md_proceed_177 rfl ?_
          refine hB.if_ne d_Md_proceed_179 (tgt := 184) rfl (fun q179 => ?_) (fun q179 => absurd q179 (by decide))
          refine hB.iload d_Md_proceed_184 rfl ?_
          refine hB.if_ne d_Md_proceed_186 (tgt := 226) rfl (fun q186 => absurd rfl q186) (fun q186 => ?_)
          refine hB.aload_n d_Md_proceed_189 rfl ?_
          refine hB.iload_n d_Md_proceed_190 rfl ?_
          refine hB.bipush d_Md_proceed_191 (v := 25) rfl ?_
          refine hB.aload_n d_Md_proceed_193 rfl ?_
          refine hB.getI (Or.inl fa_Md_152) d_Md_proceed_194 (by decide) sK_126 rfl ?_
          refine hB.iadd d_Md_proceed_197 ?_
          rw [ek]
          refine hB.callV lk_Md_155 cd_Md_copy (k_mCopy l g ad z i (25 + k.length) R (by omega) (by omega) (by omega) hmd (by omega)) rfl (by decide) sK_126 d_Md_proceed_198 rfl rfl (by decide) (by simp [Value.category]) ?_
          rintro _ w1 ⟨rfl, hw1, hf1⟩
          have ek1 : (25 : Int32) + w1.1 126 25 = nI (25 + k.length) := by rw [hf1.2.1 126 (by decide) (by decide) (by decide)]; exact ek
          have hv1 : w1.1 137 n = xVa C := by rw [hf1.2.1 137 (by decide) (by decide) (by decide)]; exact hc.1.2.2.2.1
          refine hB.aload_n d_Md_proceed_201 rfl ?_
          refine hB.bipush d_Md_proceed_202 (v := 25) rfl ?_
          refine hB.aload_n d_Md_proceed_204 rfl ?_
          refine hB.getI (Or.inl fa_Md_152) d_Md_proceed_205 (by decide) sK_126 rfl ?_
          refine hB.iadd d_Md_proceed_208 ?_
          refine hB.iload_n d_Md_proceed_209 rfl ?_
          refine hB.iconst d_Md_proceed_210 (v := 1) rfl ?_
          rw [ek1]
          refine hB.callV lk_Md_159 cd_Md_take (k_mTake l g ad w1 (25 + k.length) R.2.1 n R.1 1 (by omega) (by omega) hw1.2.1 hw1.1) rfl (by decide) sK_126 d_Md_proceed_211 rfl rfl (by decide) (by simp [Value.category]) ?_
          rintro _ w2 ⟨rfl, hw2⟩
          have hf2 : frR z w2 (25 + k.length) := hf1.trans (by rw [hw2]; exact sTa_fr (by omega))
          have hQ2 : mdR w2 (25 + k.length) (aTk C R (R.1 + 1)) := by
            rw [hw2]
            unfold aTk
            rw [hnu]
            exact sTa_R hw1 h1 (by omega) hc.1.1 hv1
          clear hw2
          refine hB.aload_n d_Md_proceed_214 rfl ?_
          refine hB.dup d_Md_proceed_215 rfl ?_
          refine hB.getI (Or.inl fa_Md_152) d_Md_proceed_216 (by decide) sK_126 rfl ?_
          refine hB.iconst d_Md_proceed_219 (v := 1) rfl ?_
          refine hB.iadd d_Md_proceed_220 ?_
          rw [show w2.1 126 25 + (1 : Int32) = nI (k.length + 1) by rw [hf2.2.1 126 (by decide) (by decide) (by decide), hk25, ← nI_succ]]
          refine hB.putI (Or.inl fa_Md_152) d_Md_proceed_221 (by decide) sK_126 rfl rfl rfl ?_
          have hA1 : arA z0 rs mc (k ++ [aTk C R (R.1 + 1)], p, ms, d, la, ba) (sI w2 126 25 (nI (k.length + 1))) := hA.keep hb (by omega) hf2 hQ2 rfl
          generalize sI w2 126 25 (nI (k.length + 1)) = v1 at hA1 ⊢
          have hb1 : bdA rs (k ++ [aTk C R (R.1 + 1)], p, ms, d, la, ba) := ⟨hb.1, hb.2.1, hb.2.2.1.add (by first | (show R.2.1 ≤ 19; omega) | (show R.2.1 + 1 ≤ 19; omega)), hb.2.2.2⟩
          refine hB.iconst d_Md_proceed_224 (v := 0) rfl ?_
          exact hE.1 _ _ _ _ _ d_Md_proceed_225 rfl rfl ⟨0, rfl, by rw [one_010 hlt hbr hst hgo hcm]; simp only [List.length_append, List.length_singleton]; exact ln0, by rw [one_010 hlt hbr hst hgo hcm]; exact hA1⟩
        · refine hB.iload d_Md_proceed_105 rfl ?_
          refine hB.if_ne d_Md_proceed_107 (tgt := 115) rfl (fun q107 => absurd rfl q107) (fun q107 => ?_)
          refine hB.iload d_Md_proceed_110 rfl ?_
          refine hB.if_ne d_Md_proceed_112 (tgt := 155) rfl (fun q112 => ?_) (fun q112 => absurd q112 (by decide))
          refine hB.iload d_Md_proceed_155 rfl ?_
          refine hB.if_eq d_Md_proceed_157 (tgt := 177) rfl (fun q157 => absurd q157 (by decide)) (fun q157 => ?_)
          refine hB.aload_n d_Md_proceed_160 rfl ?_
          refine hB.iload_n d_Md_proceed_161 rfl ?_
          refine hB.iload_n d_Md_proceed_162 rfl ?_
          refine hB.callV lk_Md_163 cd_Md_complete (k_mDone1 l g ad _ i ms.length n R (by omega) hA.2.2.2.2.1.1 (by omega) (hA.2.1 i R hi) (by omega)) rfl (by decide) sK_126 d_Md_proceed_163 rfl rfl (by decide) (by simp [Value.category]) ?_
          rintro _ w3 ⟨rfl, hw3⟩
          have hA2 : arA z0 rs mc (k, p, ms ++ [aTk C R (R.1 + 1)], d, la, ba) w3 := by
            have hm9 := hA.2.1 i R hi
            rw [hw3]
            refine hA.match hb (sDn_fr (by omega)) ?_
            unfold aTk
            rw [hnu]
            exact sDn_M hm9
          refine hB.iload d_Md_proceed_166 rfl ?_
          refine hB.if_eq d_Md_proceed_168 (tgt := 175) rfl (fun q168 => ?_) (fun q168 => absurd rfl q168)
          refine hB.iconst d_Md_proceed_175 (v := -1) rfl ?_
          exact hE.1 _ _ _ _ _ d_Md_proceed_176 rfl rfl ⟨(-1), rfl, by rw [one_011 hlt hbr hst hgo hcm]; simp only [List.length_append, List.length_singleton]; exact ln9, by rw [one_011 hlt hbr hst hgo hcm]; exact hA2⟩
    · cases hgo : aGo C R
      · have hcm : aCm C R = false := by unfold aCm; rw [hgo]; rfl
        rw [hcm]
        refine hB.iload d_Md_proceed_105 rfl ?_
        refine hB.if_ne d_Md_proceed_107 (tgt := 115) rfl (fun q107 => ?_) (fun q107 => absurd q107 (by decide))
        refine hB.aload_n d_Md_proceed_115 rfl ?_
        refine hB.iload_n d_Md_proceed_116 rfl ?_
        refine hB.bipush d_Md_proceed_117 (v := 25) rfl ?_
        refine hB.aload_n d_Md_proceed_119 rfl ?_
        refine hB.getI (Or.inl fa_Md_152) d_Md_proceed_120 (by decide) sK_126 rfl ?_
        refine hB.iadd d_Md_proceed_123 ?_
        rw [ek]
        refine hB.callV lk_Md_155 cd_Md_copy (k_mCopy l g ad z i (25 + k.length) R (by omega) (by omega) (by omega) hmd (by omega)) rfl (by decide) sK_126 d_Md_proceed_124 rfl rfl (by decide) (by simp [Value.category]) ?_
        rintro _ w1 ⟨rfl, hw1, hf1⟩
        have ek1 : (25 : Int32) + w1.1 126 25 = nI (25 + k.length) := by rw [hf1.2.1 126 (by decide) (by decide) (by decide)]; exact ek
        have hv1 : w1.1 137 n = xVa C := by rw [hf1.2.1 137 (by decide) (by decide) (by decide)]; exact hc.1.2.2.2.1
        refine hB.iload d_Md_proceed_127 rfl ?_
        refine hB.if_eq d_Md_proceed_129 (tgt := 145) rfl (fun q129 => absurd q129 (by decide)) (fun q129 => ?_)
        refine hB.aload_n d_Md_proceed_132 rfl ?_
        refine hB.bipush d_Md_proceed_133 (v := 25) rfl ?_
        refine hB.aload_n d_Md_proceed_135 rfl ?_
        refine hB.getI (Or.inl fa_Md_152) d_Md_proceed_136 (by decide) sK_126 rfl ?_
        refine hB.iadd d_Md_proceed_139 ?_
        refine hB.iload_n d_Md_proceed_140 rfl ?_
        refine hB.iconst d_Md_proceed_141 (v := 0) rfl ?_
        rw [ek1]
        refine hB.callV lk_Md_159 cd_Md_take (k_mTake l g ad w1 (25 + k.length) R.2.1 n R.1 0 (by omega) (by omega) hw1.2.1 hw1.1) rfl (by decide) sK_126 d_Md_proceed_142 rfl rfl (by decide) (by simp [Value.category]) ?_
        rintro _ w2 ⟨rfl, hw2⟩
        have hf2 : frR z w2 (25 + k.length) := hf1.trans (by rw [hw2]; exact sTa_fr (by omega))
        have hQ2 : mdR w2 (25 + k.length) (aTk C R R.1) := by
          rw [hw2]
          unfold aTk
          rw [hnu]
          exact sTa_R hw1 h1 (by omega) hc.1.1 hv1
        clear hw2
        refine hB.aload_n d_Md_proceed_145 rfl ?_
        refine hB.dup d_Md_proceed_146 rfl ?_
        refine hB.getI (Or.inl fa_Md_152) d_Md_proceed_147 (by decide) sK_126 rfl ?_
        refine hB.iconst d_Md_proceed_150 (v := 1) rfl ?_
        refine hB.iadd d_Md_proceed_151 ?_
        rw [show w2.1 126 25 + (1 : Int32) = nI (k.length + 1) by rw [hf2.2.1 126 (by decide) (by decide) (by decide), hk25, ← nI_succ]]
        refine hB.putI (Or.inl fa_Md_152) d_Md_proceed_152 (by decide) sK_126 rfl rfl rfl ?_
        have hA1 : arA z0 rs mc (k ++ [aTk C R R.1], p, ms, d, la, ba) (sI w2 126 25 (nI (k.length + 1))) := hA.keep hb (by omega) hf2 hQ2 rfl
        generalize sI w2 126 25 (nI (k.length + 1)) = v1 at hA1 ⊢
        have hb1 : bdA rs (k ++ [aTk C R R.1], p, ms, d, la, ba) := ⟨hb.1, hb.2.1, hb.2.2.1.add (by first | (show R.2.1 ≤ 19; omega) | (show R.2.1 + 1 ≤ 19; omega)), hb.2.2.2⟩
        refine hB.iload d_Md_proceed_155 rfl ?_
        refine hB.if_eq d_Md_proceed_157 (tgt := 177) rfl (fun q157 => ?_) (fun q157 => absurd rfl q157)
        refine hB.iload d_Md_proceed_177 rfl ?_
        refine hB.if_ne d_Md_proceed_179 (tgt := 184) rfl (fun q179 => absurd rfl q179) (fun q179 => ?_)
        refine hB.iconst d_Md_proceed_182 (v := 0) rfl ?_
        exact hE.1 _ _ _ _ _ d_Md_proceed_183 rfl rfl ⟨0, rfl, by rw [one_100 hlt hbr hst hgo hcm]; simp only [List.length_append, List.length_singleton]; exact ln0, by rw [one_100 hlt hbr hst hgo hcm]; exact hA1⟩
      · cases hcm : aCm C R
        · refine hB.iload d_Md_proceed_105 rfl ?_
          refine hB.if_ne d_Md_proceed_107 (tgt := 115) rfl (fun q107 => ?_) (fun q107 => absurd q107 (by decide))
          refine hB.aload_n d_Md_proceed_115 rfl ?_
          refine hB.iload_n d_Md_proceed_116 rfl ?_
          refine hB.bipush d_Md_proceed_117 (v := 25) rfl ?_
          refine hB.aload_n d_Md_proceed_119 rfl ?_
          refine hB.getI (Or.inl fa_Md_152) d_Md_proceed_120 (by decide) sK_126 rfl ?_
          refine hB.iadd d_Md_proceed_123 ?_
          rw [ek]
          refine hB.callV lk_Md_155 cd_Md_copy (k_mCopy l g ad z i (25 + k.length) R (by omega) (by omega) (by omega) hmd (by omega)) rfl (by decide) sK_126 d_Md_proceed_124 rfl rfl (by decide) (by simp [Value.category]) ?_
          rintro _ w1 ⟨rfl, hw1, hf1⟩
          have ek1 : (25 : Int32) + w1.1 126 25 = nI (25 + k.length) := by rw [hf1.2.1 126 (by decide) (by decide) (by decide)]; exact ek
          have hv1 : w1.1 137 n = xVa C := by rw [hf1.2.1 137 (by decide) (by decide) (by decide)]; exact hc.1.2.2.2.1
          refine hB.iload d_Md_proceed_127 rfl ?_
          refine hB.if_eq d_Md_proceed_129 (tgt := 145) rfl (fun q129 => absurd q129 (by decide)) (fun q129 => ?_)
          refine hB.aload_n d_Md_proceed_132 rfl ?_
          refine hB.bipush d_Md_proceed_133 (v := 25) rfl ?_
          refine hB.aload_n d_Md_proceed_135 rfl ?_
          refine hB.getI (Or.inl fa_Md_152) d_Md_proceed_136 (by decide) sK_126 rfl ?_
          refine hB.iadd d_Md_proceed_139 ?_
          refine hB.iload_n d_Md_proceed_140 rfl ?_
          refine hB.iconst d_Md_proceed_141 (v := 0) rfl ?_
          rw [ek1]
          refine hB.callV lk_Md_159 cd_Md_take (k_mTake l g ad w1 (25 + k.length) R.2.1 n R.1 0 (by omega) (by omega) hw1.2.1 hw1.1) rfl (by decide) sK_126 d_Md_proceed_142 rfl rfl (by decide) (by simp [Value.category]) ?_
          rintro _ w2 ⟨rfl, hw2⟩
          have hf2 : frR z w2 (25 + k.length) := hf1.trans (by rw [hw2]; exact sTa_fr (by omega))
          have hQ2 : mdR w2 (25 + k.length) (aTk C R R.1) := by
            rw [hw2]
            unfold aTk
            rw [hnu]
            exact sTa_R hw1 h1 (by omega) hc.1.1 hv1
          clear hw2
          refine hB.aload_n d_Md_proceed_145 rfl ?_
          refine hB.dup d_Md_proceed_146 rfl ?_
          refine hB.getI (Or.inl fa_Md_152) d_Md_proceed_147 (by decide) sK_126 rfl ?_
          refine hB.iconst d_Md_proceed_150 (v := 1) rfl ?_
          refine hB.iadd d_Md_proceed_151 ?_
          rw [show w2.1 126 25 + (1 : Int32) = nI (k.length + 1) by rw [hf2.2.1 126 (by decide) (by decide) (by decide), hk25, ← nI_succ]]
          refine hB.putI (Or.inl fa_Md_152) d_Md_proceed_152 (by decide) sK_126 rfl rfl rfl ?_
          have hA1 : arA z0 rs mc (k ++ [aTk C R R.1], p, ms, d, la, ba) (sI w2 126 25 (nI (k.length + 1))) := hA.keep hb (by omega) hf2 hQ2 rfl
          generalize sI w2 126 25 (nI (k.length + 1)) = v1 at hA1 ⊢
          have hb1 : bdA rs (k ++ [aTk C R R.1], p, ms, d, la, ba) := ⟨hb.1, hb.2.1, hb.2.2.1.add (by first | (show R.2.1 ≤ 19; omega) | (show R.2.1 + 1 ≤ 19; omega)), hb.2.2.2⟩
          refine hB.iload d_Md_proceed_155 rfl ?_
          refine hB.if_eq d_Md_proceed_157 (tgt := 177) rfl (fun q157 => ?_) (fun q157 => absurd rfl q157)
          refine hB.iload d_Md_proceed_177 rfl ?_
          refine hB.if_ne d_Md_proceed_179 (tgt := 184) rfl (fun q179 => ?_) (fun q179 => absurd q179 (by decide))
          refine hB.iload d_Md_proceed_184 rfl ?_
          refine hB.if_ne d_Md_proceed_186 (tgt := 226) rfl (fun q186 => ?_) (fun q186 => absurd q186 (by decide))
          refine hB.iload_n d_Md_proceed_226 rfl ?_
          refine hB.bipush d_Md_proceed_227 (v := 24) rfl ?_
          refine hB.icmp_ne d_Md_proceed_229 (tgt := 244) rfl (fun q229 => ?_) (fun q229 => ?_)
          · have hr : decide (k.length + (m + p.length) + 1 < 24) = true := by
              have h9 := mt (nI_eq (a := k.length + (m + p.length) + 1) (b := 24) (by omega) (by decide)).mpr q229
              exact decide_eq_true (by omega)
            refine hB.aload_n d_Md_proceed_244 rfl ?_
            refine hB.iload_n d_Md_proceed_245 rfl ?_
            refine hB.bipush d_Md_proceed_246 (v := 50) rfl ?_
            refine hB.aload_n d_Md_proceed_248 rfl ?_
            refine hB.getI (Or.inl fa_Md_166) d_Md_proceed_249 (by decide) sK_126 rfl ?_
            refine hB.iadd d_Md_proceed_252 ?_
            have ep5 : v1.1 126 26 = nI p.length := hA1.2.2.2.1.1
            have ep : (50 : Int32) + v1.1 126 26 = nI (50 + p.length) := by rw [ep5]; exact nI_add 50 _
            rw [ep]
            refine hB.callV lk_Md_155 cd_Md_copy (k_mCopy l g ad v1 i (50 + p.length) R (by omega) (by omega) (by omega) (hA1.2.1 i R hi) (by omega)) rfl (by decide) sK_126 d_Md_proceed_253 rfl rfl (by decide) (by simp [Value.category]) ?_
            rintro _ w4 ⟨rfl, hw4, hf4⟩
            have ep1 : (50 : Int32) + w4.1 126 26 = nI (50 + p.length) := by rw [hf4.2.1 126 (by decide) (by decide) (by decide)]; exact ep
            have hv4 : w4.1 137 n = xVa C := by rw [hf4.2.1 137 (by decide) (by decide) (by decide), hA1.1.2.1 137 (by decide) (Or.inl (by decide)), ← hA.1.2.1 137 (by decide) (Or.inl (by decide))]; exact hc.1.2.2.2.1
            refine hB.aload_n d_Md_proceed_256 rfl ?_
            refine hB.bipush d_Md_proceed_257 (v := 50) rfl ?_
            refine hB.aload_n d_Md_proceed_259 rfl ?_
            refine hB.getI (Or.inl fa_Md_166) d_Md_proceed_260 (by decide) sK_126 rfl ?_
            refine hB.iadd d_Md_proceed_263 ?_
            refine hB.iload_n d_Md_proceed_264 rfl ?_
            refine hB.iconst d_Md_proceed_265 (v := 1) rfl ?_
            rw [ep1]
            refine hB.callV lk_Md_159 cd_Md_take (k_mTake l g ad w4 (50 + p.length) R.2.1 n R.1 1 (by omega) (by omega) hw4.2.1 hw4.1) rfl (by decide) sK_126 d_Md_proceed_266 rfl rfl (by decide) (by simp [Value.category]) ?_
            rintro _ w5 ⟨rfl, hw5⟩
            have hf5 : frR v1 w5 (50 + p.length) := hf4.trans (by rw [hw5]; exact sTa_fr (by omega))
            have hQ5 : mdR w5 (50 + p.length) (aTk C R (R.1 + 1)) := by
              rw [hw5]
              unfold aTk
              rw [hnu]
              exact sTa_R hw4 h1 (by omega) hc.1.1 hv4
            clear hw5
            refine hB.aload_n d_Md_proceed_269 rfl ?_
            refine hB.dup d_Md_proceed_270 rfl ?_
            refine hB.getI (Or.inl fa_Md_166) d_Md_proceed_271 (by decide) sK_126 rfl ?_
            refine hB.iconst d_Md_proceed_274 (v := 1) rfl ?_
            refine hB.iadd d_Md_proceed_275 ?_
            rw [show w5.1 126 26 + (1 : Int32) = nI (p.length + 1) by rw [hf5.2.1 126 (by decide) (by decide) (by decide), ep5, ← nI_succ]]
            refine hB.putI (Or.inl fa_Md_166) d_Md_proceed_276 (by decide) sK_126 rfl rfl rfl ?_
            refine hB.iconst d_Md_proceed_279 (v := 1) rfl ?_
            exact hE.1 _ _ _ _ _ d_Md_proceed_280 rfl rfl ⟨1, rfl, by rw [one_110_1 hlt hbr hst hgo hcm hr]; simp only [List.length_append, List.length_singleton]; exact ln1, by rw [one_110_1 hlt hbr hst hgo hcm hr]; exact (hA1.behind hb1 (by rw [List.length_append, List.length_singleton]; omega) hf5 hQ5 rfl)⟩
          · have hr : decide (k.length + (m + p.length) + 1 < 24) = false := by
              have h9 := (nI_eq (a := k.length + (m + p.length) + 1) (b := 24) (by omega) (by decide)).mp q229
              rw [h9]
              rfl
            refine hB.aload_n d_Md_proceed_232 rfl ?_
            refine hB.dup d_Md_proceed_233 rfl ?_
            refine hB.getI (Or.inl fa_Md_132) d_Md_proceed_234 (by decide) sK_126 rfl ?_
            refine hB.iconst d_Md_proceed_237 (v := 1) rfl ?_
            refine hB.iadd d_Md_proceed_238 ?_
            refine hB.putI (Or.inl fa_Md_132) d_Md_proceed_239 (by decide) sK_126 rfl rfl rfl ?_
            refine hB.iconst d_Md_proceed_242 (v := 0) rfl ?_
            exact hE.1 _ _ _ _ _ d_Md_proceed_243 rfl rfl ⟨0, rfl, by rw [one_110_0 hlt hbr hst hgo hcm hr]; simp only [List.length_append, List.length_singleton]; exact ln0, by rw [one_110_0 hlt hbr hst hgo hcm hr]; exact hA1.num (fun q hq => sI_row hq) rfl (fun j hj => sI_ne (by omega)) (by rw [sI_eq, hA1.2.2.2.2.2.2.1]) (by rw [sI_ne (by decide)]; exact hA1.2.2.2.2.2.2.2.1) (by rw [sI_ne (by decide)]; exact hA1.2.2.2.2.2.2.2.2)⟩
        · refine hB.iload d_Md_proceed_105 rfl ?_
          refine hB.if_ne d_Md_proceed_107 (tgt := 115) rfl (fun q107 => ?_) (fun q107 => absurd q107 (by decide))
          refine hB.aload_n d_Md_proceed_115 rfl ?_
          refine hB.iload_n d_Md_proceed_116 rfl ?_
          refine hB.bipush d_Md_proceed_117 (v := 25) rfl ?_
          refine hB.aload_n d_Md_proceed_119 rfl ?_
          refine hB.getI (Or.inl fa_Md_152) d_Md_proceed_120 (by decide) sK_126 rfl ?_
          refine hB.iadd d_Md_proceed_123 ?_
          rw [ek]
          refine hB.callV lk_Md_155 cd_Md_copy (k_mCopy l g ad z i (25 + k.length) R (by omega) (by omega) (by omega) hmd (by omega)) rfl (by decide) sK_126 d_Md_proceed_124 rfl rfl (by decide) (by simp [Value.category]) ?_
          rintro _ w1 ⟨rfl, hw1, hf1⟩
          have ek1 : (25 : Int32) + w1.1 126 25 = nI (25 + k.length) := by rw [hf1.2.1 126 (by decide) (by decide) (by decide)]; exact ek
          have hv1 : w1.1 137 n = xVa C := by rw [hf1.2.1 137 (by decide) (by decide) (by decide)]; exact hc.1.2.2.2.1
          refine hB.iload d_Md_proceed_127 rfl ?_
          refine hB.if_eq d_Md_proceed_129 (tgt := 145) rfl (fun q129 => absurd q129 (by decide)) (fun q129 => ?_)
          refine hB.aload_n d_Md_proceed_132 rfl ?_
          refine hB.bipush d_Md_proceed_133 (v := 25) rfl ?_
          refine hB.aload_n d_Md_proceed_135 rfl ?_
          refine hB.getI (Or.inl fa_Md_152) d_Md_proceed_136 (by decide) sK_126 rfl ?_
          refine hB.iadd d_Md_proceed_139 ?_
          refine hB.iload_n d_Md_proceed_140 rfl ?_
          refine hB.iconst d_Md_proceed_141 (v := 0) rfl ?_
          rw [ek1]
          refine hB.callV lk_Md_159 cd_Md_take (k_mTake l g ad w1 (25 + k.length) R.2.1 n R.1 0 (by omega) (by omega) hw1.2.1 hw1.1) rfl (by decide) sK_126 d_Md_proceed_142 rfl rfl (by decide) (by simp [Value.category]) ?_
          rintro _ w2 ⟨rfl, hw2⟩
          have hf2 : frR z w2 (25 + k.length) := hf1.trans (by rw [hw2]; exact sTa_fr (by omega))
          have hQ2 : mdR w2 (25 + k.length) (aTk C R R.1) := by
            rw [hw2]
            unfold aTk
            rw [hnu]
            exact sTa_R hw1 h1 (by omega) hc.1.1 hv1
          clear hw2
          refine hB.aload_n d_Md_proceed_145 rfl ?_
          refine hB.dup d_Md_proceed_146 rfl ?_
          refine hB.getI (Or.inl fa_Md_152) d_Md_proceed_147 (by decide) sK_126 rfl ?_
          refine hB.iconst d_Md_proceed_150 (v := 1) rfl ?_
          refine hB.iadd d_Md_proceed_151 ?_
          rw [show w2.1 126 25 + (1 : Int32) = nI (k.length + 1) by rw [hf2.2.1 126 (by decide) (by decide) (by decide), hk25, ← nI_succ]]
          refine hB.putI (Or.inl fa_Md_152) d_Md_proceed_152 (by decide) sK_126 rfl rfl rfl ?_
          have hA1 : arA z0 rs mc (k ++ [aTk C R R.1], p, ms, d, la, ba) (sI w2 126 25 (nI (k.length + 1))) := hA.keep hb (by omega) hf2 hQ2 rfl
          generalize sI w2 126 25 (nI (k.length + 1)) = v1 at hA1 ⊢
          have hb1 : bdA rs (k ++ [aTk C R R.1], p, ms, d, la, ba) := ⟨hb.1, hb.2.1, hb.2.2.1.add (by first | (show R.2.1 ≤ 19; omega) | (show R.2.1 + 1 ≤ 19; omega)), hb.2.2.2⟩
          refine hB.iload d_Md_proceed_155 rfl ?_
          refine hB.if_eq d_Md_proceed_157 (tgt := 177) rfl (fun q157 => absurd q157 (by decide)) (fun q157 => ?_)
          refine hB.aload_n d_Md_proceed_160 rfl ?_
          refine hB.iload_n d_Md_proceed_161 rfl ?_
          refine hB.iload_n d_Md_proceed_162 rfl ?_
          refine hB.callV lk_Md_163 cd_Md_complete (k_mDone1 l g ad _ i ms.length n R (by omega) hA1.2.2.2.2.1.1 (by omega) (hA1.2.1 i R hi) (by omega)) rfl (by decide) sK_126 d_Md_proceed_163 rfl rfl (by decide) (by simp [Value.category]) ?_
          rintro _ w3 ⟨rfl, hw3⟩
          have hA2 : arA z0 rs mc (k ++ [aTk C R R.1], p, ms ++ [aTk C R (R.1 + 1)], d, la, ba) w3 := by
            have hm9 := hA1.2.1 i R hi
            rw [hw3]
            refine hA1.match hb1 (sDn_fr (by omega)) ?_
            unfold aTk
            rw [hnu]
            exact sDn_M hm9
          refine hB.iload d_Md_proceed_166 rfl ?_
          refine hB.if_eq d_Md_proceed_168 (tgt := 175) rfl (fun q168 => absurd q168 (by decide)) (fun q168 => ?_)
          refine hB.iconst d_Md_proceed_171 (v := 0) rfl ?_
          refine hB.goto d_Md_proceed_172 (tgt := 176) rfl ?_
          exact hE.1 _ _ _ _ _ d_Md_proceed_176 rfl rfl ⟨0, rfl, by rw [one_111 hlt hbr hst hgo hcm]; simp only [List.length_append, List.length_singleton]; exact ln0, by rw [one_111 hlt hbr hst hgo hcm]; exact hA2⟩
  have h103 : ∀ b : Bool, b = aCm C R → K 103 [some (.ref (ad 126)), some (.int (nI i)), some (.int (nI n)), some (.int (nI (k.length + (m + p.length) + 1))), some (.int (bI (aSt C R))), some (.int (bI (aGo C R))), none] [.int (bI b)] z := by
    intro b hb9
    subst hb9
    refine hB.istore d_Md_proceed_103 (Nat.le_of_ble_eq_true rfl) ?_
    exact h105
  have h57 : K 57 [some (.ref (ad 126)), some (.int (nI i)), some (.int (nI n)), some (.int (nI (k.length + (m + p.length) + 1))), some (.int (bI (aSt C R))), none, none] [] z := by
    refine hB.aload_n d_Md_proceed_57 rfl ?_
    refine hB.aload_n d_Md_proceed_58 rfl ?_
    refine hB.getC (Or.inl fa_Md_37) d_Md_proceed_59 (by decide) sK_126 rfl ?_
    refine hB.aload_n d_Md_proceed_62 rfl ?_
    refine hB.getC (Or.inl fa_Md_52) d_Md_proceed_63 (by decide) sK_126 rfl ?_
    refine hB.iload_n d_Md_proceed_66 rfl ?_
    refine hB.iald d_Md_proceed_67 (by decide) rfl rfl (by omega) (by decide) ?_
    refine hB.iconst d_Md_proceed_68 (v := 1) rfl ?_
    refine hB.iadd d_Md_proceed_69 ?_
    refine hB.iald d_Md_proceed_70 (by decide) rfl es (by omega) (by decide) ?_
    refine hB.iload_n d_Md_proceed_71 rfl ?_
    refine hB.iload_n d_Md_proceed_72 rfl ?_
    rw [hy]
    refine hB.callV lk_Md_148 cd_Md_fits (k_mFit1 l g ad z C n (aY C R) (xEl C (aY C R)) hc.1 (by omega) (hel _ (by omega)).1 (hel _ (by omega)).2 i R (by omega) hmd h1 (by omega) hV0 hV) rfl (by decide) sK_126 d_Md_proceed_73 rfl rfl (by decide) (by simp [Value.category]) ?_
    rintro _ w9 ⟨rfl, hw9⟩
    have hw8 := hw9.symm
    clear hw9
    subst hw8
    refine hB.istore d_Md_proceed_76 (Nat.le_of_ble_eq_true rfl) ?_
    refine hB.iload d_Md_proceed_78 rfl ?_
    refine hB.if_eq d_Md_proceed_80 (tgt := 102) rfl (fun q80 => ?_) (fun q80 => ?_)
    · refine hB.iconst d_Md_proceed_102 (v := 0) rfl ?_
      first
        | (refine h103 false ?_; have h9 : aGo C R = false := bI_0 q80; unfold aCm; rw [h9]; rfl; done)
        | (refine h103 false ?_; have h8 := mt (fun q => congrArg nI q) q95; unfold aCm; rw [decide_eq_false h8]; simp; done)
        | (refine h103 true ?_; have h9 : aGo C R = true := bI_1 q80; have h8 := (nI_eq (by omega) (by have := len8 hK8; omega)).mp q95; unfold aCm; rw [h9, decide_eq_true h8]; rfl)
    · refine hB.aload_n d_Md_proceed_83 rfl ?_
      refine hB.getC (Or.inl fa_Md_52) d_Md_proceed_84 (by decide) sK_126 rfl ?_
      refine hB.iload_n d_Md_proceed_87 rfl ?_
      refine hB.iald d_Md_proceed_88 (by decide) rfl rfl (by omega) (by decide) ?_
      refine hB.iconst d_Md_proceed_89 (v := 2) rfl ?_
      refine hB.iadd d_Md_proceed_90 ?_
      refine hB.aload_n d_Md_proceed_91 rfl ?_
      refine hB.getI (Or.inl fa_Md_108) d_Md_proceed_92 (by decide) sK_126 rfl ?_
      rw [hmd.1, hc.2.1, show nI R.1 + (2 : Int32) = nI (R.1 + 1 + 1) from nI_add R.1 2]
      refine hB.icmp_ne d_Md_proceed_95 (tgt := 102) rfl (fun q95 => ?_) (fun q95 => ?_)
      · refine hB.iconst d_Md_proceed_102 (v := 0) rfl ?_
        first
          | (refine h103 false ?_; have h9 : aGo C R = false := bI_0 q80; unfold aCm; rw [h9]; rfl; done)
          | (refine h103 false ?_; have h8 := mt (fun q => congrArg nI q) q95; unfold aCm; rw [decide_eq_false h8]; simp; done)
          | (refine h103 true ?_; have h9 : aGo C R = true := bI_1 q80; have h8 := (nI_eq (by omega) (by have := len8 hK8; omega)).mp q95; unfold aCm; rw [h9, decide_eq_true h8]; rfl)
      · refine hB.iconst d_Md_proceed_98 (v := 1) rfl ?_
        refine hB.goto d_Md_proceed_99 (tgt := 103) rfl ?_
        first
          | (refine h103 false ?_; have h9 : aGo C R = false := bI_0 q80; unfold aCm; rw [h9]; rfl; done)
          | (refine h103 false ?_; have h8 := mt (fun q => congrArg nI q) q95; unfold aCm; rw [decide_eq_false h8]; simp; done)
          | (refine h103 true ?_; have h9 : aGo C R = true := bI_1 q80; have h8 := (nI_eq (by omega) (by have := len8 hK8; omega)).mp q95; unfold aCm; rw [h9, decide_eq_true h8]; rfl)
  have h55 : ∀ b : Bool, b = aSt C R → K 55 [some (.ref (ad 126)), some (.int (nI i)), some (.int (nI n)), some (.int (nI (k.length + (m + p.length) + 1))), none, none, none] [.int (bI b)] z := by
    intro b hb9
    subst hb9
    refine hB.istore d_Md_proceed_55 (Nat.le_of_ble_eq_true rfl) ?_
    exact h57
  refine hB.aload_n d_Md_proceed_0 rfl ?_
  refine hB.getC (Or.inl fa_Md_24) d_Md_proceed_1 (by decide) sK_126 rfl ?_
  refine hB.aload_n d_Md_proceed_4 rfl ?_
  refine hB.getC (Or.inl fa_Md_37) d_Md_proceed_5 (by decide) sK_126 rfl ?_
  refine hB.aload_n d_Md_proceed_8 rfl ?_
  refine hB.getC (Or.inl fa_Md_52) d_Md_proceed_9 (by decide) sK_126 rfl ?_
  refine hB.iload_n d_Md_proceed_12 rfl ?_
  refine hB.iald d_Md_proceed_13 (by decide) rfl rfl (by omega) (by decide) ?_
  refine hB.iald d_Md_proceed_14 (by decide) rfl hmd.1 (by omega) (by decide) ?_
  refine hB.zald d_Md_proceed_15 (by decide) rfl hx (by omega) (by decide) ?_
  rw [e130]
  refine hB.if_eq d_Md_proceed_16 (tgt := 54) rfl (fun q16 => ?_) (fun q16 => ?_)
  · refine hB.iconst d_Md_proceed_54 (v := 0) rfl ?_
    first
      | (refine h55 false ?_; unfold aSt; simp [q16]; done)
      | (refine h55 false ?_; unfold aSt; have h9 := bI_0 q36; simp [h9]; done)
      | (refine h55 false ?_; unfold aSt; have h9 : ¬ R.2.1 < 12 := fun q => absurd q47 (nI_ge (b := 12) q (by decide)); simp [h9]; done)
      | (refine h55 true ?_; unfold aSt; have h9 := bI_1 q36; have h8 : R.2.1 < 12 := Nat.lt_of_not_le (fun q => q47 (nI_le (a := 12) q (by omega))); simp [q16, h9, h8])
  · refine hB.aload_n d_Md_proceed_19 rfl ?_
    refine hB.aload_n d_Md_proceed_20 rfl ?_
    refine hB.getC (Or.inl fa_Md_37) d_Md_proceed_21 (by decide) sK_126 rfl ?_
    refine hB.aload_n d_Md_proceed_24 rfl ?_
    refine hB.getC (Or.inl fa_Md_52) d_Md_proceed_25 (by decide) sK_126 rfl ?_
    refine hB.iload_n d_Md_proceed_28 rfl ?_
    refine hB.iald d_Md_proceed_29 (by decide) rfl rfl (by omega) (by decide) ?_
    refine hB.iald d_Md_proceed_30 (by decide) rfl hmd.1 (by omega) (by decide) ?_
    refine hB.iload_n d_Md_proceed_31 rfl ?_
    refine hB.iload_n d_Md_proceed_32 rfl ?_
    rw [hx]
    refine hB.callV lk_Md_148 cd_Md_fits (k_mFit1 l g ad z C n (aX C R) (xEl C (aX C R)) hc.1 (by omega) (hel _ (by omega)).1 (hel _ (by omega)).2 i R (by omega) hmd h1 (by omega) hV0 hV) rfl (by decide) sK_126 d_Md_proceed_33 rfl rfl (by decide) (by simp [Value.category]) ?_
    rintro _ w9 ⟨rfl, hw9⟩
    have hw8 := hw9.symm
    clear hw9
    subst hw8
    refine hB.if_eq d_Md_proceed_36 (tgt := 54) rfl (fun q36 => ?_) (fun q36 => ?_)
    · refine hB.iconst d_Md_proceed_54 (v := 0) rfl ?_
      first
        | (refine h55 false ?_; unfold aSt; simp [q16]; done)
        | (refine h55 false ?_; unfold aSt; have h9 := bI_0 q36; simp [h9]; done)
        | (refine h55 false ?_; unfold aSt; have h9 : ¬ R.2.1 < 12 := fun q => absurd q47 (nI_ge (b := 12) q (by decide)); simp [h9]; done)
        | (refine h55 true ?_; unfold aSt; have h9 := bI_1 q36; have h8 : R.2.1 < 12 := Nat.lt_of_not_le (fun q => q47 (nI_le (a := 12) q (by omega))); simp [q16, h9, h8])
    · refine hB.aload_n d_Md_proceed_39 rfl ?_
      refine hB.getC (Or.inl fa_Md_55) d_Md_proceed_40 (by decide) sK_126 rfl ?_
      refine hB.iload_n d_Md_proceed_43 rfl ?_
      refine hB.iald d_Md_proceed_44 (by decide) rfl rfl (by omega) (by decide) ?_
      refine hB.bipush d_Md_proceed_45 (v := 12) rfl ?_
      rw [hmd.2.1]
      refine hB.icmp_ge d_Md_proceed_47 (tgt := 54) rfl (fun q47 => ?_) (fun q47 => ?_)
      · refine hB.iconst d_Md_proceed_54 (v := 0) rfl ?_
        first
          | (refine h55 false ?_; unfold aSt; simp [q16]; done)
          | (refine h55 false ?_; unfold aSt; have h9 := bI_0 q36; simp [h9]; done)
          | (refine h55 false ?_; unfold aSt; have h9 : ¬ R.2.1 < 12 := fun q => absurd q47 (nI_ge (b := 12) q (by decide)); simp [h9]; done)
          | (refine h55 true ?_; unfold aSt; have h9 := bI_1 q36; have h8 : R.2.1 < 12 := Nat.lt_of_not_le (fun q => q47 (nI_le (a := 12) q (by omega))); simp [q16, h9, h8])
      · refine hB.iconst d_Md_proceed_50 (v := 1) rfl ?_
        refine hB.goto d_Md_proceed_51 (tgt := 55) rfl ?_
        first
          | (refine h55 false ?_; unfold aSt; simp [q16]; done)
          | (refine h55 false ?_; unfold aSt; have h9 := bI_0 q36; simp [h9]; done)
          | (refine h55 false ?_; unfold aSt; have h9 : ¬ R.2.1 < 12 := fun q => absurd q47 (nI_ge (b := 12) q (by decide)); simp [h9]; done)
          | (refine h55 true ?_; unfold aSt; have h9 := bI_1 q36; have h8 : R.2.1 < 12 := Nat.lt_of_not_le (fun q => q47 (nI_le (a := 12) q (by omega))); simp [q16, h9, h8])
