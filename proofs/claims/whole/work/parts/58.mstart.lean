theorem cEl_r0 {tx : Nat → Int32} {n p : Nat} : (cEl tx n 0 p).2.2.2.2.2.2.1 = 0 := by
  have h2 : ∀ p, (cC2 tx n 0 p).2.2.1 = 0 := fun p => by
    unfold cC2
    rw [if_neg (fun q => absurd q.1 (Nat.lt_irrefl 0))]
    split <;> rfl
  have h3 : ∀ p a b c, (cE3 tx n 0 p a b c).2.2.2.2.2.2.1 = 0 := fun p a b c => by
    unfold cE3
    split
    · exact h2 (p + 1)
    · rfl
  have h4 : ∀ p a b, (cE2 tx n 0 p a b).2.2.2.2.2.2.1 = 0 := fun p a b => by
    unfold cE2
    split
    · split
      · rfl
      · exact h3 _ _ _ _
    · exact h3 _ _ _ _
  have h5 : ∀ p a, (cE1 tx n 0 p a).2.2.2.2.2.2.1 = 0 := fun p a => by
    unfold cE1
    split
    · exact h4 _ _ _
    · rfl
  unfold cEl
  split
  · split
    · rfl
    · exact h5 _ _
  · exact h5 _ _
theorem cFi_r0 {tx : Nat → Int32} {n k p : Nat} {els : Nat → pE} (h : (els 0).2.2.2.2.1 = 0) : ((cFi tx n k p els).2.2.2.1 0).2.2.2.2.1 = 0 := by
  unfold cFi
  split
  · split
    · exact h
    · rfl
  · rfl
theorem cLo_r0 {tx : Nat → Int32} {n : Nat} : ∀ (m k p : Nat) (els : Nat → pE), (els 0).2.2.2.2.1 = 0 → ((cLo tx n m k p els).2.2.2.1 0).2.2.2.2.1 = 0
  | 0, k, p, els, h => cFi_r0 h
  | m + 1, k, p, els, h => by
    have e : cLo tx n (m + 1) k p els = if pA tx n p = 33 ∨ pKd (pA tx n p) = true then (if (cEl tx n k p).1 = true then cLo tx n m (k + 1) (cEl tx n k p).2.1 (uE els k (cEl tx n k p).2.2) else cF (cEl tx n k p).2.1) else cFi tx n k p els := rfl
    rw [e]
    split
    · split
      · refine cLo_r0 m _ _ _ ?_
        unfold uE
        by_cases hk : 0 = k
        · rw [if_pos hk]
          subst hk
          exact cEl_r0
        · rw [if_neg hk]
          exact h
      · rfl
    · exact cFi_r0 h
theorem cRd_r0 {tx : Nat → Int32} {n : Nat} : ((cRd tx n).2.2.2.1 0).2.2.2.2.1 = 0 := cLo_r0 8 0 0 _ rfl
def sNw (z : sT) (a n : Nat) : sT := sTa (sI (sI z 140 a 0) 139 a 0) a 0 n (0 + 0)
theorem sNw_fr {z : sT} {a n : Nat} : frR z (sNw z a n) a := by
  refine frR.trans (w := sI (sI z 140 a 0) 139 a 0) ⟨rfl, fun c c1 c2 _ => by rw [sI_row c1, sI_row c2], fun c hc => ⟨by rw [sI_ne hc, sI_row (by decide)], by rw [sI_row (by decide), sI_ne hc], fun m _ => by rw [sI_row (by decide), sI_row (by decide)]⟩⟩ (sTa_fr (by decide))
theorem sNw_R {z : sT} {C : eC} {a n : Nat} (hc : evM z C n) (hnu : xNu C = nI n) : mdR (sNw z a n) a (aNew C) := by
  have hf := sNw_fr (z := z) (a := a) (n := n)
  obtain ⟨c1, c2, c3, c4, c5, c6, c7⟩ := hc
  have row : ∀ q, q ≠ 139 → q ≠ 140 → q ≠ 141 → (sNw z a n).1 q = z.1 q := hf.2.1
  refine ⟨by unfold sNw sTa; rw [sI_eq]; rfl, by unfold sNw sTa; rw [sI_row (by decide), sI_eq]; rfl, fun m hm => ?_, fun e he hq => ?_, fun e he hq => ?_⟩
  · have hm2 : m < 1 := hm
    have hm0 : m = 0 := by omega
    subst hm0
    unfold sNw sTa
    rw [sI_row (by decide), sI_row (by decide), sI_eq]
    exact hnu.symm
  · have hq2 : xNu C = nI e := hq
    rw [hnu] at hq2
    have hne : n = e := (nI_eq (by omega) (by omega)).mp hq2
    subst hne
    rw [row 136 (by decide) (by decide) (by decide), row 138 (by decide) (by decide) (by decide)]
    exact ⟨c3, c5⟩
  · have hq2 : xNu C = nI e := hq
    rw [hnu] at hq2
    have hne : n = e := (nI_eq (by omega) (by omega)).mp hq2
    subst hne
    rw [row 137 (by decide) (by decide) (by decide)]
    exact c4
theorem bg_no {C : eC} {r : Bool} (h : aBeg C = false) : bgL C r = [] ∧ bgM C = [] ∧ bgD C r = 0 := by
  simp [bgL, bgM, bgD, h]
theorem bg_m {C : eC} {r : Bool} (h : aBeg C = true) (h1 : (xSl C).length = 1) : bgL C r = [] ∧ bgM C = [aNew C] ∧ bgD C r = 0 := by
  simp [bgL, bgM, bgD, h, h1]
theorem bg_d {C : eC} (h : aBeg C = true) (h1 : ¬ (xSl C).length = 1) : bgL C false = [] ∧ bgM C = [] ∧ bgD C false = 1 := by
  simp [bgL, bgM, bgD, h, h1]
theorem bg_l {C : eC} (h : aBeg C = true) (h1 : ¬ (xSl C).length = 1) : bgL C true = [aNew C] ∧ bgM C = [] ∧ bgD C true = 0 := by
  simp [bgL, bgM, bgD, h, h1]
set_option maxRecDepth 100000 in
set_option maxHeartbeats 4000000 in
theorem k_mStart (l : Launch) (g : mG) (ad : Nat → Nat) (z : sT) (C : eC) (n : Nat) (z0 : sT) (rs : List rR) (mc : Int32) (k p ms : List rR) (d la ba : Int32) (hc : cnA z C n) (hA : arA z0 rs mc (k, p, ms, d, la, ba) z) (hb : bdA rs (k, p, ms, d, la, ba)) (hT : k.length + p.length ≤ 24) (hms : ms.length ≤ 24) (hpos : 0 < (xSl C).length) (hx0 : (xSl C).getD 0 0 = 0) (hr0 : (xEl C 0).2.2.2.2.1 = 0) : sC l y_Md_start c_Md_start 3 none 1 g ad [.ref (ad 126), .int (nI n), .int (nI (k.length + p.length))] z (fun r w => r = none ∧ arA z0 rs mc (k, p ++ bgL C (decide (k.length + p.length < 24)), ms ++ bgM C, d + bgD C (decide (k.length + p.length < 24)), la, ba) w) := by
  refine sC.intro (own := R_Md) rfl (by decide) (by decide) (by simp [Value.category]) (Nat.le_of_ble_eq_true rfl) (fun K hB hE => ?_)
  show K 0 [some (.ref (ad 126)), some (.int (nI n)), some (.int (nI (k.length + p.length)))] [] z
  have hK8 := hc.2.2.2.2.1
  have hxK : 0 < xK C := by
    have h9 : (xSl C)[0]? = some ((xSl C)[0]) := List.getElem?_eq_getElem hpos
    have h8 : (xSl C)[0] < xK C := stO_in h9
    omega
  have hel := hc.2.2.2.1 0 hxK
  have hnu : xNu C = nI n := hc.2.2.2.2.2.2.2
  have hbe : aBeg C = rAd (xEl C 0) (xKd C) (xVa C) 0 := by unfold aBeg; rw [hx0]
  have ep5 : z.1 126 26 = nI p.length := hA.2.2.2.1.1
  have ep : (50 : Int32) + z.1 126 26 = nI (50 + p.length) := by rw [ep5]; exact nI_add 50 _
  have h8l := len8 hK8
  refine hB.aload_n d_Md_start_0 rfl ?_
  refine hB.iconst d_Md_start_1 (v := 0) rfl ?_
  refine hB.iconst d_Md_start_2 (v := -1) rfl ?_
  refine hB.iload_n d_Md_start_3 rfl ?_
  refine hB.callV lk_Md_148 cd_Md_fits (k_mFit0 l g ad z C n 0 (xEl C 0) hc.1 (by decide) hel.1 hel.2 (by rw [if_pos hr0])) rfl (by decide) sK_126 d_Md_start_4 rfl rfl (by decide) (by simp [Value.category]) ?_
  rintro _ w9 ⟨rfl, hw9⟩
  have hw8 := hw9.symm
  clear hw9
  subst hw8
  refine hB.if_ne d_Md_start_7 (tgt := 11) rfl (fun q7 => ?_) (fun q7 => ?_)
  · have hg : aBeg C = true := by rw [hbe]; exact bI_1 q7
    refine hB.aload_n d_Md_start_11 rfl ?_
    refine hB.getI (Or.inl fa_Md_108) d_Md_start_12 (by decide) sK_126 rfl ?_
    refine hB.iconst d_Md_start_15 (v := 1) rfl ?_
    rw [hc.2.1]
    refine hB.icmp_ne d_Md_start_16 (tgt := 28) rfl (fun q16 => ?_) (fun q16 => ?_)
    · have hlenN : ¬ (xSl C).length = 1 := fun q => q16 (by rw [q]; rfl)
      refine hB.iload_n d_Md_start_28 rfl ?_
      refine hB.bipush d_Md_start_29 (v := 24) rfl ?_
      refine hB.icmp_ne d_Md_start_31 (tgt := 47) rfl (fun q31 => ?_) (fun q31 => ?_)
      · have hrL : decide (k.length + p.length < 24) = true := by
          have h9 := mt (nI_eq (a := k.length + p.length) (b := 24) (by omega) (by decide)).mpr q31
          exact decide_eq_true (by omega)
        refine hB.aload_n d_Md_start_47 rfl ?_
        refine hB.getC (Or.inl fa_Md_55) d_Md_start_48 (by decide) sK_126 rfl ?_
        refine hB.bipush d_Md_start_51 (v := 50) rfl ?_
        refine hB.aload_n d_Md_start_53 rfl ?_
        refine hB.getI (Or.inl fa_Md_166) d_Md_start_54 (by decide) sK_126 rfl ?_
        refine hB.iadd d_Md_start_57 ?_
        refine hB.iconst d_Md_start_58 (v := 0) rfl ?_
        refine hB.iast d_Md_start_59 (by decide) rfl ep (by omega) (by decide) ?_
        refine hB.aload_n d_Md_start_60 rfl ?_
        refine hB.getC (Or.inl fa_Md_52) d_Md_start_61 (by decide) sK_126 rfl ?_
        refine hB.bipush d_Md_start_64 (v := 50) rfl ?_
        refine hB.aload_n d_Md_start_66 rfl ?_
        refine hB.getI (Or.inl fa_Md_166) d_Md_start_67 (by decide) sK_126 rfl ?_
        refine hB.iadd d_Md_start_70 ?_
        refine hB.iconst d_Md_start_71 (v := 0) rfl ?_
        refine hB.iast d_Md_start_72 (by decide) rfl (by rw [sI_row (by decide)]; exact ep) (by omega) (by decide) ?_
        refine hB.aload_n d_Md_start_73 rfl ?_
        refine hB.bipush d_Md_start_74 (v := 50) rfl ?_
        refine hB.aload_n d_Md_start_76 rfl ?_
        refine hB.getI (Or.inl fa_Md_166) d_Md_start_77 (by decide) sK_126 rfl ?_
        refine hB.iadd d_Md_start_80 ?_
        refine hB.iload_n d_Md_start_81 rfl ?_
        refine hB.iconst d_Md_start_82 (v := 0) rfl ?_
        rw [show (50 : Int32) + (sI (sI z 140 (50 + p.length) 0) 139 (50 + p.length) 0).1 126 26 = nI (50 + p.length) by rw [sI_row (by decide), sI_row (by decide)]; exact ep]
        refine hB.callV lk_Md_159 cd_Md_take (k_mTake l g ad (sI (sI z 140 (50 + p.length) 0) 139 (50 + p.length) 0) (50 + p.length) 0 n 0 0 (by omega) (by decide) (by rw [sI_row (by decide), sI_eq]; rfl) (by rw [sI_eq]; rfl)) rfl (by decide) sK_126 d_Md_start_83 rfl rfl (by decide) (by simp [Value.category]) ?_
        rintro _ w5 ⟨rfl, hw5⟩
        have hf5 : frR z w5 (50 + p.length) := by rw [hw5]; exact sNw_fr
        have hQ5 : mdR w5 (50 + p.length) (aNew C) := by rw [hw5]; exact sNw_R hc.1 hnu
        clear hw5
        refine hB.aload_n d_Md_start_86 rfl ?_
        refine hB.dup d_Md_start_87 rfl ?_
        refine hB.getI (Or.inl fa_Md_166) d_Md_start_88 (by decide) sK_126 rfl ?_
        refine hB.iconst d_Md_start_91 (v := 1) rfl ?_
        refine hB.iadd d_Md_start_92 ?_
        rw [show w5.1 126 26 + (1 : Int32) = nI (p.length + 1) by rw [hf5.2.1 126 (by decide) (by decide) (by decide), ep5, ← nI_succ]]
        refine hB.putI (Or.inl fa_Md_166) d_Md_start_93 (by decide) sK_126 rfl rfl rfl ?_
        refine hE.2.2 _ _ _ d_Md_start_96 rfl ⟨rfl, ?_⟩
        first
          | (have e9 := bg_m (r := decide (k.length + p.length < 24)) hg hlen1; rw [e9.1, e9.2.1, e9.2.2]; simp only [List.append_nil, Int32.add_zero]; exact hA2)
          | (rw [hrD]; have e9 := bg_d hg hlenN; rw [e9.1, e9.2.1, e9.2.2]; simp only [List.append_nil, Int32.add_zero]; exact hA.num (fun q hq => sI_row hq) rfl (fun j hj => sI_ne (by omega)) (by rw [sI_eq, hA.2.2.2.2.2.2.1]) (by rw [sI_ne (by decide)]; exact hA.2.2.2.2.2.2.2.1) (by rw [sI_ne (by decide)]; exact hA.2.2.2.2.2.2.2.2))
          | (rw [hrL]; have e9 := bg_l hg hlenN; rw [e9.1, e9.2.1, e9.2.2]; simp only [List.append_nil, Int32.add_zero]; exact hA.behind hb (by omega) hf5 hQ5 rfl)
      · have hrD : decide (k.length + p.length < 24) = false := by
          have h9 := (nI_eq (a := k.length + p.length) (b := 24) (by omega) (by decide)).mp q31
          rw [h9]
          rfl
        refine hB.aload_n d_Md_start_34 rfl ?_
        refine hB.dup d_Md_start_35 rfl ?_
        refine hB.getI (Or.inl fa_Md_132) d_Md_start_36 (by decide) sK_126 rfl ?_
        refine hB.iconst d_Md_start_39 (v := 1) rfl ?_
        refine hB.iadd d_Md_start_40 ?_
        refine hB.putI (Or.inl fa_Md_132) d_Md_start_41 (by decide) sK_126 rfl rfl rfl ?_
        refine hB.goto d_Md_start_44 (tgt := 96) rfl ?_
        refine hE.2.2 _ _ _ d_Md_start_96 rfl ⟨rfl, ?_⟩
        first
          | (have e9 := bg_m (r := decide (k.length + p.length < 24)) hg hlen1; rw [e9.1, e9.2.1, e9.2.2]; simp only [List.append_nil, Int32.add_zero]; exact hA2)
          | (rw [hrD]; have e9 := bg_d hg hlenN; rw [e9.1, e9.2.1, e9.2.2]; simp only [List.append_nil, Int32.add_zero]; exact hA.num (fun q hq => sI_row hq) rfl (fun j hj => sI_ne (by omega)) (by rw [sI_eq, hA.2.2.2.2.2.2.1]) (by rw [sI_ne (by decide)]; exact hA.2.2.2.2.2.2.2.1) (by rw [sI_ne (by decide)]; exact hA.2.2.2.2.2.2.2.2))
          | (rw [hrL]; have e9 := bg_l hg hlenN; rw [e9.1, e9.2.1, e9.2.2]; simp only [List.append_nil, Int32.add_zero]; exact hA.behind hb (by omega) hf5 hQ5 rfl)
    · have hlen1 : (xSl C).length = 1 := (nI_eq (b := 1) (by omega) (by decide)).mp q16
      refine hB.aload_n d_Md_start_19 rfl ?_
      refine hB.iconst d_Md_start_20 (v := -1) rfl ?_
      refine hB.iload_n d_Md_start_21 rfl ?_
      refine hB.callV lk_Md_163 cd_Md_complete (k_mDone0 l g ad z ms.length n hA.2.2.2.2.1.1 (by omega)) rfl (by decide) sK_126 d_Md_start_22 rfl rfl (by decide) (by simp [Value.category]) ?_
      rintro _ w3 ⟨rfl, hw3⟩
      have hA2 : arA z0 rs mc (k, p, ms ++ [aNew C], d, la, ba) w3 := by
        rw [hw3]
        refine hA.match hb (sDn_fr (by decide)) ?_
        unfold aNew
        rw [hnu]
        exact sDn_M0
      refine hB.goto d_Md_start_25 (tgt := 96) rfl ?_
      refine hE.2.2 _ _ _ d_Md_start_96 rfl ⟨rfl, ?_⟩
      first
        | (have e9 := bg_m (r := decide (k.length + p.length < 24)) hg hlen1; rw [e9.1, e9.2.1, e9.2.2]; simp only [List.append_nil, Int32.add_zero]; exact hA2)
        | (rw [hrD]; have e9 := bg_d hg hlenN; rw [e9.1, e9.2.1, e9.2.2]; simp only [List.append_nil, Int32.add_zero]; exact hA.num (fun q hq => sI_row hq) rfl (fun j hj => sI_ne (by omega)) (by rw [sI_eq, hA.2.2.2.2.2.2.1]) (by rw [sI_ne (by decide)]; exact hA.2.2.2.2.2.2.2.1) (by rw [sI_ne (by decide)]; exact hA.2.2.2.2.2.2.2.2))
        | (rw [hrL]; have e9 := bg_l hg hlenN; rw [e9.1, e9.2.1, e9.2.2]; simp only [List.append_nil, Int32.add_zero]; exact hA.behind hb (by omega) hf5 hQ5 rfl)
  · have hg : aBeg C = false := by rw [hbe]; exact bI_0 q7
    exact hE.2.2 _ _ _ d_Md_start_10 rfl ⟨rfl, by rw [(bg_no (r := decide (k.length + p.length < 24)) hg).1, (bg_no (r := decide (k.length + p.length < 24)) hg).2.1, (bg_no (r := decide (k.length + p.length < 24)) hg).2.2]; simp only [List.append_nil, Int32.add_zero]; exact hA⟩
