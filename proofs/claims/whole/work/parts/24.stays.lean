def gGo (z : sT) (r y : Nat) : Bool := rFit z (z.2.1 0 4) (pb (z.2.1 0 4) + y) r
def gSt (z : sT) (r x : Nat) : Bool := decide (¬ z.1 (pb (z.2.1 0 4) + x) 2 = 0) && (decide (z.1 r 1 < 12) && rFit z (z.2.1 0 4) (pb (z.2.1 0 4) + x) r)
def gCm (z : sT) (r y s ns : Nat) : Bool := gGo z r y && decide (s + 1 + 1 = ns)
def gBr (z : sT) (r x y : Nat) : Bool := rBar z (z.2.1 0 4) r (y - (x + 1)) (x + 1)
def gW1 (z : sT) (r c s ns x y c3 c5 : Nat) : sT := if (gCm z r y s ns || (gGo z r y && gSt z r x)) = true then sGo z r c (s + 1) (sRow z (decide (s + 1 + 1 = ns)) c3 c5) else z
def gW2 (z : sT) (r c s ns x y c3 c5 : Nat) : sT := if gSt z r x = true then sTk (gW1 z r c s ns x y c3 c5) r c (nI s) else if (gGo z r y && !gCm z r y s ns) = true then sTk (gW1 z r c s ns x y c3 c5) r c (nI (s + 1)) else gW1 z r c s ns x y c3 c5
def gRes (z : sT) (r c s ns x y c3 c5 : Nat) : Bool × sT :=
  if z.1 (z.2.1 0 4) 5 < z.1 7 4 - z.1 r 5 then (false, sI z 0 10 (z.1 0 10 + 1))
  else if gBr z r x y = true then (false, sI z 0 11 (z.1 0 11 + 1))
  else (gSt z r x || !gCm z r y s ns, gW2 z r c s ns x y c3 c5)
theorem sGo_row {z : sT} {r c s a : Nat} {o : Option Nat × sT} (h : ∀ b, o.1 = some b → a ≠ b ∧ a ≠ b + 48) : (sGo z r c s o).1 a = o.2.1 a := by
  unfold sGo
  split
  · rename_i b hb
    have := h b hb
    rw [sTk_row this.1 this.2, sCf_row this.1 this.2]
  · rfl
theorem sGo_2 {z : sT} {r c s : Nat} {o : Option Nat × sT} : (sGo z r c s o).2 = o.2.2 := by
  unfold sGo
  split <;> rfl
theorem gW1_run {z : sT} {r c s ns x y c3 c5 : Nat} (hr : 30 ≤ r ∧ r < 78) (hne : ∀ a, (sRow z (decide (s + 1 + 1 = ns)) c3 c5).1 = some a → a ≠ r) (h48 : ∀ a, (sRow z (decide (s + 1 + 1 = ns)) c3 c5).1 = some a → 30 ≤ a ∧ a < 78) : (gW1 z r c s ns x y c3 c5).1 r = z.1 r := by
  unfold gW1
  split
  · rw [sGo_row (fun b hb => ⟨Ne.symm (hne b hb), by have := h48 b hb; omega⟩), sRow_run hr.1]
  · rfl
set_option maxRecDepth 100000 in
set_option maxHeartbeats 4000000 in
theorem k_Pw_staysInList (l : Launch) (g : mG) (ad : Nat → Nat) (z : sT) (r c s ns x y c3 c5 : Nat) (hp : z.2.1 0 4 = 8 ∨ z.2.1 0 4 = 11) (hns : z.1 (z.2.1 0 4) 3 = nI ns) (hn8 : ns ≤ 8) (hr : 30 ≤ r ∧ r < 78) (hst : z.1 r 2 = nI s) (hc : z.1 r 1 = nI c) (hc9 : c < 19) (hsn : s + 1 < ns) (hx : z.1 ((z.2.1 0 4) + 2) s = nI x) (hy : z.1 ((z.2.1 0 4) + 2) (s + 1) = nI y) (hxy : x < y) (hy8 : y < 8) (hc3 : z.1 3 1 = nI c3) (hc34 : c3 ≤ 24) (hc5 : z.1 5 1 = nI c5) (hc54 : s + 1 + 1 = ns → c5 < 24) (hrow : ∀ j, j < 24 → 30 ≤ z.2.1 4 j ∧ z.2.1 4 j < 78) (hmrow : ∀ j, j < 24 → 30 ≤ z.2.1 6 j ∧ z.2.1 6 j < 78) (hne : ∀ a, (sRow z (decide (s + 1 + 1 = ns)) c3 c5).1 = some a → a ≠ r) : sC l y_Pw_staysInList c_Pw_staysInList 6 (some .boolean) 4 g ad [.ref (ad 0), .ref (ad r)] z (fun r9 w => r9 = some (.int (bI (gRes z r c s ns x y c3 c5).1)) ∧ w = (gRes z r c s ns x y c3 c5).2) := by
  refine sC.intro (own := R_Pw) rfl (by decide) (by decide) (by simp [Value.category]) (Nat.le_of_ble_eq_true rfl) (fun K hB hE => ?_)
  show K 0 [some (.ref (ad 0)), some (.ref (ad r)), none, none, none, none] [] z
  have hpb := pb_in hp
  have hrun := gW1_run (c := c) (x := x) (y := y) hr hne (fun a h => sRow_in hrow hmrow hc54 h)
  have h54 : ¬ z.1 (z.2.1 0 4) 5 < z.1 7 4 - z.1 r 5 → gBr z r x y = false → K 54 [some (.ref (ad 0)), some (.ref (ad r)), none, none, none, none] [] z := by
    intro hl0 hb0
    have hres : gRes z r c s ns x y c3 c5 = (gSt z r x || !gCm z r y s ns, gW2 z r c s ns x y c3 c5) := by unfold gRes; rw [if_neg hl0, hb0]; rfl
    have h162 : ∀ w : sT, w = (gRes z r c s ns x y c3 c5).2 → K 162 [some (.ref (ad 0)), some (.ref (ad r)), some (.int (nI (s + 1))), some (.int (bI (gGo z r y))), some (.int (bI (gSt z r x))), some (.int (bI (gCm z r y s ns)))] [] w := by
      intro w hw
      rw [hw]
      refine hB.iload d_Pw_staysInList_162 rfl ?_
      refine hB.if_ne d_Pw_staysInList_164 (tgt := 172) rfl (fun q164 => ?_) (fun q164 => ?_)
      · refine hB.iconst d_Pw_staysInList_172 (v := 1) rfl ?_
        refine hB.goto d_Pw_staysInList_173 (tgt := 177) rfl ?_
        exact hE.1 _ _ _ _ _ d_Pw_staysInList_177 rfl rfl ⟨by
          rw [hres]
          first
            | (have h9 := bI_1 q164; simp [h9, bI]; done)
            | (have h9 := bI_0 q164; have h8 := bI_1 q169; simp [h9, h8, bI]; done)
            | (have h9 := bI_0 q164; have h8 := bI_0 q169; simp [h9, h8, bI]), by rw [hres]⟩
      · refine hB.iload d_Pw_staysInList_167 rfl ?_
        refine hB.if_ne d_Pw_staysInList_169 (tgt := 176) rfl (fun q169 => ?_) (fun q169 => ?_)
        · refine hB.iconst d_Pw_staysInList_176 (v := 0) rfl ?_
          exact hE.1 _ _ _ _ _ d_Pw_staysInList_177 rfl rfl ⟨by
          rw [hres]
          first
            | (have h9 := bI_1 q164; simp [h9, bI]; done)
            | (have h9 := bI_0 q164; have h8 := bI_1 q169; simp [h9, h8, bI]; done)
            | (have h9 := bI_0 q164; have h8 := bI_0 q169; simp [h9, h8, bI]), by rw [hres]⟩
        · refine hB.iconst d_Pw_staysInList_172 (v := 1) rfl ?_
          refine hB.goto d_Pw_staysInList_173 (tgt := 177) rfl ?_
          exact hE.1 _ _ _ _ _ d_Pw_staysInList_177 rfl rfl ⟨by
          rw [hres]
          first
            | (have h9 := bI_1 q164; simp [h9, bI]; done)
            | (have h9 := bI_0 q164; have h8 := bI_1 q169; simp [h9, h8, bI]; done)
            | (have h9 := bI_0 q164; have h8 := bI_0 q169; simp [h9, h8, bI]), by rw [hres]⟩
    have h124 : ∀ w : sT, w = gW1 z r c s ns x y c3 c5 → K 124 [some (.ref (ad 0)), some (.ref (ad r)), some (.int (nI (s + 1))), some (.int (bI (gGo z r y))), some (.int (bI (gSt z r x))), some (.int (bI (gCm z r y s ns)))] [] w := by
      intro w hw
      rw [hw]
      refine hB.iload d_Pw_staysInList_124 rfl ?_
      refine hB.if_eq d_Pw_staysInList_126 (tgt := 144) rfl (fun q126 => ?_) (fun q126 => ?_)
      · have hs0 := bI_0 q126
        refine hB.iload_n d_Pw_staysInList_144 rfl ?_
        refine hB.if_eq d_Pw_staysInList_145 (tgt := 162) rfl (fun q145 => ?_) (fun q145 => ?_)
        · have hg0 := bI_0 q145
          refine h162 _ ?_
          rw [hres]
          first
            | (simp only [gW2, hs0, hg1, hm0]; simp; done)
            | (simp only [gW2, hs0, hg0]; simp; done)
            | (simp only [gW2, hs0, hm1]; simp)
        · have hg1 := bI_1 q145
          refine hB.iload d_Pw_staysInList_148 rfl ?_
          refine hB.if_ne d_Pw_staysInList_150 (tgt := 162) rfl (fun q150 => ?_) (fun q150 => ?_)
          · have hm1 := bI_1 q150
            refine h162 _ ?_
            rw [hres]
            first
              | (simp only [gW2, hs0, hg1, hm0]; simp; done)
              | (simp only [gW2, hs0, hg0]; simp; done)
              | (simp only [gW2, hs0, hm1]; simp)
          · have hm0 := bI_0 q150
            refine hB.aload_n d_Pw_staysInList_153 rfl ?_
            refine hB.aload_n d_Pw_staysInList_154 rfl ?_
            refine hB.getC (Or.inl fa_Pw_29) d_Pw_staysInList_155 (by decide) sK_0 rfl ?_
            refine hB.iload_n d_Pw_staysInList_158 rfl ?_
            refine hB.callVN lk_Pw_203 cd_Ru_take (k_Ru_take l g ad _ r c (nI (s + 1)) hr (by rw [hrun]; exact hc) hc9) rfl (by omega) (sK_run (by omega) (by omega)) d_Pw_staysInList_159 rfl rfl (by decide) (by simp [Value.category]) ?_
            rintro _ w9 ⟨rfl, hw9⟩
            have hw8 := hw9.symm
            clear hw9
            subst hw8
            refine h162 _ ?_
            rw [hres]
            first
              | (simp only [gW2, hs0, hg1, hm0]; simp; done)
              | (simp only [gW2, hs0, hg0]; simp; done)
              | (simp only [gW2, hs0, hm1]; simp)
      · have hs1 := bI_1 q126
        refine hB.aload_n d_Pw_staysInList_129 rfl ?_
        refine hB.aload_n d_Pw_staysInList_130 rfl ?_
        refine hB.getC (Or.inl fa_Pw_29) d_Pw_staysInList_131 (by decide) sK_0 rfl ?_
        refine hB.aload_n d_Pw_staysInList_134 rfl ?_
        refine hB.getI (Or.inr fa_Pw_146) d_Pw_staysInList_135 (by omega) (sK_run (by omega) (by omega)) rfl ?_
        rw [hrun, hst]
        refine hB.callVN lk_Pw_203 cd_Ru_take (k_Ru_take l g ad _ r c (nI s) hr (by rw [hrun]; exact hc) hc9) rfl (by omega) (sK_run (by omega) (by omega)) d_Pw_staysInList_138 rfl rfl (by decide) (by simp [Value.category]) ?_
        rintro _ w9 ⟨rfl, hw9⟩
        have hw8 := hw9.symm
        clear hw9
        subst hw8
        refine hB.goto d_Pw_staysInList_141 (tgt := 162) rfl ?_
        refine h162 _ ?_
        rw [hres]
        simp only [gW2, hs1, if_true]
    have h104 : K 104 [some (.ref (ad 0)), some (.ref (ad r)), some (.int (nI (s + 1))), some (.int (bI (gGo z r y))), some (.int (bI (gSt z r x))), some (.int (bI (gCm z r y s ns)))] [] z := by
      refine hB.iload d_Pw_staysInList_104 rfl ?_
      refine hB.if_ne d_Pw_staysInList_106 (tgt := 118) rfl (fun q106 => ?_) (fun q106 => ?_)
      · have hm1 := bI_1 q106
        refine hB.aload_n d_Pw_staysInList_118 rfl ?_
        refine hB.aload_n d_Pw_staysInList_119 rfl ?_
        refine hB.iload_n d_Pw_staysInList_120 rfl ?_
        refine hB.callV lk_Pw_199 cd_Pw_goOnApart (k_Pw_goOnApart l g ad z r c (s + 1) ns c3 c5 hp hns hn8 (by omega) hc3 hc34 hc5 hc54 hr hc hc9 hrow hmrow hne) rfl (by decide) sK_0 d_Pw_staysInList_121 rfl rfl (by decide) (by simp [Value.category]) ?_
        rintro _ w9 ⟨rfl, hw9⟩
        have hw8 := hw9.symm
        clear hw9
        subst hw8
        refine h124 _ ?_
        first
          | (simp only [gW1, hm1]; simp; done)
          | (simp only [gW1, hm0, hg1, hs1]; simp; done)
          | (simp only [gW1, hm0, hg0]; simp; done)
          | (simp only [gW1, hm0, hs0]; simp)
      · have hm0 := bI_0 q106
        refine hB.iload_n d_Pw_staysInList_109 rfl ?_
        refine hB.if_eq d_Pw_staysInList_110 (tgt := 124) rfl (fun q110 => ?_) (fun q110 => ?_)
        · have hg0 := bI_0 q110
          refine h124 _ ?_
          first
            | (simp only [gW1, hm1]; simp; done)
            | (simp only [gW1, hm0, hg1, hs1]; simp; done)
            | (simp only [gW1, hm0, hg0]; simp; done)
            | (simp only [gW1, hm0, hs0]; simp)
        · have hg1 := bI_1 q110
          refine hB.iload d_Pw_staysInList_113 rfl ?_
          refine hB.if_eq d_Pw_staysInList_115 (tgt := 124) rfl (fun q115 => ?_) (fun q115 => ?_)
          · have hs0 := bI_0 q115
            refine h124 _ ?_
            first
              | (simp only [gW1, hm1]; simp; done)
              | (simp only [gW1, hm0, hg1, hs1]; simp; done)
              | (simp only [gW1, hm0, hg0]; simp; done)
              | (simp only [gW1, hm0, hs0]; simp)
          · have hs1 := bI_1 q115
            refine hB.aload_n d_Pw_staysInList_118 rfl ?_
            refine hB.aload_n d_Pw_staysInList_119 rfl ?_
            refine hB.iload_n d_Pw_staysInList_120 rfl ?_
            refine hB.callV lk_Pw_199 cd_Pw_goOnApart (k_Pw_goOnApart l g ad z r c (s + 1) ns c3 c5 hp hns hn8 (by omega) hc3 hc34 hc5 hc54 hr hc hc9 hrow hmrow hne) rfl (by decide) sK_0 d_Pw_staysInList_121 rfl rfl (by decide) (by simp [Value.category]) ?_
            rintro _ w9 ⟨rfl, hw9⟩
            have hw8 := hw9.symm
            clear hw9
            subst hw8
            refine h124 _ ?_
            first
              | (simp only [gW1, hm1]; simp; done)
              | (simp only [gW1, hm0, hg1, hs1]; simp; done)
              | (simp only [gW1, hm0, hg0]; simp; done)
              | (simp only [gW1, hm0, hs0]; simp)
    refine hB.aload_n d_Pw_staysInList_54 rfl ?_
    refine hB.getI (Or.inr fa_Pw_146) d_Pw_staysInList_55 (by omega) (sK_run (by omega) (by omega)) rfl ?_
    refine hB.iconst d_Pw_staysInList_58 (v := 1) rfl ?_
    refine hB.iadd d_Pw_staysInList_59 ?_
    rw [hst, ← nI_succ]
    refine hB.istore_n d_Pw_staysInList_60 (Nat.le_of_ble_eq_true rfl) ?_
    refine hB.aload_n d_Pw_staysInList_61 rfl ?_
    refine hB.aload_n d_Pw_staysInList_62 rfl ?_
    refine hB.getR (Or.inl fa_Pw_36) d_Pw_staysInList_63 (by decide) sK_0 rfl ?_
    refine hB.iload_n d_Pw_staysInList_66 rfl ?_
    refine hB.callVN lk_Pw_185 cd_Pt_stepElement (k_Pt_stepElement l g ad z (z.2.1 0 4) (s + 1) ns y hp hns hn8 hsn hy hy8) rfl (by omega) (sK_pt hp) d_Pw_staysInList_67 rfl rfl (by decide) (by simp [Value.category]) ?_
    rintro _ w9 ⟨rfl, hw9⟩
    have hw8 := hw9.symm
    clear hw9
    subst hw8
    refine hB.aload_n d_Pw_staysInList_70 rfl ?_
    refine hB.callV lk_Pw_189 cd_Pw_fits (k_Pw_fits l g ad z (pb (z.2.1 0 4) + y) r hp (by omega) hr) rfl (by decide) sK_0 d_Pw_staysInList_71 rfl rfl (by decide) (by simp [Value.category]) ?_
    rintro _ w9 ⟨rfl, hw9⟩
    have hw8 := hw9.symm
    clear hw9
    subst hw8
    show K 74 _ (.int (bI (gGo z r y)) :: _) z
    refine hB.istore_n d_Pw_staysInList_74 (Nat.le_of_ble_eq_true rfl) ?_
    refine hB.aload_n d_Pw_staysInList_75 rfl ?_
    refine hB.aload_n d_Pw_staysInList_76 rfl ?_
    refine hB.callV lk_Pw_193 cd_Pw_mayStay (k_Pw_mayStay l g ad z r x s ns hst hns hn8 hp hr (by omega) hx (by omega)) rfl (by decide) sK_0 d_Pw_staysInList_77 rfl rfl (by decide) (by simp [Value.category]) ?_
    rintro _ w9 ⟨rfl, hw9⟩
    have hw8 := hw9.symm
    clear hw9
    subst hw8
    show K 80 _ (.int (bI (gSt z r x)) :: _) z
    refine hB.istore d_Pw_staysInList_80 (Nat.le_of_ble_eq_true rfl) ?_
    refine hB.iload_n d_Pw_staysInList_82 rfl ?_
    refine hB.if_eq d_Pw_staysInList_83 (tgt := 101) rfl (fun q83 => ?_) (fun q83 => ?_)
    · have hg0 := bI_0 q83
      refine hB.iconst d_Pw_staysInList_101 (v := 0) rfl ?_
      have hcm : ((0 : Int32)) = bI (gCm z r y s ns) := by
        first
          | (unfold gCm; rw [hg0]; rfl; done)
          | (unfold gCm; rw [hg1, hl0]; rfl; done)
          | (unfold gCm; rw [hg1, hl1]; rfl)
      rw [hcm]
      refine hB.istore d_Pw_staysInList_102 (Nat.le_of_ble_eq_true rfl) ?_
      exact h104
    · have hg1 := bI_1 q83
      refine hB.aload_n d_Pw_staysInList_86 rfl ?_
      refine hB.getR (Or.inl fa_Pw_36) d_Pw_staysInList_87 (by decide) sK_0 rfl ?_
      refine hB.iload_n d_Pw_staysInList_90 rfl ?_
      refine hB.callVN lk_Pw_196 cd_Pt_isLastStep (k_Pt_isLastStep l g ad z (z.2.1 0 4) (nI (s + 1)) hp) rfl (by omega) (sK_pt hp) d_Pw_staysInList_91 rfl rfl (by decide) (by simp [Value.category]) ?_
      rintro _ w9 ⟨rfl, hw9⟩
      have hw8 := hw9.symm
      clear hw9
      subst hw8
      rw [last_eq hns hsn hn8]
      refine hB.if_eq d_Pw_staysInList_94 (tgt := 101) rfl (fun q94 => ?_) (fun q94 => ?_)
      · have hl0 := bI_0 q94
        refine hB.iconst d_Pw_staysInList_101 (v := 0) rfl ?_
        have hcm : ((0 : Int32)) = bI (gCm z r y s ns) := by
          first
            | (unfold gCm; rw [hg0]; rfl; done)
            | (unfold gCm; rw [hg1, hl0]; rfl; done)
            | (unfold gCm; rw [hg1, hl1]; rfl)
        rw [hcm]
        refine hB.istore d_Pw_staysInList_102 (Nat.le_of_ble_eq_true rfl) ?_
        exact h104
      · have hl1 := bI_1 q94
        refine hB.iconst d_Pw_staysInList_97 (v := 1) rfl ?_
        refine hB.goto d_Pw_staysInList_98 (tgt := 102) rfl ?_
        have hcm : ((1 : Int32)) = bI (gCm z r y s ns) := by
          first
            | (unfold gCm; rw [hg0]; rfl; done)
            | (unfold gCm; rw [hg1, hl0]; rfl; done)
            | (unfold gCm; rw [hg1, hl1]; rfl)
        rw [hcm]
        refine hB.istore d_Pw_staysInList_102 (Nat.le_of_ble_eq_true rfl) ?_
        exact h104
  refine hB.aload_n d_Pw_staysInList_0 rfl ?_
  refine hB.getC (Or.inl fa_Pw_29) d_Pw_staysInList_1 (by decide) sK_0 rfl ?_
  refine hB.getI (Or.inr fa_Pw_104) d_Pw_staysInList_4 (by decide) sK_7 rfl ?_
  refine hB.aload_n d_Pw_staysInList_7 rfl ?_
  refine hB.getI (Or.inr fa_Pw_179) d_Pw_staysInList_8 (by omega) (sK_run (by omega) (by omega)) rfl ?_
  refine hB.isub d_Pw_staysInList_11 ?_
  refine hB.aload_n d_Pw_staysInList_12 rfl ?_
  refine hB.getR (Or.inl fa_Pw_36) d_Pw_staysInList_13 (by decide) sK_0 rfl ?_
  refine hB.getI (Or.inr fa_Pw_166) d_Pw_staysInList_16 (by omega) (sK_pt hp) rfl ?_
  refine hB.icmp_le d_Pw_staysInList_19 (tgt := 34) rfl (fun q19 => ?_) (fun q19 => ?_)
  · have hl0 : ¬ z.1 (z.2.1 0 4) 5 < z.1 7 4 - z.1 r 5 := Int32.not_lt.mpr q19
    refine hB.aload_n d_Pw_staysInList_34 rfl ?_
    refine hB.aload_n d_Pw_staysInList_35 rfl ?_
    refine hB.callV lk_Pw_182 cd_Pw_isBarred (k_Pw_isBarred l g ad z r x y s ns hst hns hn8 hp hr hsn hx hy hxy hy8) rfl (by decide) sK_0 d_Pw_staysInList_36 rfl rfl (by decide) (by simp [Value.category]) ?_
    rintro _ w9 ⟨rfl, hw9⟩
    rw [hw9]
    show K 39 _ (.int (bI (gBr z r x y)) :: _) z
    refine hB.if_eq d_Pw_staysInList_39 (tgt := 54) rfl (fun q39 => ?_) (fun q39 => ?_)
    · exact h54 hl0 (bI_0 q39)
    · have hb1 := bI_1 q39
      refine hB.aload_n d_Pw_staysInList_42 rfl ?_
      refine hB.dup d_Pw_staysInList_43 rfl ?_
      refine hB.getI (Or.inl fa_Pw_163) d_Pw_staysInList_44 (by decide) sK_0 rfl ?_
      refine hB.iconst d_Pw_staysInList_47 (v := 1) rfl ?_
      refine hB.iadd d_Pw_staysInList_48 ?_
      refine hB.putI (Or.inl fa_Pw_163) d_Pw_staysInList_49 (by decide) sK_0 rfl rfl rfl ?_
      refine hB.iconst d_Pw_staysInList_52 (v := 0) rfl ?_
      exact hE.1 _ _ _ _ _ d_Pw_staysInList_53 rfl rfl ⟨by unfold gRes; rw [if_neg hl0, if_pos hb1]; rfl, by unfold gRes; rw [if_neg hl0, if_pos hb1]⟩
  · have hl1 : z.1 (z.2.1 0 4) 5 < z.1 7 4 - z.1 r 5 := Int32.not_le.mp q19
    refine hB.aload_n d_Pw_staysInList_22 rfl ?_
    refine hB.dup d_Pw_staysInList_23 rfl ?_
    refine hB.getI (Or.inl fa_Pw_160) d_Pw_staysInList_24 (by decide) sK_0 rfl ?_
    refine hB.iconst d_Pw_staysInList_27 (v := 1) rfl ?_
    refine hB.iadd d_Pw_staysInList_28 ?_
    refine hB.putI (Or.inl fa_Pw_160) d_Pw_staysInList_29 (by decide) sK_0 rfl rfl rfl ?_
    refine hB.iconst d_Pw_staysInList_32 (v := 0) rfl ?_
    exact hE.1 _ _ _ _ _ d_Pw_staysInList_33 rfl rfl ⟨by unfold gRes; rw [if_pos hl1]; rfl, by unfold gRes; rw [if_pos hl1]⟩
