def sBe (z : sT) (r : Nat) : sT := sTk (sI (sI (sI (sI z r 1 0) r 3 (z.1 7 0)) r 4 (z.1 7 2)) r 5 (z.1 7 4)) r 0 0
def gBg (z : sT) (x ns c3 c5 : Nat) : sT := if rAd (elOf z (pb (z.2.1 0 4) + x)) (z.1 7 1) (z.1 7 3) 0 = true then (match (sRow z (decide (0 + 1 = ns)) c3 c5).1 with
  | some a => sBe (sRow z (decide (0 + 1 = ns)) c3 c5).2 a
  | none => (sRow z (decide (0 + 1 = ns)) c3 c5).2) else z
theorem sBe_row {z : sT} {r a : Nat} (h1 : a ≠ r) (h2 : a ≠ r + 48) : (sBe z r).1 a = z.1 a := by
  unfold sBe
  rw [sTk_row h1 h2, sI_row h1, sI_row h1, sI_row h1, sI_row h1]
set_option maxRecDepth 100000 in
set_option maxHeartbeats 4000000 in
theorem k_Pw_beginRun (l : Launch) (g : mG) (ad : Nat → Nat) (z : sT) (x ns c3 c5 : Nat) (hp : z.2.1 0 4 = 8 ∨ z.2.1 0 4 = 11) (hns : z.1 (z.2.1 0 4) 3 = nI ns) (hn8 : ns ≤ 8) (hs : 0 < ns) (hx : z.1 ((z.2.1 0 4) + 2) 0 = nI x) (hx8 : x < 8) (hc3 : z.1 3 1 = nI c3) (hc34 : c3 ≤ 24) (hc5 : z.1 5 1 = nI c5) (hc54 : 0 + 1 = ns → c5 < 24) (hrow : ∀ j, j < 24 → 30 ≤ z.2.1 4 j ∧ z.2.1 4 j < 78) (hmrow : ∀ j, j < 24 → 30 ≤ z.2.1 6 j ∧ z.2.1 6 j < 78) : sC l y_Pw_beginRun c_Pw_beginRun 2 none 3 g ad [.ref (ad 0)] z (fun r9 w => r9 = none ∧ w = gBg z x ns c3 c5) := by
  refine sC.intro (own := R_Pw) rfl (by decide) (by decide) (by simp [Value.category]) (Nat.le_of_ble_eq_true rfl) (fun K hB hE => ?_)
  show K 0 [some (.ref (ad 0)), none] [] z
  have hpb := pb_in hp
  refine hB.aload_n d_Pw_beginRun_0 rfl ?_
  refine hB.getR (Or.inl fa_Pw_36) d_Pw_beginRun_1 (by decide) sK_0 rfl ?_
  refine hB.iconst d_Pw_beginRun_4 (v := 0) rfl ?_
  refine hB.callVN lk_Pw_185 cd_Pt_stepElement (k_Pt_stepElement l g ad z (z.2.1 0 4) 0 ns x hp hns hn8 hs hx hx8) rfl (by omega) (sK_pt hp) d_Pw_beginRun_5 rfl rfl (by decide) (by simp [Value.category]) ?_
  rintro _ w9 ⟨rfl, hw9⟩
  have hw8 := hw9.symm
  clear hw9
  subst hw8
  refine hB.aload_n d_Pw_beginRun_8 rfl ?_
  refine hB.getC (Or.inl fa_Pw_29) d_Pw_beginRun_9 (by decide) sK_0 rfl ?_
  refine hB.iconst d_Pw_beginRun_12 (v := 0) rfl ?_
  refine hB.callVN lk_Pw_224 cd_El_admits (k_El_admits l g ad z (pb (z.2.1 0 4) + x) (by omega) 0) rfl (by omega) (sK_el (by omega) (by omega)) d_Pw_beginRun_13 rfl rfl (by decide) (by simp [Value.category]) ?_
  rintro _ w9 ⟨rfl, hw9⟩
  have hw8 := hw9.symm
  clear hw9
  subst hw8
  refine hB.if_eq d_Pw_beginRun_16 (tgt := 37) rfl (fun q16 => ?_) (fun q16 => ?_)
  · have hA := bI_0 q16
    exact hE.2.2 _ _ _ d_Pw_beginRun_37 rfl ⟨rfl, by unfold gBg; rw [hA]; rfl⟩
  · have hA := bI_1 q16
    refine hB.aload_n d_Pw_beginRun_19 rfl ?_
    refine hB.iconst d_Pw_beginRun_20 (v := 0) rfl ?_
    refine hB.callV lk_Pw_234 cd_Pw_rowForStep (k_Pw_rowForStep l g ad z 0 ns c3 c5 hp hns hn8 hs hc3 hc34 hc5 hc54) rfl (by decide) sK_0 d_Pw_beginRun_21 rfl rfl (by decide) (by simp [Value.category]) ?_
    rintro _ w9 ⟨rfl, hw9⟩
    rw [hw9]
    cases ho : (sRow z (decide (0 + 1 = ns)) c3 c5).1 with
    | none =>
      refine hB.astore_nN d_Pw_beginRun_24 (Nat.le_of_ble_eq_true rfl) ?_
      refine hB.aload_nN d_Pw_beginRun_25 rfl ?_
      refine hB.ifnullN d_Pw_beginRun_26 (tgt := 37) rfl ?_
      exact hE.2.2 _ _ _ d_Pw_beginRun_37 rfl ⟨rfl, by unfold gBg; rw [if_pos hA, ho]⟩
    | some a =>
      have ha := sRow_in hrow hmrow hc54 ho
      refine hB.astore_n d_Pw_beginRun_24 (Nat.le_of_ble_eq_true rfl) ?_
      refine hB.aload_n d_Pw_beginRun_25 rfl ?_
      refine hB.ifnull d_Pw_beginRun_26 ?_
      refine hB.aload_n d_Pw_beginRun_29 rfl ?_
      refine hB.aload_n d_Pw_beginRun_30 rfl ?_
      refine hB.getC (Or.inl fa_Pw_29) d_Pw_beginRun_31 (by decide) sK_0 rfl ?_
      refine hB.callVN lk_Pw_242 cd_Ru_begin (k_Ru_begin l g ad (sRow z (decide (0 + 1 = ns)) c3 c5).2 a ha) rfl (by omega) (sK_run (by omega) (by omega)) d_Pw_beginRun_34 rfl rfl (by decide) (by simp [Value.category]) ?_
      rintro _ w9 ⟨rfl, hw9⟩
      have hw8 := hw9.symm
      clear hw9
      subst hw8
      exact hE.2.2 _ _ _ d_Pw_beginRun_37 rfl ⟨rfl, by unfold gBg; rw [if_pos hA, ho]; rfl⟩
def aBeg (C : eC) : Bool := rAd (xEl C ((xSl C).getD 0 0)) (xKd C) (xVa C) 0
def aNew (C : eC) : rR := rNw (xNu C) (xKe C) (xVa C) (xTi C)
def bgL (C : eC) (room : Bool) : List rR := if aBeg C && (!decide ((xSl C).length = 1) && room) then [aNew C] else []
def bgM (C : eC) : List rR := if aBeg C && decide ((xSl C).length = 1) then [aNew C] else []
def bgD (C : eC) (room : Bool) : Int32 := if aBeg C && (!decide ((xSl C).length = 1) && !room) then 1 else 0
def bgPost (z : sT) (C : eC) (rs ms : List rR) (w : sT) : Prop :=
  frE z w ∧ w.2 = z.2 ∧ lsA w 3 (rs ++ bgL C (rm24 rs)) ∧ lsA w 5 (ms ++ bgM C) ∧ w.1 0 9 = z.1 0 9 + bgD C (rm24 rs) ∧ w.1 0 10 = z.1 0 10 ∧ w.1 0 11 = z.1 0 11 ∧ zEq z w
theorem sBe_abs {z : sT} {pt r : Nat} {C : eC} (hev : evC z pt C) {v : sT} (hv : v.1 7 = z.1 7) (hr : 30 ≤ r) : RunA (sBe v r) r (aNew C) := by
  have := RunA.new (z := v) hr
  rw [hv] at this
  obtain ⟨h1, h2, h3, h4, h5, h6, h7, h8, h9, h10, h11⟩ := hev
  rw [h7, h9, h10, h11] at this
  unfold sBe
  rw [hv, h7, h9, h11]
  exact this
set_option maxHeartbeats 1000000 in
theorem gBg_abs {z : sT} {pt : Nat} {C : eC} {rs ms : List rR} (hev : evC z pt C) (hw : rwA z) (h3 : lsA z 3 rs) (h5 : lsA z 5 ms) (h1 : 0 < (xSl C).length) (hm : (xSl C).length = 1 → ms.length < 24) :
    bgPost z C rs ms (gBg z ((xSl C).getD 0 0) (xSl C).length rs.length ms.length) := by
  have h24 := h3.2.1
  have hx := getD_some h1
  have hxk := stO_in hx
  have eA : rAd (elOf z (pb (z.2.1 0 4) + (xSl C).getD 0 0)) (z.1 7 1) (z.1 7 3) 0 = aBeg C := by
    unfold aBeg
    rw [hev.1, elA_of hev.2.2.1.2.2.1 hxk, hev.2.2.2.2.2.2.2.1, hev.2.2.2.2.2.2.2.2.2.1]
  unfold bgPost
  generalize hw1 : gBg z ((xSl C).getD 0 0) (xSl C).length rs.length ms.length = w1
  unfold gBg at hw1
  rw [eA] at hw1
  cases hb : aBeg C
  · rw [hb] at hw1
    simp only [Bool.false_eq_true, if_false] at hw1
    subst hw1
    have e1 : bgL C (rm24 rs) = [] := by unfold bgL; rw [hb]; rfl
    have e2 : bgM C = [] := by unfold bgM; rw [hb]; rfl
    have e3 : bgD C (rm24 rs) = 0 := by unfold bgD; rw [hb]; rfl
    rw [e1, e2, e3]
    exact ⟨⟨rfl, fun c _ _ _ _ => rfl⟩, rfl, by simpa using h3, by simpa using h5, by simp, rfl, rfl, fun j _ _ _ => rfl⟩
  · rw [hb] at hw1
    simp only [if_true] at hw1
    by_cases hl : (xSl C).length = 1
    · have hm4 := hm hl
      have ho : sRow z (decide (0 + 1 = (xSl C).length)) rs.length ms.length = (some (z.2.1 6 ms.length), sI z 5 1 (nI (ms.length + 1))) := by unfold sRow; simp [hl]
      rw [ho] at hw1
      have h6 := hw.2.2 ms.length hm4
      rw [h6] at hw1
      have hw2 : w1 = sBe (sI z 5 1 (nI (ms.length + 1))) (54 + ms.length) := hw1.symm
      have e1 : bgL C (rm24 rs) = [] := by unfold bgL; rw [hb, decide_eq_true hl]; rfl
      have e2 : bgM C = [aNew C] := by unfold bgM; rw [hb, decide_eq_true hl]; rfl
      have e3 : bgD C (rm24 rs) = 0 := by unfold bgD; rw [hb, decide_eq_true hl]; rfl
      rw [e1, e2, e3]
      have hrow : ∀ c, c ≠ 54 + ms.length → c ≠ 54 + ms.length + 48 → c ≠ 5 → w1.1 c = z.1 c := fun c a1 a2 a3 => by
        rw [hw2, sBe_row a1 a2, sI_row a3]
      have h2 : w1.2 = z.2 := by rw [hw2]; rfl
      refine ⟨⟨by rw [h2], fun c a1 a2 a3 a4 => hrow c (by omega) (by omega) a3⟩, h2, ?_, ?_, ?_, ?_, ?_, ?_⟩
      · rw [List.append_nil]
        refine h3.fr (by rw [h2]) (by rw [hrow 3 (by omega) (by omega) (by omega)]) (fun j hj => ?_)
        have := hw.1 j (by omega)
        exact ⟨hrow _ (by show z.2.1 4 j ≠ _; omega) (by show z.2.1 4 j ≠ _; omega) (by show z.2.1 4 j ≠ _; omega), hrow _ (by show z.2.1 4 j + 48 ≠ _; omega) (by show z.2.1 4 j + 48 ≠ _; omega) (by show z.2.1 4 j + 48 ≠ _; omega)⟩
      · refine h5.add hm4 (by rw [h2]) ?_ ?_ (fun j hj => ?_)
        · rw [hw2, sBe_row (by omega) (by omega)]
          simp [sI]
        · show RunA w1 (z.2.1 6 ms.length) _
          rw [h6, hw2]
          exact sBe_abs hev (sI_row (by omega)) (by omega)
        · have := hw.2.2 j (by omega)
          exact ⟨hrow _ (by show z.2.1 6 j ≠ _; omega) (by show z.2.1 6 j ≠ _; omega) (by show z.2.1 6 j ≠ _; omega), hrow _ (by show z.2.1 6 j + 48 ≠ _; omega) (by show z.2.1 6 j + 48 ≠ _; omega) (by show z.2.1 6 j + 48 ≠ _; omega)⟩
      · rw [hrow 0 (by omega) (by omega) (by omega)]; simp
      · rw [hrow 0 (by omega) (by omega) (by omega)]
      · rw [hrow 0 (by omega) (by omega) (by omega)]
      · intro j _ _ _; rw [hrow 0 (by omega) (by omega) (by omega)]
    · have hl0 : ¬ 0 + 1 = (xSl C).length := by omega
      have e2 : bgM C = [] := by unfold bgM; rw [hb, decide_eq_false hl]; rfl
      by_cases hrm : rs.length < 24
      · have ho : sRow z (decide (0 + 1 = (xSl C).length)) rs.length ms.length = (some (z.2.1 4 rs.length), sI z 3 1 (nI (rs.length + 1))) := by unfold sRow; rw [decide_eq_false hl0]; simp [hrm]
        rw [ho] at hw1
        have hw2 : w1 = sBe (sI z 3 1 (nI (rs.length + 1))) (z.2.1 4 rs.length) := hw1.symm
        have hr24 : rm24 rs = true := decide_eq_true hrm
        have e1 : bgL C (rm24 rs) = [aNew C] := by unfold bgL; rw [hb, decide_eq_false hl, hr24]; rfl
        have e3 : bgD C (rm24 rs) = 0 := by unfold bgD; rw [hb, decide_eq_false hl, hr24]; rfl
        rw [e1, e2, e3]
        have ha := hw.1 rs.length hrm
        have hrow : ∀ c, c ≠ z.2.1 4 rs.length → c ≠ z.2.1 4 rs.length + 48 → c ≠ 3 → w1.1 c = z.1 c := fun c a1 a2 a3 => by
          rw [hw2, sBe_row a1 a2, sI_row a3]
        have h2 : w1.2 = z.2 := by rw [hw2]; rfl
        refine ⟨⟨by rw [h2], fun c a1 a2 a3 a4 => hrow c (by omega) (by omega) a2⟩, h2, ?_, ?_, ?_, ?_, ?_, ?_⟩
        · refine h3.add hrm (by rw [h2]) ?_ ?_ (fun j hj => ?_)
          · rw [hw2, sBe_row (by omega) (by omega)]
            simp [sI]
          · show RunA w1 (z.2.1 4 rs.length) _
            rw [hw2]
            exact sBe_abs hev (sI_row (by omega)) (by omega)
          · have hj2 := hw.1 j (by omega)
            have hjn : z.2.1 4 j ≠ z.2.1 4 rs.length := fun q => by have := hw.2.1 _ _ (by omega) hrm q; omega
            exact ⟨hrow _ hjn (by show z.2.1 4 j ≠ _; omega) (by show z.2.1 4 j ≠ _; omega), hrow _ (by show z.2.1 4 j + 48 ≠ _; omega) (by show z.2.1 4 j + 48 ≠ _; omega) (by show z.2.1 4 j + 48 ≠ _; omega)⟩
        · rw [List.append_nil]
          refine h5.fr (by rw [h2]) (by rw [hrow 5 (by omega) (by omega) (by omega)]) (fun j hj => ?_)
          have := h5.2.1
          have := hw.2.2 j (by omega)
          exact ⟨hrow _ (by show z.2.1 6 j ≠ _; omega) (by show z.2.1 6 j ≠ _; omega) (by show z.2.1 6 j ≠ _; omega), hrow _ (by show z.2.1 6 j + 48 ≠ _; omega) (by show z.2.1 6 j + 48 ≠ _; omega) (by show z.2.1 6 j + 48 ≠ _; omega)⟩
        · rw [hrow 0 (by omega) (by omega) (by omega)]; simp
        · rw [hrow 0 (by omega) (by omega) (by omega)]
        · rw [hrow 0 (by omega) (by omega) (by omega)]
        · intro j _ _ _; rw [hrow 0 (by omega) (by omega) (by omega)]
      · have ho : sRow z (decide (0 + 1 = (xSl C).length)) rs.length ms.length = (none, sI z 0 9 (z.1 0 9 + 1)) := by unfold sRow; rw [decide_eq_false hl0]; simp [hrm]
        rw [ho] at hw1
        have hw2 : w1 = sI z 0 9 (z.1 0 9 + 1) := hw1.symm
        have hr24 : rm24 rs = false := decide_eq_false hrm
        have e1 : bgL C (rm24 rs) = [] := by unfold bgL; rw [hb, decide_eq_false hl, hr24]; rfl
        have e3 : bgD C (rm24 rs) = 1 := by unfold bgD; rw [hb, decide_eq_false hl, hr24]; rfl
        rw [e1, e2, e3]
        have hrow : ∀ c, c ≠ 0 → w1.1 c = z.1 c := fun c a1 => by rw [hw2, sI_row a1]
        have h2 : w1.2 = z.2 := by rw [hw2]; rfl
        refine ⟨⟨by rw [h2], fun c a1 a2 a3 a4 => hrow c a1⟩, h2, ?_, ?_, ?_, ?_, ?_, ?_⟩
        · rw [List.append_nil]
          refine h3.fr (by rw [h2]) (by rw [hrow 3 (by omega)]) (fun j hj => ?_)
          have := hw.1 j (by omega)
          exact ⟨hrow _ (by show z.2.1 4 j ≠ _; omega), hrow _ (by show z.2.1 4 j + 48 ≠ _; omega)⟩
        · rw [List.append_nil]
          refine h5.fr (by rw [h2]) (by rw [hrow 5 (by omega)]) (fun j hj => ?_)
          have := h5.2.1
          have := hw.2.2 j (by omega)
          exact ⟨hrow _ (by show z.2.1 6 j ≠ _; omega), hrow _ (by show z.2.1 6 j + 48 ≠ _; omega)⟩
        · rw [hw2]; simp [sI]
        · rw [hw2]; simp [sI]
        · rw [hw2]; simp [sI]
        · intro j a1 _ _; rw [hw2]; simp [sI, a1]
theorem k_begin (l : Launch) (g : mG) (ad : Nat → Nat) {z : sT} {pt : Nat} {C : eC} {rs ms : List rR} (hev : evC z pt C) (hw : rwA z) (h3 : lsA z 3 rs) (h5 : lsA z 5 ms) (h1 : 0 < (xSl C).length) (hm : (xSl C).length = 1 → ms.length < 24) :
    sC l y_Pw_beginRun c_Pw_beginRun 2 none 3 g ad [.ref (ad 0)] z (fun r9 w => r9 = none ∧ bgPost z C rs ms w) := by
  have hp : z.2.1 0 4 = 8 ∨ z.2.1 0 4 = 11 := by rw [hev.1]; exact hev.2.1
  have hk8 := hev.2.2.2.1
  have hns8 : (xSl C).length ≤ 8 := by
    have := stO_len (xEl C) (xK C)
    show (stO (xEl C) (xK C)).length ≤ 8
    omega
  have hx := getD_some h1
  have hxk := stO_in hx
  have hrow : ∀ j, j < 24 → 30 ≤ z.2.1 4 j ∧ z.2.1 4 j < 78 := fun j hj => by have := hw.1 j hj; omega
  have hmrow : ∀ j, j < 24 → 30 ≤ z.2.1 6 j ∧ z.2.1 6 j < 78 := fun j hj => by have := hw.2.2 j hj; omega
  have hns : z.1 (z.2.1 0 4) 3 = nI (xSl C).length := by rw [hev.1]; exact hev.2.2.1.2.1
  have hX : z.1 (z.2.1 0 4 + 2) 0 = nI ((xSl C).getD 0 0) := by rw [hev.1]; exact (hev.at hx).1
  have K := k_Pw_beginRun l g ad z ((xSl C).getD 0 0) (xSl C).length rs.length ms.length hp hns hns8 h1 hX (by omega) h3.1 h3.2.1 h5.1 (fun q => hm (by omega)) hrow hmrow
  refine K.mono (fun r9 w h => ?_)
  obtain ⟨q1, q2⟩ := h
  subst q2
  exact ⟨q1, gBg_abs hev hw h3 h5 h1 hm⟩
