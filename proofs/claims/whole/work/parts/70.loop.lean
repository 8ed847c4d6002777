theorem and15 (x : Int32) : ∃ j : Nat, j < 16 ∧ x &&& 15 = nI j := by
  have h1 : (x.toBitVec &&& 15#32).toNat < 16 := by
    rw [BitVec.toNat_and]
    exact Nat.lt_succ_of_le Nat.and_le_right
  refine ⟨(x.toBitVec &&& 15#32).toNat, h1, ?_⟩
  apply Int32.toBitVec_inj.mp
  rw [Int32.toBitVec_and]
  apply BitVec.eq_of_toNat_eq
  show (x.toBitVec &&& 15#32).toNat = (BitVec.ofNat 32 (x.toBitVec &&& 15#32).toNat).toNat
  rw [BitVec.toNat_ofNat, Nat.mod_eq_of_lt (Nat.lt_trans h1 (by decide))]
theorem gt5 {n k : Nat} (hn : n < 2 ^ 30) (hk : 5 * k < 2 ^ 30) : (nI n - 5 < nI (5 * k)) ↔ n < 5 * k + 5 := by
  rw [Int32.lt_iff_toInt_lt, show (nI n - 5 : Int32) = nI n - nI 5 from rfl, pk_sub_toInt hn (by decide), nI_toInt (by omega)]
  omega
def lEnd (J : mJt) : Prop := ∀ (pc : Nat) (L : List (Option Value)) (h : mHp) (c9 s9 : Nat), decode c_Lw_law pc = .ok (.ireturn, 1) → c9 ≤ 601024 → s9 ≤ 7293034 → J pc L [.int 1] h c9 s9
theorem g_6c : ∀ i, i < 145 → grp i ≤ 6 → ∀ c ∈ chL i, grp c ≤ 6 := by decide +kernel
theorem g_7c : ∀ i, i < 145 → grp i = 7 → ∀ c ∈ chL i, c < 145 ∧ grp c = 7 := by decide +kernel
theorem g_no8 : ∀ i, i < 145 → grp i ≤ 7 → ∀ c ∈ chL i, c ≠ 144 := by decide +kernel
theorem g_144 : ∀ i, i < 145 → i ≠ 144 → grp i ≤ 7 := by decide +kernel
set_option maxRecDepth 100000 in
set_option maxHeartbeats 1000000 in
theorem law_loop (l : Launch) (htl : l.stackTraces = false) {J : mJt} {g : mG} {b len : Nat} {xs : Nat → Int32} (hL : lB l J room_1 g b len xs) (ad : Nat → Nat) (hj : sJn ad) (hlen : len ≤ 2560) (hEnd : lEnd J) : ∀ (n k : Nat) (z : sT) (S : gS) (E c9 s9 : Nat) (l5 l6 : Option Value), k + n = len / 5 → wld z S E → E ≤ k → c9 + n ≤ 601024 → s9 + 6 * n ≤ 7293034 → lK J ad g c9 s9 23 [some (.ref b), some (.ref (ad 0)), some (.ref (ad 126)), some (.ref (ad 144)), some (.int (nI (5 * k))), l5, l6] [] z := by
  intro n
  induction n with
  | zero =>
    intro k z S E c9 s9 l5 l6 hk hW hE hc hs
    have hB := hL.sb (c9 := c9) (s9 := s9) hj (by show c9 ≤ 601024; omega) (by show s9 ≤ 7293034; omega)
    refine hB.iload d_Lw_law_23 rfl ?_
    refine hB.aload_n d_Lw_law_25 rfl ?_
    refine hL.lenK d_Lw_law_26 ?_
    refine hB.iconst d_Lw_law_27 (v := 5) rfl ?_
    refine hB.isub d_Lw_law_28 ?_
    refine hB.icmp_gt d_Lw_law_29 (tgt := 548) rfl (fun _ => ?_) (fun q => absurd ((gt5 (by omega) (by omega)).mpr (by omega)) q)
    refine hB.iconst d_Lw_law_548 (v := 1) rfl ?_
    exact fun h hh => hEnd _ _ _ _ _ d_Lw_law_549 (by omega) (by omega)
  | succ n ih =>
    intro k z S E c9 s9 l5 l6 hk hW hE hc hs
    have hB := hL.sb (c9 := c9) (s9 := s9) hj (by show c9 ≤ 601024; omega) (by show s9 ≤ 7293034; omega)
    have hkl : 5 * k + 5 ≤ len := by omega
    have hN : lNx J ad g b k E c9 s9 := by
      intro z' S' E' c' s' m5 m6 hW' hE' hc' hs'
      have hB' := hL.sb (c9 := c') (s9 := s') hj (by show c' ≤ 601024; omega) (by show s' ≤ 7293034; omega)
      refine hB'.iinc d_Lw_law_542 rfl (v := nI (5 * (k + 1))) (nI_add (5 * k) 5) ?_
      refine hB'.goto d_Lw_law_545 (tgt := 23) rfl ?_
      exact ih (k + 1) z' S' E' c' s' m5 m6 (by omega) hW' (by omega) (by omega) (by omega)
    have hE9 : E < 520 := by omega
    have hc1 : c9 + 1 ≤ room_1.cells := by show c9 + 1 ≤ 601024; omega
    have hs1 : s9 + 6 ≤ room_1.slots := by show s9 + 6 ≤ 7293034; omega
    refine hB.iload d_Lw_law_23 rfl ?_
    refine hB.aload_n d_Lw_law_25 rfl ?_
    refine hL.lenK d_Lw_law_26 ?_
    refine hB.iconst d_Lw_law_27 (v := 5) rfl ?_
    refine hB.isub d_Lw_law_28 ?_
    refine hB.icmp_gt d_Lw_law_29 (tgt := 548) rfl (fun q => absurd ((gt5 (by omega) (by omega)).mp q) (by omega)) (fun _ => ?_)
    refine hB.aload_n d_Lw_law_32 rfl ?_
    refine hB.iload d_Lw_law_33 rfl ?_
    refine hL.ldK d_Lw_law_35 rfl (by omega) (by omega) ?_
    refine hB.bipush d_Lw_law_36 (v := 15) rfl ?_
    refine hB.iand d_Lw_law_38 ?_
    obtain ⟨j, hj16, hje⟩ := and15 (xs (5 * k))
    rw [hje]
    by_cases hj9 : 9 < j
    · refine hB.tableOut d_Lw_law_39 (Or.inr (by rw [nI_toInt (by omega)]; omega)) (tgt := 542) rfl ?_
      exact hN z S E c9 s9 l5 l6 hW (by omega) (by omega) (by omega)
    rcases (show j = 0 ∨ j = 1 ∨ j = 2 ∨ j = 3 ∨ j = 4 ∨ j = 5 ∨ j = 6 ∨ j = 7 ∨ j = 8 ∨ j = 9 by omega) with rfl | rfl | rfl | rfl | rfl | rfl | rfl | rfl | rfl | rfl
    · refine hB.tableIn d_Lw_law_39 (by decide) (by decide) (off := 53) rfl (tgt := 92) rfl ?_
      exact st_0 l htl hL ad hj z S E c9 s9 k l5 l6 hW hE9 hlen hkl hc1 hs1 hN
    · refine hB.tableIn d_Lw_law_39 (by decide) (by decide) (off := 80) rfl (tgt := 119) rfl ?_
      exact st_1 l htl hL ad hj z S E c9 s9 k l5 l6 hW hE9 hlen hkl hc1 hs1 hN
    · refine hB.tableIn d_Lw_law_39 (by decide) (by decide) (off := 91) rfl (tgt := 130) rfl ?_
      cases hok : (cRd (gTx S) (gN S)).1
      · exact st_2x l htl hL ad hj z S E c9 s9 k l5 l6 hW hE9 hlen hkl hc1 hs1 hN hok
      · exact st_2r l htl hL ad hj z S E c9 s9 k l5 l6 hW hE9 hlen hkl hc1 hs1 hN hok
    · refine hB.tableIn d_Lw_law_39 (by decide) (by decide) (off := 135) rfl (tgt := 174) rfl ?_
      exact st_3 l htl hL ad hj z S E c9 s9 k l5 l6 hW hE9 hlen hkl hc1 hs1 hN
    · refine hB.tableIn d_Lw_law_39 (by decide) (by decide) (off := 148) rfl (tgt := 187) rfl ?_
      obtain ⟨q, hq, hq1⟩ := i2c_q (xs (5 * k + 1))
      by_cases hns : (gSl S).length = 0
      · exact st_4x l htl hL ad hj z S E c9 s9 k l5 l6 hW hE9 hlen hkl hc1 hs1 hN q hq hq1 hns
      · by_cases hgood : fWi (nI q) 65 70 = 1 ∧ fWi (xs (5 * k + 2)) 0 9 = 1 ∧ fWi (xs (5 * k + 3)) (-100) 100 = 1 ∧ fWi (xs (5 * k + 4)) 0 1000 = 1
        · exact st_4r l htl hL ad hj z S E c9 s9 k l5 l6 hW hE9 hlen hkl hc1 hs1 hN q hq hq1 (by omega) hgood.1 hgood.2.1 hgood.2.2.1 hgood.2.2.2
        · exact st_4y l htl hL ad hj z S E c9 s9 k l5 l6 hW hE9 hlen hkl hc1 hs1 hN q hq hq1 (by omega) hgood
    · refine hB.tableIn d_Lw_law_39 (by decide) (by decide) (off := 242) rfl (tgt := 281) rfl ?_
      rcases fWi_01 (xs (5 * k + 1)) 0 (nI (gMs S).length - 1) with hx | hx
      · exact st_5x l htl hL ad hj z S E c9 s9 k l5 l6 hW hE9 hlen hkl hc1 hs1 hN hx
      · obtain ⟨p, hp, hpe⟩ := fWi_in (by have := hW.2.2.1.2.2.2.2.2.2.1; omega) hx
        exact st_5r l htl hL ad hj z S E c9 s9 k l5 l6 hW hE9 hlen hkl hc1 hs1 hN p _ (List.getElem?_eq_getElem hp) hpe
    · refine hB.tableIn d_Lw_law_39 (by decide) (by decide) (off := 298) rfl (tgt := 337) rfl ?_
      rcases fWi_01 (xs (5 * k + 1)) 0 (nI (gMs S).length - 1) with hx | hx
      · exact st_6x l htl hL ad hj z S E c9 s9 k l5 l6 hW hE9 hlen hkl hc1 hs1 hN hx
      · have hms := hW.2.2.1.2.2.2.2.2.2
        obtain ⟨p, hp, hpe⟩ := fWi_in (by have := hms.1; omega) hx
        have hR9 := (hms.2 _ (List.getElem_mem hp)).2.1
        rcases fWi_01 (xs (5 * k + 2)) 0 (nI ((gMs S)[p]).2.1 - 1) with hy | hy
        · exact st_6y l htl hL ad hj z S E c9 s9 k l5 l6 hW hE9 hlen hkl hc1 hs1 hN p _ (List.getElem?_eq_getElem hp) hpe hy
        · obtain ⟨w, hw, hwe⟩ := fWi_in (by omega) hy
          exact st_6r l htl hL ad hj z S E c9 s9 k l5 l6 hW hE9 hlen hkl hc1 hs1 hN p w _ (List.getElem?_eq_getElem hp) hpe hw hwe
    · refine hB.tableIn d_Lw_law_39 (by decide) (by decide) (off := 366) rfl (tgt := 405) rfl ?_
      exact st_7 l htl hL ad hj z S E c9 s9 k l5 l6 hW hE9 hlen hkl hc1 hs1 hN
    · refine hB.tableIn d_Lw_law_39 (by decide) (by decide) (off := 379) rfl (tgt := 418) rfl ?_
      rcases fWi_01 (xs (5 * k + 1)) 0 (nI (gRs S).length - 1) with hx | hx
      · exact st_8x l htl hL ad hj z S E c9 s9 k l5 l6 hW hE9 hlen hkl hc1 hs1 hN hx
      · have hms := hW.2.2.1.2.2.2.2.2.1
        obtain ⟨p, hp, hpe⟩ := fWi_in (by have := hms.1; omega) hx
        rcases fWi_01 (xs (5 * k + 2)) 0 3 with hy | hy
        · exact st_8y l htl hL ad hj z S E c9 s9 k l5 l6 hW hE9 hlen hkl hc1 hs1 hN p _ (List.getElem?_eq_getElem hp) hpe hy
        · obtain ⟨w, hw, hwe⟩ := fWi_in (n := 4) (by decide) hy
          rcases (show w = 0 ∨ w = 1 ∨ w = 2 ∨ w = 3 by omega) with rfl | rfl | rfl | rfl
          · exact st_8r0 l htl hL ad hj z S E c9 s9 k l5 l6 hW hE9 hlen hkl hc1 hs1 hN p _ (List.getElem?_eq_getElem hp) hpe hwe
          · exact st_8r1 l htl hL ad hj z S E c9 s9 k l5 l6 hW hE9 hlen hkl hc1 hs1 hN p _ (List.getElem?_eq_getElem hp) hpe hwe
          · exact st_8r2 l htl hL ad hj z S E c9 s9 k l5 l6 hW hE9 hlen hkl hc1 hs1 hN p _ (List.getElem?_eq_getElem hp) hpe hwe
          · exact st_8r3 l htl hL ad hj z S E c9 s9 k l5 l6 hW hE9 hlen hkl hc1 hs1 hN p _ (List.getElem?_eq_getElem hp) hpe hwe
    · refine hB.tableIn d_Lw_law_39 (by decide) (by decide) (off := 447) rfl (tgt := 486) rfl ?_
      rcases fWi_01 (xs (5 * k + 1)) 0 7 with hx | hx
      · exact st_9x l htl hL ad hj z S E c9 s9 k l5 l6 hW hE9 hlen hkl hc1 hs1 hN hx
      · obtain ⟨p, hp, hpe⟩ := fWi_in (n := 8) (by decide) hx
        exact st_9r l htl hL ad hj z S E c9 s9 k l5 l6 hW hE9 hlen hkl hc1 hs1 hN p hp hpe
set_option maxRecDepth 100000 in
set_option maxHeartbeats 1000000 in
theorem law_run (l : Launch) (htl : l.stackTraces = false) {J : mJt} {g : mG} {b len : Nat} {xs : Nat → Int32} (hL : lB l J room_1 g b len xs) (hlen : len ≤ 2560) (hEnd : lEnd J) : J 0 [some (.ref b), none, none, none, none, none, none] [] (fun _ => none) 0 0 := by
  have hJ := hL.t.b
  refine hJ.new nl_Lw_8 d_Lw_law_0 (by decide) (by decide) (fun x hx => ?_)
  refine hJ.dup d_Lw_law_3 rfl ?_
  refine hJ.callI (As := []) (rest := [.ref x]) lk_Lw_37 cd_Pw_init (n_Pw l g x _ mU_self) d_Lw_law_4 rfl rfl (by decide) (by simp [Value.category]) ⟨by decide, by decide⟩ (fun r9 h2 hp => ?_)
  obtain ⟨rfl, f1, e1, n1, k1⟩ := inQ.nw (D := fun i => i < 145 ∧ grp i ≤ 6) hx ⟨by decide, by decide⟩ hp
  refine hJ.astore_n d_Lw_law_7 (Nat.le_of_ble_eq_true rfl) ?_
  refine hJ.new nl_Lw_38 d_Lw_law_8 (by decide) (by decide) (fun m hm => ?_)
  refine hJ.dup d_Lw_law_11 rfl ?_
  refine hJ.callI (As := []) (rest := [.ref m]) lk_Lw_40 cd_Md_init (n_Md l g m _ mU_self) d_Lw_law_12 rfl rfl (by decide) (by simp [Value.category]) ⟨by decide, by decide⟩ (fun r9 h3 hp2 => ?_)
  obtain ⟨rfl, f2, e2, n2, k2⟩ := inQ.nw (D := fun i => i < 145 ∧ grp i = 7) hm ⟨by decide, by decide⟩ hp2
  refine hJ.astore_n d_Lw_law_15 (Nat.le_of_ble_eq_true rfl) ?_
  refine hJ.iconst d_Lw_law_16 (v := 1) rfl ?_
  refine hJ.newJ ac_long d_Lw_law_17 (by decide) (N := 1) rfl (by decide) (by decide) (by decide) (fun w hw => ?_)
  refine hJ.astore_n d_Lw_law_19 (Nat.le_of_ble_eq_true rfl) ?_
  refine hJ.iconst d_Lw_law_20 (v := 0) rfl ?_
  refine hJ.istore d_Lw_law_21 (Nat.le_of_ble_eq_true rfl) ?_
  show J 23 [some (.ref b), some (.ref x), some (.ref m), some (.ref w), some (.int (nI (5 * 0))), none, none] [] (mU h3 w (mAL g 1 (fun _ => 0))) 145 6410
  obtain ⟨f3, a1, a2, n3⟩ := n1.merge n2 k2 (fun _ _ => rfl) (fun i hi p => by have h9 := hi.2; have h8 := p.2; omega) (fun i hi c hc p => by
    have h9 := g_6c i hi.1 hi.2 c hc
    have h8 := p.2
    omega) (fun i hi c hc => g_7c i hi.1 hi.2 c hc)
  have hD : ∀ i, (i < 145 ∧ grp i ≤ 6) ∨ (i < 145 ∧ grp i = 7) → i < 145 ∧ grp i ≤ 7 := fun i hi => by omega
  have hfw : ∀ i, (i < 145 ∧ grp i ≤ 6) ∨ (i < 145 ∧ grp i = 7) → f3 i ≠ w := fun i hi p => by
    obtain ⟨e9, p1, -⟩ := n3.2.1 i hi
    rw [p, hw] at p1
    cases p1
  have n4 : nw g (fun i => (i < 145 ∧ grp i ≤ 6) ∨ (i < 145 ∧ grp i = 7)) f3 (fun _ => none) (mU h3 w (mAL g 1 (fun _ => 0))) := by
    refine ⟨n3.1, fun i hi => ?_, n3.2.2⟩
    obtain ⟨e9, p1, p2⟩ := n3.2.1 i hi
    exact ⟨e9, by rw [mU_ne (hfw i hi)]; exact p1, p2⟩
  obtain ⟨ad, a3, a4, n5⟩ := n4.cell (i := 144) rfl mU_self (fun f2 _ _ => Or.inl rfl) (fun p => by
    have h9 := hD _ p
    exact absurd h9.2 (by decide)) hfw (fun i hi c hc => g_no8 i (hD i hi).1 (hD i hi).2 c hc)
  have n6 : nw g (fun i => i < 145) ad (fun _ => none) (mU h3 w (mAL g 1 (fun _ => 0))) := n5.iff (fun i hi => by
    by_cases h9 : i = 144
    · exact Or.inr h9
    · have h8 := g_144 i hi h9
      by_cases h7 : grp i = 7
      · exact Or.inl (Or.inr ⟨hi, h7⟩)
      · exact Or.inl (Or.inl ⟨hi, by omega⟩))
  obtain ⟨h9, hh9, hj9, he9⟩ := n6.sH
  refine mJ.alt hJ he9 ?_
  have b0 : ad 0 = x := (a3 0 (Or.inl ⟨by decide, by decide⟩)).trans ((a1 0 ⟨by decide, by decide⟩).trans e1)
  have b1 : ad 126 = m := (a3 126 (Or.inr ⟨by decide, by decide⟩)).trans ((a2 126 ⟨by decide, by decide⟩).trans e2)
  rw [← b0, ← b1, ← a4]
  exact law_loop l htl hL ad hj9 hlen hEnd (len / 5) 0 z0 S0 0 145 6410 none none (by omega) wld_0 (by omega) (by omega) (by omega) h9 hh9
