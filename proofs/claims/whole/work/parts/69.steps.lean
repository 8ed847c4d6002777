def lNx (J : mJt) (ad : Nat → Nat) (g : mG) (b k E c9 s9 : Nat) : Prop := ∀ (z' : sT) (S' : gS) (E' c' s' : Nat) (l5 l6 : Option Value), wld z' S' E' → E' ≤ E + 1 → c' ≤ c9 + 1 → s' ≤ s9 + 6 → lK J ad g c' s' 542 [some (.ref b), some (.ref (ad 0)), some (.ref (ad 126)), some (.ref (ad 144)), some (.int (nI (5 * k))), l5, l6] [] z'
theorem lcmp0 (x : Int64) : lg_cmp x x = 0 := by
  unfold lg_cmp
  simp
theorem sLg_0 {z : sT} {x : Int64} : (sLg z x).2.2 0 = x := by
  show vp_updL z.2.2 0 x 0 = x
  unfold vp_updL
  simp
set_option maxRecDepth 100000 in
set_option maxHeartbeats 1000000 in
theorem st_0 (l : Launch) (htl : l.stackTraces = false) {J : mJt} {g : mG} {b len : Nat} {xs : Nat → Int32} (hL : lB l J room_1 g b len xs) (ad : Nat → Nat) (hj : sJn ad) (z : sT) (S : gS) (E c9 s9 k : Nat) (l5 l6 : Option Value) (hW : wld z S E) (hE9 : E < 520) (hlen : len ≤ 2560) (hk : 5 * k + 5 ≤ len) (hc : c9 + 1 ≤ room_1.cells) (hs : s9 + 6 ≤ room_1.slots) (hN : lNx J ad g b k E c9 s9) : lK J ad g c9 s9 92 [some (.ref b), some (.ref (ad 0)), some (.ref (ad 126)), some (.ref (ad 144)), some (.int (nI (5 * k))), l5, l6] [] z := by
  have hB := hL.sb hj (Nat.le_trans (Nat.le_add_right c9 1) hc) (Nat.le_trans (Nat.le_add_right s9 6) hs)
  have hB2 := hL.sb hj hc hs
  obtain ⟨hcl, hmd, hgo, hr0⟩ := id hW
  obtain ⟨q, hq, hq1⟩ := i2c_q (xs (5 * k + 1))
  refine hB.aload_n d_Lw_law_92 rfl ?_
  refine hB.aload_n d_Lw_law_93 rfl ?_
  refine hB.iload d_Lw_law_94 rfl ?_
  refine hB.iconst d_Lw_law_96 (v := 1) rfl ?_
  refine hB.iadd d_Lw_law_97 ?_
  refine hL.ldK d_Lw_law_98 (nI_add (5 * k) 1) (by omega) (by omega) ?_
  refine hB.i2c d_Lw_law_99 hq1 ?_
  refine hB.callV lk_Lw_41 cd_Pw_type (k_Pw_type l g ad z S hcl q hq) rfl (by decide) sK_0 d_Lw_law_100 rfl rfl (by decide) (by simp [Value.category]) ?_
  rintro _ w1 ⟨rfl, hc1, hf1⟩
  refine hB.aload_n d_Lw_law_103 rfl ?_
  refine hB.aload_n d_Lw_law_104 rfl ?_
  refine hB.iload d_Lw_law_105 rfl ?_
  refine hB.iconst d_Lw_law_107 (v := 1) rfl ?_
  refine hB.iadd d_Lw_law_108 ?_
  refine hL.ldK d_Lw_law_109 (nI_add (5 * k) 1) (by omega) (by omega) ?_
  refine hB.i2c d_Lw_law_110 hq1 ?_
  refine hB.callV lk_Lw_45 cd_Md_type (k_mType l g ad w1 (hmd.frC hf1) hgo q hq) rfl (by decide) sK_126 d_Lw_law_111 rfl rfl (by decide) (by simp [Value.category]) ?_
  rintro _ w2 ⟨rfl, hm2, hf2⟩
  refine hB.icmp_eq d_Lw_law_114 (tgt := 542) rfl (fun q114 => ?_) (fun q114 => absurd rfl q114)
  exact hN w2 (gTy S q) E c9 s9 l5 l6 ⟨hc1.frL hf2, hm2, hgo.ty, by rw [gTy_pt]; exact hr0⟩ (by omega) (by omega) (by omega)
set_option maxRecDepth 100000 in
set_option maxHeartbeats 1000000 in
theorem st_1 (l : Launch) (htl : l.stackTraces = false) {J : mJt} {g : mG} {b len : Nat} {xs : Nat → Int32} (hL : lB l J room_1 g b len xs) (ad : Nat → Nat) (hj : sJn ad) (z : sT) (S : gS) (E c9 s9 k : Nat) (l5 l6 : Option Value) (hW : wld z S E) (hE9 : E < 520) (hlen : len ≤ 2560) (hk : 5 * k + 5 ≤ len) (hc : c9 + 1 ≤ room_1.cells) (hs : s9 + 6 ≤ room_1.slots) (hN : lNx J ad g b k E c9 s9) : lK J ad g c9 s9 119 [some (.ref b), some (.ref (ad 0)), some (.ref (ad 126)), some (.ref (ad 144)), some (.int (nI (5 * k))), l5, l6] [] z := by
  have hB := hL.sb hj (Nat.le_trans (Nat.le_add_right c9 1) hc) (Nat.le_trans (Nat.le_add_right s9 6) hs)
  have hB2 := hL.sb hj hc hs
  obtain ⟨hcl, hmd, hgo, hr0⟩ := id hW
  refine hB.aload_n d_Lw_law_119 rfl ?_
  refine hB.callV lk_Lw_46 cd_Pw_wipe (k_Pw_wipe l g ad z S hcl) rfl (by decide) sK_0 d_Lw_law_120 rfl rfl (by decide) (by simp [Value.category]) ?_
  rintro _ w1 ⟨rfl, hc1, hf1⟩
  refine hB.aload_n d_Lw_law_123 rfl ?_
  refine hB.callV lk_Lw_49 cd_Md_wipe (k_mWipe l g ad w1 (hmd.frC hf1)) rfl (by decide) sK_126 d_Lw_law_124 rfl rfl (by decide) (by simp [Value.category]) ?_
  rintro _ w2 ⟨rfl, hm2, hf2⟩
  refine hB.goto d_Lw_law_127 (tgt := 542) rfl ?_
  exact hN w2 (gTx S, 0, S.2.2) E c9 s9 l5 l6 ⟨hc1.frL hf2, hm2, hgo.wipe, hr0⟩ (by omega) (by omega) (by omega)
set_option maxRecDepth 100000 in
set_option maxHeartbeats 1000000 in
theorem st_3 (l : Launch) (htl : l.stackTraces = false) {J : mJt} {g : mG} {b len : Nat} {xs : Nat → Int32} (hL : lB l J room_1 g b len xs) (ad : Nat → Nat) (hj : sJn ad) (z : sT) (S : gS) (E c9 s9 k : Nat) (l5 l6 : Option Value) (hW : wld z S E) (hE9 : E < 520) (hlen : len ≤ 2560) (hk : 5 * k + 5 ≤ len) (hc : c9 + 1 ≤ room_1.cells) (hs : s9 + 6 ≤ room_1.slots) (hN : lNx J ad g b k E c9 s9) : lK J ad g c9 s9 174 [some (.ref b), some (.ref (ad 0)), some (.ref (ad 126)), some (.ref (ad 144)), some (.int (nI (5 * k))), l5, l6] [] z := by
  have hB := hL.sb hj (Nat.le_trans (Nat.le_add_right c9 1) hc) (Nat.le_trans (Nat.le_add_right s9 6) hs)
  have hB2 := hL.sb hj hc hs
  obtain ⟨hcl, hmd, hgo, hr0⟩ := id hW
  refine hB.aload_n d_Lw_law_174 rfl ?_
  refine hB.callV lk_Lw_59 cd_Pw_fault (k_Pw_fault l g ad z S hcl) rfl (by decide) sK_0 d_Lw_law_175 rfl rfl (by decide) (by simp [Value.category]) ?_
  rintro _ w1 ⟨rfl, hw1⟩
  have hw0 := hw1.symm; subst hw0
  refine hB.aload_n d_Lw_law_178 rfl ?_
  refine hB.callV lk_Lw_62 cd_Md_fault (k_Md_fault l g ad z S E hmd hgo) rfl (by decide) sK_126 d_Lw_law_179 rfl rfl (by decide) (by simp [Value.category]) ?_
  rintro _ w2 ⟨rfl, hw2⟩
  refine hB.icmp_eq d_Lw_law_182 (tgt := 542) rfl (fun q182 => ?_) (fun q182 => absurd rfl q182)
  rw [hw2]
  exact hN _ S E c9 s9 l5 l6 ⟨hcl.frL frL_code, hmd.code 0, hgo, hr0⟩ (by omega) (by omega) (by omega)
set_option maxRecDepth 100000 in
set_option maxHeartbeats 1000000 in
theorem st_7 (l : Launch) (htl : l.stackTraces = false) {J : mJt} {g : mG} {b len : Nat} {xs : Nat → Int32} (hL : lB l J room_1 g b len xs) (ad : Nat → Nat) (hj : sJn ad) (z : sT) (S : gS) (E c9 s9 k : Nat) (l5 l6 : Option Value) (hW : wld z S E) (hE9 : E < 520) (hlen : len ≤ 2560) (hk : 5 * k + 5 ≤ len) (hc : c9 + 1 ≤ room_1.cells) (hs : s9 + 6 ≤ room_1.slots) (hN : lNx J ad g b k E c9 s9) : lK J ad g c9 s9 405 [some (.ref b), some (.ref (ad 0)), some (.ref (ad 126)), some (.ref (ad 144)), some (.int (nI (5 * k))), l5, l6] [] z := by
  have hB := hL.sb hj (Nat.le_trans (Nat.le_add_right c9 1) hc) (Nat.le_trans (Nat.le_add_right s9 6) hs)
  have hB2 := hL.sb hj hc hs
  obtain ⟨hcl, hmd, hgo, hr0⟩ := id hW
  refine hB.aload_n d_Lw_law_405 rfl ?_
  refine hB.callV lk_Lw_75 cd_Pw_runs (k_Pw_runs l g ad z S hcl) rfl (by decide) sK_0 d_Lw_law_406 rfl rfl (by decide) (by simp [Value.category]) ?_
  rintro _ w1 ⟨rfl, hw1⟩
  have hw0 := hw1.symm; subst hw0
  refine hB.aload_n d_Lw_law_409 rfl ?_
  refine hB.callV lk_Lw_78 cd_Md_runs (k_Md_runs l g ad z S E hmd hgo) rfl (by decide) sK_126 d_Lw_law_410 rfl rfl (by decide) (by simp [Value.category]) ?_
  rintro _ w2 ⟨rfl, hw2⟩
  refine hB.icmp_eq d_Lw_law_413 (tgt := 542) rfl (fun q413 => ?_) (fun q413 => absurd rfl q413)
  rw [hw2]
  exact hN _ S E c9 s9 l5 l6 ⟨hcl.frL frL_code, hmd.code 0, hgo, hr0⟩ (by omega) (by omega) (by omega)
set_option maxRecDepth 100000 in
set_option maxHeartbeats 1000000 in
theorem st_9x (l : Launch) (htl : l.stackTraces = false) {J : mJt} {g : mG} {b len : Nat} {xs : Nat → Int32} (hL : lB l J room_1 g b len xs) (ad : Nat → Nat) (hj : sJn ad) (z : sT) (S : gS) (E c9 s9 k : Nat) (l5 l6 : Option Value) (hW : wld z S E) (hE9 : E < 520) (hlen : len ≤ 2560) (hk : 5 * k + 5 ≤ len) (hc : c9 + 1 ≤ room_1.cells) (hs : s9 + 6 ≤ room_1.slots) (hN : lNx J ad g b k E c9 s9) (hx : fWi (xs (5 * k + 1)) 0 7 = 0) : lK J ad g c9 s9 486 [some (.ref b), some (.ref (ad 0)), some (.ref (ad 126)), some (.ref (ad 144)), some (.int (nI (5 * k))), l5, l6] [] z := by
  have hB := hL.sb hj (Nat.le_trans (Nat.le_add_right c9 1) hc) (Nat.le_trans (Nat.le_add_right s9 6) hs)
  have hB2 := hL.sb hj hc hs
  obtain ⟨hcl, hmd, hgo, hr0⟩ := id hW
  refine hB.aload_n d_Lw_law_486 rfl ?_
  refine hB.aload_n d_Lw_law_487 rfl ?_
  refine hB.iload d_Lw_law_488 rfl ?_
  refine hB.iconst d_Lw_law_490 (v := 1) rfl ?_
  refine hB.iadd d_Lw_law_491 ?_
  refine hL.ldK d_Lw_law_492 (nI_add (5 * k) 1) (by omega) (by omega) ?_
  refine hB.aload_n d_Lw_law_493 rfl ?_
  refine hL.callK hj (rest := []) lk_Lw_82 hw_figure (h_figure_x1 l g ad z (xs (5 * k + 1)) (x_figure l htl g ad z S hcl _ hx)) d_Lw_law_494 rfl rfl (by decide) (by decide) ⟨hc, hs⟩ ?_
  rintro _ w1 ⟨rfl, hw1⟩
  have hw0 := hw1.symm; subst hw0
  refine hB2.istore d_Lw_law_497 (Nat.le_of_ble_eq_true rfl) ?_
  refine hB2.aload_n d_Lw_law_499 rfl ?_
  refine hB2.aload_n d_Lw_law_500 rfl ?_
  refine hB2.iload d_Lw_law_501 rfl ?_
  refine hB2.iconst d_Lw_law_503 (v := 1) rfl ?_
  refine hB2.iadd d_Lw_law_504 ?_
  refine hL.ldK d_Lw_law_505 (nI_add (5 * k) 1) (by omega) (by omega) ?_
  refine hB2.callV lk_Lw_84 cd_Md_figure (k_mFig0 l g ad z (xs (5 * k + 1)) hx) rfl (by decide) sK_126 d_Lw_law_506 rfl rfl (by decide) (by simp [Value.category]) ?_
  rintro _ w2 ⟨rfl, hw2⟩
  have hcode : w2.1 126 0 = 1 := by rw [hw2, sI_eq]
  refine hB2.istore d_Lw_law_509 (Nat.le_of_ble_eq_true rfl) ?_
  refine hB2.aload_n d_Lw_law_511 rfl ?_
  refine hB2.callV lk_Lw_56 cd_Md_thrown (k_Md_thrown l g ad w2) rfl (by decide) sK_126 d_Lw_law_512 rfl rfl (by decide) (by simp [Value.category]) ?_
  rintro _ w9 ⟨rfl, hw9⟩
  have hw8 := hw9.symm
  clear hw9
  subst hw8
  refine hB2.iload d_Lw_law_515 rfl ?_
  rw [hcode]
  refine hB2.icmp_eq d_Lw_law_517 (tgt := 522) rfl (fun q517 => ?_) (fun q517 => absurd rfl q517)
  refine hB2.iload d_Lw_law_522 rfl ?_
  refine hB2.if_ne d_Lw_law_524 (tgt := 539) rfl (fun q524 => ?_) (fun q524 => absurd q524 (by decide))
  refine hB2.goto d_Lw_law_539 (tgt := 542) rfl ?_
  rw [hw2]
  exact hN _ S E (c9 + 1) (s9 + 6) _ _ ⟨hcl.frL frL_code, hmd.code _, hgo, hr0⟩ (by omega) (by omega) (by omega)
set_option maxRecDepth 100000 in
set_option maxHeartbeats 1000000 in
theorem st_9r (l : Launch) (htl : l.stackTraces = false) {J : mJt} {g : mG} {b len : Nat} {xs : Nat → Int32} (hL : lB l J room_1 g b len xs) (ad : Nat → Nat) (hj : sJn ad) (z : sT) (S : gS) (E c9 s9 k : Nat) (l5 l6 : Option Value) (hW : wld z S E) (hE9 : E < 520) (hlen : len ≤ 2560) (hk : 5 * k + 5 ≤ len) (hc : c9 + 1 ≤ room_1.cells) (hs : s9 + 6 ≤ room_1.slots) (hN : lNx J ad g b k E c9 s9) (n : Nat) (hn : n < 8) (hx : (xs (5 * k + 1)) = nI n) : lK J ad g c9 s9 486 [some (.ref b), some (.ref (ad 0)), some (.ref (ad 126)), some (.ref (ad 144)), some (.int (nI (5 * k))), l5, l6] [] z := by
  have hB := hL.sb hj (Nat.le_trans (Nat.le_add_right c9 1) hc) (Nat.le_trans (Nat.le_add_right s9 6) hs)
  have hB2 := hL.sb hj hc hs
  obtain ⟨hcl, hmd, hgo, hr0⟩ := id hW
  refine hB.aload_n d_Lw_law_486 rfl ?_
  refine hB.aload_n d_Lw_law_487 rfl ?_
  refine hB.iload d_Lw_law_488 rfl ?_
  refine hB.iconst d_Lw_law_490 (v := 1) rfl ?_
  refine hB.iadd d_Lw_law_491 ?_
  refine hL.ldK d_Lw_law_492 (nI_add (5 * k) 1) (by omega) (by omega) ?_
  refine hB.aload_n d_Lw_law_493 rfl ?_
  rw [hx]
  refine hL.callK hj (rest := []) lk_Lw_82 hw_figure (h_figure_r l g ad z (nI n) (by decide) (k_Pw_figure l g ad z S hcl n hn)) d_Lw_law_494 rfl rfl (by decide) (by decide) ⟨hc, hs⟩ ?_
  rintro _ w9 ⟨rfl, w1, hw1, hw9⟩
  have hw0 := hw1.symm; subst hw0
  have hw8 := hw9.symm; subst hw8
  refine hB2.istore d_Lw_law_497 (Nat.le_of_ble_eq_true rfl) ?_
  refine hB2.aload_n d_Lw_law_499 rfl ?_
  refine hB2.aload_n d_Lw_law_500 rfl ?_
  refine hB2.iload d_Lw_law_501 rfl ?_
  refine hB2.iconst d_Lw_law_503 (v := 1) rfl ?_
  refine hB2.iadd d_Lw_law_504 ?_
  refine hL.ldK d_Lw_law_505 (nI_add (5 * k) 1) (by omega) (by omega) ?_
  rw [hx]
  refine hB2.callV lk_Lw_84 cd_Md_figure (k_mFig1 l g ad (sLg z (gFig S n).toInt64) S E hmd hgo n hn) rfl (by decide) sK_126 d_Lw_law_506 rfl rfl (by decide) (by simp [Value.category]) ?_
  rintro _ w2 ⟨rfl, hw2⟩
  have hcode : w2.1 126 0 = 0 := by rw [hw2, sI_eq]
  have hlong : w2.2.2 0 = (gFig S n).toInt64 := by rw [hw2]; exact sLg_0
  refine hB2.istore d_Lw_law_509 (Nat.le_of_ble_eq_true rfl) ?_
  refine hB2.aload_n d_Lw_law_511 rfl ?_
  refine hB2.callV lk_Lw_56 cd_Md_thrown (k_Md_thrown l g ad w2) rfl (by decide) sK_126 d_Lw_law_512 rfl rfl (by decide) (by simp [Value.category]) ?_
  rintro _ w9 ⟨rfl, hw9⟩
  have hw8 := hw9.symm
  clear hw9
  subst hw8
  refine hB2.iload d_Lw_law_515 rfl ?_
  rw [hcode]
  refine hB2.icmp_eq d_Lw_law_517 (tgt := 522) rfl (fun q517 => ?_) (fun q517 => absurd rfl q517)
  refine hB2.iload d_Lw_law_522 rfl ?_
  refine hB2.if_ne d_Lw_law_524 (tgt := 539) rfl (fun q524 => absurd rfl q524) (fun q524 => ?_)
  refine hB2.aload_n d_Lw_law_527 rfl ?_
  refine hB2.iconst d_Lw_law_528 (v := 0) rfl ?_
  refine hB2.lald d_Lw_law_529 (by decide) rfl ?_
  refine hB2.iload d_Lw_law_530 rfl ?_
  refine hB2.i2l d_Lw_law_532 rfl ?_
  refine hB2.lcmp d_Lw_law_533 ?_
  rw [hlong, lcmp0]
  refine hB2.if_eq d_Lw_law_534 (tgt := 539) rfl (fun q534 => ?_) (fun q534 => absurd rfl q534)
  refine hB2.goto d_Lw_law_539 (tgt := 542) rfl ?_
  rw [hw2]
  exact hN _ S E (c9 + 1) (s9 + 6) _ _ ⟨clA.frL (z := sLg z (gFig S n).toInt64) hcl frL_code, mdA.code (z := sLg z (gFig S n).toInt64) hmd _, hgo, hr0⟩ (by omega) (by omega) (by omega)
set_option maxRecDepth 100000 in
set_option maxHeartbeats 1000000 in
theorem st_5x (l : Launch) (htl : l.stackTraces = false) {J : mJt} {g : mG} {b len : Nat} {xs : Nat → Int32} (hL : lB l J room_1 g b len xs) (ad : Nat → Nat) (hj : sJn ad) (z : sT) (S : gS) (E c9 s9 k : Nat) (l5 l6 : Option Value) (hW : wld z S E) (hE9 : E < 520) (hlen : len ≤ 2560) (hk : 5 * k + 5 ≤ len) (hc : c9 + 1 ≤ room_1.cells) (hs : s9 + 6 ≤ room_1.slots) (hN : lNx J ad g b k E c9 s9) (hx : fWi (xs (5 * k + 1)) 0 (nI (gMs S).length - 1) = 0) : lK J ad g c9 s9 281 [some (.ref b), some (.ref (ad 0)), some (.ref (ad 126)), some (.ref (ad 144)), some (.int (nI (5 * k))), l5, l6] [] z := by
  have hB := hL.sb hj (Nat.le_trans (Nat.le_add_right c9 1) hc) (Nat.le_trans (Nat.le_add_right s9 6) hs)
  have hB2 := hL.sb hj hc hs
  obtain ⟨hcl, hmd, hgo, hr0⟩ := id hW
  refine hB.aload_n d_Lw_law_281 rfl ?_
  refine hB.aload_n d_Lw_law_282 rfl ?_
  refine hB.iload d_Lw_law_283 rfl ?_
  refine hB.iconst d_Lw_law_285 (v := 1) rfl ?_
  refine hB.iadd d_Lw_law_286 ?_
  refine hL.ldK d_Lw_law_287 (nI_add (5 * k) 1) (by omega) (by omega) ?_
  refine hB.aload_n d_Lw_law_288 rfl ?_
  refine hL.callK hj (rest := []) lk_Lw_67 hw_size (h_size_x1 l g ad z (xs (5 * k + 1)) (x_size l htl g ad z S hcl _ hx)) d_Lw_law_289 rfl rfl (by decide) (by decide) ⟨hc, hs⟩ ?_
  rintro _ w1 ⟨rfl, hw1⟩
  have hw0 := hw1.symm; subst hw0
  refine hB2.istore d_Lw_law_292 (Nat.le_of_ble_eq_true rfl) ?_
  refine hB2.aload_n d_Lw_law_294 rfl ?_
  refine hB2.aload_n d_Lw_law_295 rfl ?_
  refine hB2.iload d_Lw_law_296 rfl ?_
  refine hB2.iconst d_Lw_law_298 (v := 1) rfl ?_
  refine hB2.iadd d_Lw_law_299 ?_
  refine hL.ldK d_Lw_law_300 (nI_add (5 * k) 1) (by omega) (by omega) ?_
  refine hB2.callV lk_Lw_70 cd_Md_size (k_mSize0 l g ad z S E hmd hgo (xs (5 * k + 1)) hx) rfl (by decide) sK_126 d_Lw_law_301 rfl rfl (by decide) (by simp [Value.category]) ?_
  rintro _ w2 ⟨rfl, hw2⟩
  have hcode : w2.1 126 0 = 1 := by rw [hw2, sI_eq]
  refine hB2.istore d_Lw_law_304 (Nat.le_of_ble_eq_true rfl) ?_
  refine hB2.aload_n d_Lw_law_306 rfl ?_
  refine hB2.callV lk_Lw_56 cd_Md_thrown (k_Md_thrown l g ad w2) rfl (by decide) sK_126 d_Lw_law_307 rfl rfl (by decide) (by simp [Value.category]) ?_
  rintro _ w9 ⟨rfl, hw9⟩
  have hw8 := hw9.symm
  clear hw9
  subst hw8
  refine hB2.iload d_Lw_law_310 rfl ?_
  rw [hcode]
  refine hB2.icmp_eq d_Lw_law_312 (tgt := 317) rfl (fun q312 => ?_) (fun q312 => absurd rfl q312)
  refine hB2.iload d_Lw_law_317 rfl ?_
  refine hB2.if_ne d_Lw_law_319 (tgt := 334) rfl (fun q319 => ?_) (fun q319 => absurd q319 (by decide))
  refine hB2.goto d_Lw_law_334 (tgt := 542) rfl ?_
  rw [hw2]
  exact hN _ S E (c9 + 1) (s9 + 6) _ _ ⟨hcl.frL frL_code, hmd.code _, hgo, hr0⟩ (by omega) (by omega) (by omega)
set_option maxRecDepth 100000 in
set_option maxHeartbeats 1000000 in
theorem st_5r (l : Launch) (htl : l.stackTraces = false) {J : mJt} {g : mG} {b len : Nat} {xs : Nat → Int32} (hL : lB l J room_1 g b len xs) (ad : Nat → Nat) (hj : sJn ad) (z : sT) (S : gS) (E c9 s9 k : Nat) (l5 l6 : Option Value) (hW : wld z S E) (hE9 : E < 520) (hlen : len ≤ 2560) (hk : 5 * k + 5 ≤ len) (hc : c9 + 1 ≤ room_1.cells) (hs : s9 + 6 ≤ room_1.slots) (hN : lNx J ad g b k E c9 s9) (n : Nat) (R : rR) (hn : (gMs S)[n]? = some R) (hx : (xs (5 * k + 1)) = nI n) : lK J ad g c9 s9 281 [some (.ref b), some (.ref (ad 0)), some (.ref (ad 126)), some (.ref (ad 144)), some (.int (nI (5 * k))), l5, l6] [] z := by
  have hB := hL.sb hj (Nat.le_trans (Nat.le_add_right c9 1) hc) (Nat.le_trans (Nat.le_add_right s9 6) hs)
  have hB2 := hL.sb hj hc hs
  obtain ⟨hcl, hmd, hgo, hr0⟩ := id hW
  refine hB.aload_n d_Lw_law_281 rfl ?_
  refine hB.aload_n d_Lw_law_282 rfl ?_
  refine hB.iload d_Lw_law_283 rfl ?_
  refine hB.iconst d_Lw_law_285 (v := 1) rfl ?_
  refine hB.iadd d_Lw_law_286 ?_
  refine hL.ldK d_Lw_law_287 (nI_add (5 * k) 1) (by omega) (by omega) ?_
  refine hB.aload_n d_Lw_law_288 rfl ?_
  rw [hx]
  refine hL.callK hj (rest := []) lk_Lw_67 hw_size (h_size_r l g ad z (nI n) (by decide) (k_Pw_size l g ad z S hcl n R hn)) d_Lw_law_289 rfl rfl (by decide) (by decide) ⟨hc, hs⟩ ?_
  rintro _ w9 ⟨rfl, w1, hw1, hw9⟩
  have hw0 := hw1.symm; subst hw0
  have hw8 := hw9.symm; subst hw8
  refine hB2.istore d_Lw_law_292 (Nat.le_of_ble_eq_true rfl) ?_
  refine hB2.aload_n d_Lw_law_294 rfl ?_
  refine hB2.aload_n d_Lw_law_295 rfl ?_
  refine hB2.iload d_Lw_law_296 rfl ?_
  refine hB2.iconst d_Lw_law_298 (v := 1) rfl ?_
  refine hB2.iadd d_Lw_law_299 ?_
  refine hL.ldK d_Lw_law_300 (nI_add (5 * k) 1) (by omega) (by omega) ?_
  rw [hx]
  refine hB2.callV lk_Lw_70 cd_Md_size (k_mSize1 l g ad (sLg z (nI R.2.1).toInt64) S E hmd hgo n R hn) rfl (by decide) sK_126 d_Lw_law_301 rfl rfl (by decide) (by simp [Value.category]) ?_
  rintro _ w2 ⟨rfl, hw2⟩
  have hcode : w2.1 126 0 = 0 := by rw [hw2, sI_eq]
  have hlong : w2.2.2 0 = (nI R.2.1).toInt64 := by rw [hw2]; exact sLg_0
  refine hB2.istore d_Lw_law_304 (Nat.le_of_ble_eq_true rfl) ?_
  refine hB2.aload_n d_Lw_law_306 rfl ?_
  refine hB2.callV lk_Lw_56 cd_Md_thrown (k_Md_thrown l g ad w2) rfl (by decide) sK_126 d_Lw_law_307 rfl rfl (by decide) (by simp [Value.category]) ?_
  rintro _ w9 ⟨rfl, hw9⟩
  have hw8 := hw9.symm
  clear hw9
  subst hw8
  refine hB2.iload d_Lw_law_310 rfl ?_
  rw [hcode]
  refine hB2.icmp_eq d_Lw_law_312 (tgt := 317) rfl (fun q312 => ?_) (fun q312 => absurd rfl q312)
  refine hB2.iload d_Lw_law_317 rfl ?_
  refine hB2.if_ne d_Lw_law_319 (tgt := 334) rfl (fun q319 => absurd rfl q319) (fun q319 => ?_)
  refine hB2.aload_n d_Lw_law_322 rfl ?_
  refine hB2.iconst d_Lw_law_323 (v := 0) rfl ?_
  refine hB2.lald d_Lw_law_324 (by decide) rfl ?_
  refine hB2.iload d_Lw_law_325 rfl ?_
  refine hB2.i2l d_Lw_law_327 rfl ?_
  refine hB2.lcmp d_Lw_law_328 ?_
  rw [hlong, lcmp0]
  refine hB2.if_eq d_Lw_law_329 (tgt := 334) rfl (fun q329 => ?_) (fun q329 => absurd rfl q329)
  refine hB2.goto d_Lw_law_334 (tgt := 542) rfl ?_
  rw [hw2]
  exact hN _ S E (c9 + 1) (s9 + 6) _ _ ⟨clA.frL (z := sLg z (nI R.2.1).toInt64) hcl frL_code, mdA.code (z := sLg z (nI R.2.1).toInt64) hmd _, hgo, hr0⟩ (by omega) (by omega) (by omega)
set_option maxRecDepth 100000 in
set_option maxHeartbeats 1000000 in
theorem st_6x (l : Launch) (htl : l.stackTraces = false) {J : mJt} {g : mG} {b len : Nat} {xs : Nat → Int32} (hL : lB l J room_1 g b len xs) (ad : Nat → Nat) (hj : sJn ad) (z : sT) (S : gS) (E c9 s9 k : Nat) (l5 l6 : Option Value) (hW : wld z S E) (hE9 : E < 520) (hlen : len ≤ 2560) (hk : 5 * k + 5 ≤ len) (hc : c9 + 1 ≤ room_1.cells) (hs : s9 + 6 ≤ room_1.slots) (hN : lNx J ad g b k E c9 s9) (hx : fWi (xs (5 * k + 1)) 0 (nI (gMs S).length - 1) = 0) : lK J ad g c9 s9 337 [some (.ref b), some (.ref (ad 0)), some (.ref (ad 126)), some (.ref (ad 144)), some (.int (nI (5 * k))), l5, l6] [] z := by
  have hB := hL.sb hj (Nat.le_trans (Nat.le_add_right c9 1) hc) (Nat.le_trans (Nat.le_add_right s9 6) hs)
  have hB2 := hL.sb hj hc hs
  obtain ⟨hcl, hmd, hgo, hr0⟩ := id hW
  refine hB.aload_n d_Lw_law_337 rfl ?_
  refine hB.aload_n d_Lw_law_338 rfl ?_
  refine hB.iload d_Lw_law_339 rfl ?_
  refine hB.iconst d_Lw_law_341 (v := 1) rfl ?_
  refine hB.iadd d_Lw_law_342 ?_
  refine hL.ldK d_Lw_law_343 (nI_add (5 * k) 1) (by omega) (by omega) ?_
  refine hB.aload_n d_Lw_law_344 rfl ?_
  refine hB.iload d_Lw_law_345 rfl ?_
  refine hB.iconst d_Lw_law_347 (v := 2) rfl ?_
  refine hB.iadd d_Lw_law_348 ?_
  refine hL.ldK d_Lw_law_349 (nI_add (5 * k) 2) (by omega) (by omega) ?_
  refine hB.aload_n d_Lw_law_350 rfl ?_
  refine hL.callK hj (rest := []) lk_Lw_71 hw_at (h_at_x1 l g ad z (xs (5 * k + 1)) (xs (5 * k + 2)) (x_at1 l htl g ad z S hcl _ _ hx)) d_Lw_law_351 rfl rfl (by decide) (by decide) ⟨hc, hs⟩ ?_
  rintro _ w1 ⟨rfl, hw1⟩
  have hw0 := hw1.symm; subst hw0
  refine hB2.istore d_Lw_law_354 (Nat.le_of_ble_eq_true rfl) ?_
  refine hB2.aload_n d_Lw_law_356 rfl ?_
  refine hB2.aload_n d_Lw_law_357 rfl ?_
  refine hB2.iload d_Lw_law_358 rfl ?_
  refine hB2.iconst d_Lw_law_360 (v := 1) rfl ?_
  refine hB2.iadd d_Lw_law_361 ?_
  refine hL.ldK d_Lw_law_362 (nI_add (5 * k) 1) (by omega) (by omega) ?_
  refine hB2.aload_n d_Lw_law_363 rfl ?_
  refine hB2.iload d_Lw_law_364 rfl ?_
  refine hB2.iconst d_Lw_law_366 (v := 2) rfl ?_
  refine hB2.iadd d_Lw_law_367 ?_
  refine hL.ldK d_Lw_law_368 (nI_add (5 * k) 2) (by omega) (by omega) ?_
  refine hB2.callV lk_Lw_74 cd_Md_at (k_mAt0 l g ad z S E hmd hgo (xs (5 * k + 1)) (xs (5 * k + 2)) hx) rfl (by decide) sK_126 d_Lw_law_369 rfl rfl (by decide) (by simp [Value.category]) ?_
  rintro _ w2 ⟨rfl, hw2⟩
  have hcode : w2.1 126 0 = 1 := by rw [hw2, sI_eq]
  refine hB2.istore d_Lw_law_372 (Nat.le_of_ble_eq_true rfl) ?_
  refine hB2.aload_n d_Lw_law_374 rfl ?_
  refine hB2.callV lk_Lw_56 cd_Md_thrown (k_Md_thrown l g ad w2) rfl (by decide) sK_126 d_Lw_law_375 rfl rfl (by decide) (by simp [Value.category]) ?_
  rintro _ w9 ⟨rfl, hw9⟩
  have hw8 := hw9.symm
  clear hw9
  subst hw8
  refine hB2.iload d_Lw_law_378 rfl ?_
  rw [hcode]
  refine hB2.icmp_eq d_Lw_law_380 (tgt := 385) rfl (fun q380 => ?_) (fun q380 => absurd rfl q380)
  refine hB2.iload d_Lw_law_385 rfl ?_
  refine hB2.if_ne d_Lw_law_387 (tgt := 402) rfl (fun q387 => ?_) (fun q387 => absurd q387 (by decide))
  refine hB2.goto d_Lw_law_402 (tgt := 542) rfl ?_
  rw [hw2]
  exact hN _ S E (c9 + 1) (s9 + 6) _ _ ⟨hcl.frL frL_code, hmd.code _, hgo, hr0⟩ (by omega) (by omega) (by omega)
set_option maxRecDepth 100000 in
set_option maxHeartbeats 1000000 in
theorem st_6y (l : Launch) (htl : l.stackTraces = false) {J : mJt} {g : mG} {b len : Nat} {xs : Nat → Int32} (hL : lB l J room_1 g b len xs) (ad : Nat → Nat) (hj : sJn ad) (z : sT) (S : gS) (E c9 s9 k : Nat) (l5 l6 : Option Value) (hW : wld z S E) (hE9 : E < 520) (hlen : len ≤ 2560) (hk : 5 * k + 5 ≤ len) (hc : c9 + 1 ≤ room_1.cells) (hs : s9 + 6 ≤ room_1.slots) (hN : lNx J ad g b k E c9 s9) (n : Nat) (R : rR) (hn : (gMs S)[n]? = some R) (hx : (xs (5 * k + 1)) = nI n) (hy : fWi (xs (5 * k + 2)) 0 (nI R.2.1 - 1) = 0) : lK J ad g c9 s9 337 [some (.ref b), some (.ref (ad 0)), some (.ref (ad 126)), some (.ref (ad 144)), some (.int (nI (5 * k))), l5, l6] [] z := by
  have hB := hL.sb hj (Nat.le_trans (Nat.le_add_right c9 1) hc) (Nat.le_trans (Nat.le_add_right s9 6) hs)
  have hB2 := hL.sb hj hc hs
  obtain ⟨hcl, hmd, hgo, hr0⟩ := id hW
  refine hB.aload_n d_Lw_law_337 rfl ?_
  refine hB.aload_n d_Lw_law_338 rfl ?_
  refine hB.iload d_Lw_law_339 rfl ?_
  refine hB.iconst d_Lw_law_341 (v := 1) rfl ?_
  refine hB.iadd d_Lw_law_342 ?_
  refine hL.ldK d_Lw_law_343 (nI_add (5 * k) 1) (by omega) (by omega) ?_
  refine hB.aload_n d_Lw_law_344 rfl ?_
  refine hB.iload d_Lw_law_345 rfl ?_
  refine hB.iconst d_Lw_law_347 (v := 2) rfl ?_
  refine hB.iadd d_Lw_law_348 ?_
  refine hL.ldK d_Lw_law_349 (nI_add (5 * k) 2) (by omega) (by omega) ?_
  refine hB.aload_n d_Lw_law_350 rfl ?_
  rw [hx]
  refine hL.callK hj (rest := []) lk_Lw_71 hw_at (h_at_x1 l g ad z (nI n) (xs (5 * k + 2)) (x_at2 l htl g ad z S hcl n _ R hn hy)) d_Lw_law_351 rfl rfl (by decide) (by decide) ⟨hc, hs⟩ ?_
  rintro _ w1 ⟨rfl, hw1⟩
  have hw0 := hw1.symm; subst hw0
  refine hB2.istore d_Lw_law_354 (Nat.le_of_ble_eq_true rfl) ?_
  refine hB2.aload_n d_Lw_law_356 rfl ?_
  refine hB2.aload_n d_Lw_law_357 rfl ?_
  refine hB2.iload d_Lw_law_358 rfl ?_
  refine hB2.iconst d_Lw_law_360 (v := 1) rfl ?_
  refine hB2.iadd d_Lw_law_361 ?_
  refine hL.ldK d_Lw_law_362 (nI_add (5 * k) 1) (by omega) (by omega) ?_
  refine hB2.aload_n d_Lw_law_363 rfl ?_
  refine hB2.iload d_Lw_law_364 rfl ?_
  refine hB2.iconst d_Lw_law_366 (v := 2) rfl ?_
  refine hB2.iadd d_Lw_law_367 ?_
  refine hL.ldK d_Lw_law_368 (nI_add (5 * k) 2) (by omega) (by omega) ?_
  rw [hx]
  refine hB2.callV lk_Lw_74 cd_Md_at (k_mAt2 l g ad z S E hmd hgo n (xs (5 * k + 2)) R hn hy) rfl (by decide) sK_126 d_Lw_law_369 rfl rfl (by decide) (by simp [Value.category]) ?_
  rintro _ w2 ⟨rfl, hw2⟩
  have hcode : w2.1 126 0 = 1 := by rw [hw2, sI_eq]
  refine hB2.istore d_Lw_law_372 (Nat.le_of_ble_eq_true rfl) ?_
  refine hB2.aload_n d_Lw_law_374 rfl ?_
  refine hB2.callV lk_Lw_56 cd_Md_thrown (k_Md_thrown l g ad w2) rfl (by decide) sK_126 d_Lw_law_375 rfl rfl (by decide) (by simp [Value.category]) ?_
  rintro _ w9 ⟨rfl, hw9⟩
  have hw8 := hw9.symm
  clear hw9
  subst hw8
  refine hB2.iload d_Lw_law_378 rfl ?_
  rw [hcode]
  refine hB2.icmp_eq d_Lw_law_380 (tgt := 385) rfl (fun q380 => ?_) (fun q380 => absurd rfl q380)
  refine hB2.iload d_Lw_law_385 rfl ?_
  refine hB2.if_ne d_Lw_law_387 (tgt := 402) rfl (fun q387 => ?_) (fun q387 => absurd q387 (by decide))
  refine hB2.goto d_Lw_law_402 (tgt := 542) rfl ?_
  rw [hw2]
  exact hN _ S E (c9 + 1) (s9 + 6) _ _ ⟨hcl.frL frL_code, hmd.code _, hgo, hr0⟩ (by omega) (by omega) (by omega)
set_option maxRecDepth 100000 in
set_option maxHeartbeats 1000000 in
theorem st_6r (l : Launch) (htl : l.stackTraces = false) {J : mJt} {g : mG} {b len : Nat} {xs : Nat → Int32} (hL : lB l J room_1 g b len xs) (ad : Nat → Nat) (hj : sJn ad) (z : sT) (S : gS) (E c9 s9 k : Nat) (l5 l6 : Option Value) (hW : wld z S E) (hE9 : E < 520) (hlen : len ≤ 2560) (hk : 5 * k + 5 ≤ len) (hc : c9 + 1 ≤ room_1.cells) (hs : s9 + 6 ≤ room_1.slots) (hN : lNx J ad g b k E c9 s9) (n p : Nat) (R : rR) (hn : (gMs S)[n]? = some R) (hx : (xs (5 * k + 1)) = nI n) (hp : p < R.2.1) (hy : (xs (5 * k + 2)) = nI p) : lK J ad g c9 s9 337 [some (.ref b), some (.ref (ad 0)), some (.ref (ad 126)), some (.ref (ad 144)), some (.int (nI (5 * k))), l5, l6] [] z := by
  have hB := hL.sb hj (Nat.le_trans (Nat.le_add_right c9 1) hc) (Nat.le_trans (Nat.le_add_right s9 6) hs)
  have hB2 := hL.sb hj hc hs
  obtain ⟨hcl, hmd, hgo, hr0⟩ := id hW
  refine hB.aload_n d_Lw_law_337 rfl ?_
  refine hB.aload_n d_Lw_law_338 rfl ?_
  refine hB.iload d_Lw_law_339 rfl ?_
  refine hB.iconst d_Lw_law_341 (v := 1) rfl ?_
  refine hB.iadd d_Lw_law_342 ?_
  refine hL.ldK d_Lw_law_343 (nI_add (5 * k) 1) (by omega) (by omega) ?_
  refine hB.aload_n d_Lw_law_344 rfl ?_
  refine hB.iload d_Lw_law_345 rfl ?_
  refine hB.iconst d_Lw_law_347 (v := 2) rfl ?_
  refine hB.iadd d_Lw_law_348 ?_
  refine hL.ldK d_Lw_law_349 (nI_add (5 * k) 2) (by omega) (by omega) ?_
  refine hB.aload_n d_Lw_law_350 rfl ?_
  rw [hx, hy]
  refine hL.callK hj (rest := []) lk_Lw_71 hw_at (h_at_r l g ad z (nI n) (nI p) (by decide) (k_Pw_at l g ad z S hcl n p R hn hp)) d_Lw_law_351 rfl rfl (by decide) (by decide) ⟨hc, hs⟩ ?_
  rintro _ w9 ⟨rfl, w1, hw1, hw9⟩
  have hw0 := hw1.symm; subst hw0
  have hw8 := hw9.symm; subst hw8
  refine hB2.istore d_Lw_law_354 (Nat.le_of_ble_eq_true rfl) ?_
  refine hB2.aload_n d_Lw_law_356 rfl ?_
  refine hB2.aload_n d_Lw_law_357 rfl ?_
  refine hB2.iload d_Lw_law_358 rfl ?_
  refine hB2.iconst d_Lw_law_360 (v := 1) rfl ?_
  refine hB2.iadd d_Lw_law_361 ?_
  refine hL.ldK d_Lw_law_362 (nI_add (5 * k) 1) (by omega) (by omega) ?_
  refine hB2.aload_n d_Lw_law_363 rfl ?_
  refine hB2.iload d_Lw_law_364 rfl ?_
  refine hB2.iconst d_Lw_law_366 (v := 2) rfl ?_
  refine hB2.iadd d_Lw_law_367 ?_
  refine hL.ldK d_Lw_law_368 (nI_add (5 * k) 2) (by omega) (by omega) ?_
  rw [hx, hy]
  refine hB2.callV lk_Lw_74 cd_Md_at (k_mAt1 l g ad (sLg z (R.2.2.1 p).toInt64) S E hmd hgo n p R hn hp) rfl (by decide) sK_126 d_Lw_law_369 rfl rfl (by decide) (by simp [Value.category]) ?_
  rintro _ w2 ⟨rfl, hw2⟩
  have hcode : w2.1 126 0 = 0 := by rw [hw2, sI_eq]
  have hlong : w2.2.2 0 = (R.2.2.1 p).toInt64 := by rw [hw2]; exact sLg_0
  refine hB2.istore d_Lw_law_372 (Nat.le_of_ble_eq_true rfl) ?_
  refine hB2.aload_n d_Lw_law_374 rfl ?_
  refine hB2.callV lk_Lw_56 cd_Md_thrown (k_Md_thrown l g ad w2) rfl (by decide) sK_126 d_Lw_law_375 rfl rfl (by decide) (by simp [Value.category]) ?_
  rintro _ w9 ⟨rfl, hw9⟩
  have hw8 := hw9.symm
  clear hw9
  subst hw8
  refine hB2.iload d_Lw_law_378 rfl ?_
  rw [hcode]
  refine hB2.icmp_eq d_Lw_law_380 (tgt := 385) rfl (fun q380 => ?_) (fun q380 => absurd rfl q380)
  refine hB2.iload d_Lw_law_385 rfl ?_
  refine hB2.if_ne d_Lw_law_387 (tgt := 402) rfl (fun q387 => absurd rfl q387) (fun q387 => ?_)
  refine hB2.aload_n d_Lw_law_390 rfl ?_
  refine hB2.iconst d_Lw_law_391 (v := 0) rfl ?_
  refine hB2.lald d_Lw_law_392 (by decide) rfl ?_
  refine hB2.iload d_Lw_law_393 rfl ?_
  refine hB2.i2l d_Lw_law_395 rfl ?_
  refine hB2.lcmp d_Lw_law_396 ?_
  rw [hlong, lcmp0]
  refine hB2.if_eq d_Lw_law_397 (tgt := 402) rfl (fun q397 => ?_) (fun q397 => absurd rfl q397)
  refine hB2.goto d_Lw_law_402 (tgt := 542) rfl ?_
  rw [hw2]
  exact hN _ S E (c9 + 1) (s9 + 6) _ _ ⟨clA.frL (z := sLg z (R.2.2.1 p).toInt64) hcl frL_code, mdA.code (z := sLg z (R.2.2.1 p).toInt64) hmd _, hgo, hr0⟩ (by omega) (by omega) (by omega)
set_option maxRecDepth 100000 in
set_option maxHeartbeats 1000000 in
theorem st_8x (l : Launch) (htl : l.stackTraces = false) {J : mJt} {g : mG} {b len : Nat} {xs : Nat → Int32} (hL : lB l J room_1 g b len xs) (ad : Nat → Nat) (hj : sJn ad) (z : sT) (S : gS) (E c9 s9 k : Nat) (l5 l6 : Option Value) (hW : wld z S E) (hE9 : E < 520) (hlen : len ≤ 2560) (hk : 5 * k + 5 ≤ len) (hc : c9 + 1 ≤ room_1.cells) (hs : s9 + 6 ≤ room_1.slots) (hN : lNx J ad g b k E c9 s9) (hx : fWi (xs (5 * k + 1)) 0 (nI (gRs S).length - 1) = 0) : lK J ad g c9 s9 418 [some (.ref b), some (.ref (ad 0)), some (.ref (ad 126)), some (.ref (ad 144)), some (.int (nI (5 * k))), l5, l6] [] z := by
  have hB := hL.sb hj (Nat.le_trans (Nat.le_add_right c9 1) hc) (Nat.le_trans (Nat.le_add_right s9 6) hs)
  have hB2 := hL.sb hj hc hs
  obtain ⟨hcl, hmd, hgo, hr0⟩ := id hW
  refine hB.aload_n d_Lw_law_418 rfl ?_
  refine hB.aload_n d_Lw_law_419 rfl ?_
  refine hB.iload d_Lw_law_420 rfl ?_
  refine hB.iconst d_Lw_law_422 (v := 1) rfl ?_
  refine hB.iadd d_Lw_law_423 ?_
  refine hL.ldK d_Lw_law_424 (nI_add (5 * k) 1) (by omega) (by omega) ?_
  refine hB.aload_n d_Lw_law_425 rfl ?_
  refine hB.iload d_Lw_law_426 rfl ?_
  refine hB.iconst d_Lw_law_428 (v := 2) rfl ?_
  refine hB.iadd d_Lw_law_429 ?_
  refine hL.ldK d_Lw_law_430 (nI_add (5 * k) 2) (by omega) (by omega) ?_
  refine hB.aload_n d_Lw_law_431 rfl ?_
  refine hL.callK hj (rest := []) lk_Lw_79 hw_run (h_run_x1 l g ad z (xs (5 * k + 1)) (xs (5 * k + 2)) (x_run1 l htl g ad z S hcl _ _ hx)) d_Lw_law_432 rfl rfl (by decide) (by decide) ⟨hc, hs⟩ ?_
  rintro _ w1 ⟨rfl, hw1⟩
  have hw0 := hw1.symm; subst hw0
  refine hB2.istore d_Lw_law_435 (Nat.le_of_ble_eq_true rfl) ?_
  refine hB2.aload_n d_Lw_law_437 rfl ?_
  refine hB2.aload_n d_Lw_law_438 rfl ?_
  refine hB2.iload d_Lw_law_439 rfl ?_
  refine hB2.iconst d_Lw_law_441 (v := 1) rfl ?_
  refine hB2.iadd d_Lw_law_442 ?_
  refine hL.ldK d_Lw_law_443 (nI_add (5 * k) 1) (by omega) (by omega) ?_
  refine hB2.aload_n d_Lw_law_444 rfl ?_
  refine hB2.iload d_Lw_law_445 rfl ?_
  refine hB2.iconst d_Lw_law_447 (v := 2) rfl ?_
  refine hB2.iadd d_Lw_law_448 ?_
  refine hL.ldK d_Lw_law_449 (nI_add (5 * k) 2) (by omega) (by omega) ?_
  refine hB2.callV lk_Lw_81 cd_Md_run (k_mRun0 l g ad z S E hmd hgo (xs (5 * k + 1)) (xs (5 * k + 2)) hx) rfl (by decide) sK_126 d_Lw_law_450 rfl rfl (by decide) (by simp [Value.category]) ?_
  rintro _ w2 ⟨rfl, hw2⟩
  have hcode : w2.1 126 0 = 1 := by rw [hw2, sI_eq]
  refine hB2.istore d_Lw_law_453 (Nat.le_of_ble_eq_true rfl) ?_
  refine hB2.aload_n d_Lw_law_455 rfl ?_
  refine hB2.callV lk_Lw_56 cd_Md_thrown (k_Md_thrown l g ad w2) rfl (by decide) sK_126 d_Lw_law_456 rfl rfl (by decide) (by simp [Value.category]) ?_
  rintro _ w9 ⟨rfl, hw9⟩
  have hw8 := hw9.symm
  clear hw9
  subst hw8
  refine hB2.iload d_Lw_law_459 rfl ?_
  rw [hcode]
  refine hB2.icmp_eq d_Lw_law_461 (tgt := 466) rfl (fun q461 => ?_) (fun q461 => absurd rfl q461)
  refine hB2.iload d_Lw_law_466 rfl ?_
  refine hB2.if_ne d_Lw_law_468 (tgt := 483) rfl (fun q468 => ?_) (fun q468 => absurd q468 (by decide))
  refine hB2.goto d_Lw_law_483 (tgt := 542) rfl ?_
  rw [hw2]
  exact hN _ S E (c9 + 1) (s9 + 6) _ _ ⟨hcl.frL frL_code, hmd.code _, hgo, hr0⟩ (by omega) (by omega) (by omega)
set_option maxRecDepth 100000 in
set_option maxHeartbeats 1000000 in
theorem st_8y (l : Launch) (htl : l.stackTraces = false) {J : mJt} {g : mG} {b len : Nat} {xs : Nat → Int32} (hL : lB l J room_1 g b len xs) (ad : Nat → Nat) (hj : sJn ad) (z : sT) (S : gS) (E c9 s9 k : Nat) (l5 l6 : Option Value) (hW : wld z S E) (hE9 : E < 520) (hlen : len ≤ 2560) (hk : 5 * k + 5 ≤ len) (hc : c9 + 1 ≤ room_1.cells) (hs : s9 + 6 ≤ room_1.slots) (hN : lNx J ad g b k E c9 s9) (n : Nat) (R : rR) (hn : (gRs S)[n]? = some R) (hx : (xs (5 * k + 1)) = nI n) (hy : fWi (xs (5 * k + 2)) 0 3 = 0) : lK J ad g c9 s9 418 [some (.ref b), some (.ref (ad 0)), some (.ref (ad 126)), some (.ref (ad 144)), some (.int (nI (5 * k))), l5, l6] [] z := by
  have hB := hL.sb hj (Nat.le_trans (Nat.le_add_right c9 1) hc) (Nat.le_trans (Nat.le_add_right s9 6) hs)
  have hB2 := hL.sb hj hc hs
  obtain ⟨hcl, hmd, hgo, hr0⟩ := id hW
  refine hB.aload_n d_Lw_law_418 rfl ?_
  refine hB.aload_n d_Lw_law_419 rfl ?_
  refine hB.iload d_Lw_law_420 rfl ?_
  refine hB.iconst d_Lw_law_422 (v := 1) rfl ?_
  refine hB.iadd d_Lw_law_423 ?_
  refine hL.ldK d_Lw_law_424 (nI_add (5 * k) 1) (by omega) (by omega) ?_
  refine hB.aload_n d_Lw_law_425 rfl ?_
  refine hB.iload d_Lw_law_426 rfl ?_
  refine hB.iconst d_Lw_law_428 (v := 2) rfl ?_
  refine hB.iadd d_Lw_law_429 ?_
  refine hL.ldK d_Lw_law_430 (nI_add (5 * k) 2) (by omega) (by omega) ?_
  refine hB.aload_n d_Lw_law_431 rfl ?_
  rw [hx]
  refine hL.callK hj (rest := []) lk_Lw_79 hw_run (h_run_x2 l g ad z (nI n) (xs (5 * k + 2)) (x_run2 l htl g ad z S hcl n _ R hn hy)) d_Lw_law_432 rfl rfl (by decide) (by decide) ⟨hc, hs⟩ ?_
  rintro _ w1 ⟨rfl, hw1⟩
  have hw0 := hw1.symm; subst hw0
  refine hB2.istore d_Lw_law_435 (Nat.le_of_ble_eq_true rfl) ?_
  refine hB2.aload_n d_Lw_law_437 rfl ?_
  refine hB2.aload_n d_Lw_law_438 rfl ?_
  refine hB2.iload d_Lw_law_439 rfl ?_
  refine hB2.iconst d_Lw_law_441 (v := 1) rfl ?_
  refine hB2.iadd d_Lw_law_442 ?_
  refine hL.ldK d_Lw_law_443 (nI_add (5 * k) 1) (by omega) (by omega) ?_
  refine hB2.aload_n d_Lw_law_444 rfl ?_
  refine hB2.iload d_Lw_law_445 rfl ?_
  refine hB2.iconst d_Lw_law_447 (v := 2) rfl ?_
  refine hB2.iadd d_Lw_law_448 ?_
  refine hL.ldK d_Lw_law_449 (nI_add (5 * k) 2) (by omega) (by omega) ?_
  rw [hx]
  refine hB2.callV lk_Lw_81 cd_Md_run (k_mRun2 l g ad z S E hmd hgo n (xs (5 * k + 2)) R hn hy) rfl (by decide) sK_126 d_Lw_law_450 rfl rfl (by decide) (by simp [Value.category]) ?_
  rintro _ w2 ⟨rfl, hw2⟩
  have hcode : w2.1 126 0 = 2 := by rw [hw2, sI_eq]
  refine hB2.istore d_Lw_law_453 (Nat.le_of_ble_eq_true rfl) ?_
  refine hB2.aload_n d_Lw_law_455 rfl ?_
  refine hB2.callV lk_Lw_56 cd_Md_thrown (k_Md_thrown l g ad w2) rfl (by decide) sK_126 d_Lw_law_456 rfl rfl (by decide) (by simp [Value.category]) ?_
  rintro _ w9 ⟨rfl, hw9⟩
  have hw8 := hw9.symm
  clear hw9
  subst hw8
  refine hB2.iload d_Lw_law_459 rfl ?_
  rw [hcode]
  refine hB2.icmp_eq d_Lw_law_461 (tgt := 466) rfl (fun q461 => ?_) (fun q461 => absurd rfl q461)
  refine hB2.iload d_Lw_law_466 rfl ?_
  refine hB2.if_ne d_Lw_law_468 (tgt := 483) rfl (fun q468 => ?_) (fun q468 => absurd q468 (by decide))
  refine hB2.goto d_Lw_law_483 (tgt := 542) rfl ?_
  rw [hw2]
  exact hN _ S E (c9 + 1) (s9 + 6) _ _ ⟨hcl.frL frL_code, hmd.code _, hgo, hr0⟩ (by omega) (by omega) (by omega)
set_option maxRecDepth 100000 in
set_option maxHeartbeats 1000000 in
theorem st_8r0 (l : Launch) (htl : l.stackTraces = false) {J : mJt} {g : mG} {b len : Nat} {xs : Nat → Int32} (hL : lB l J room_1 g b len xs) (ad : Nat → Nat) (hj : sJn ad) (z : sT) (S : gS) (E c9 s9 k : Nat) (l5 l6 : Option Value) (hW : wld z S E) (hE9 : E < 520) (hlen : len ≤ 2560) (hk : 5 * k + 5 ≤ len) (hc : c9 + 1 ≤ room_1.cells) (hs : s9 + 6 ≤ room_1.slots) (hN : lNx J ad g b k E c9 s9) (n : Nat) (R : rR) (hn : (gRs S)[n]? = some R) (hx : (xs (5 * k + 1)) = nI n) (hy : (xs (5 * k + 2)) = nI 0) : lK J ad g c9 s9 418 [some (.ref b), some (.ref (ad 0)), some (.ref (ad 126)), some (.ref (ad 144)), some (.int (nI (5 * k))), l5, l6] [] z := by
  have hB := hL.sb hj (Nat.le_trans (Nat.le_add_right c9 1) hc) (Nat.le_trans (Nat.le_add_right s9 6) hs)
  have hB2 := hL.sb hj hc hs
  obtain ⟨hcl, hmd, hgo, hr0⟩ := id hW
  refine hB.aload_n d_Lw_law_418 rfl ?_
  refine hB.aload_n d_Lw_law_419 rfl ?_
  refine hB.iload d_Lw_law_420 rfl ?_
  refine hB.iconst d_Lw_law_422 (v := 1) rfl ?_
  refine hB.iadd d_Lw_law_423 ?_
  refine hL.ldK d_Lw_law_424 (nI_add (5 * k) 1) (by omega) (by omega) ?_
  refine hB.aload_n d_Lw_law_425 rfl ?_
  refine hB.iload d_Lw_law_426 rfl ?_
  refine hB.iconst d_Lw_law_428 (v := 2) rfl ?_
  refine hB.iadd d_Lw_law_429 ?_
  refine hL.ldK d_Lw_law_430 (nI_add (5 * k) 2) (by omega) (by omega) ?_
  refine hB.aload_n d_Lw_law_431 rfl ?_
  rw [hx, hy]
  refine hL.callK hj (rest := []) lk_Lw_79 hw_run (h_run_r l g ad z (nI n) (nI 0) (by decide) (k_Pw_run l g ad z S hcl n 0 R hn (by decide))) d_Lw_law_432 rfl rfl (by decide) (by decide) ⟨hc, hs⟩ ?_
  rintro _ w9 ⟨rfl, w1, hw1, hw9⟩
  have hw0 := hw1.symm; subst hw0
  have hw8 := hw9.symm; subst hw8
  refine hB2.istore d_Lw_law_435 (Nat.le_of_ble_eq_true rfl) ?_
  refine hB2.aload_n d_Lw_law_437 rfl ?_
  refine hB2.aload_n d_Lw_law_438 rfl ?_
  refine hB2.iload d_Lw_law_439 rfl ?_
  refine hB2.iconst d_Lw_law_441 (v := 1) rfl ?_
  refine hB2.iadd d_Lw_law_442 ?_
  refine hL.ldK d_Lw_law_443 (nI_add (5 * k) 1) (by omega) (by omega) ?_
  refine hB2.aload_n d_Lw_law_444 rfl ?_
  refine hB2.iload d_Lw_law_445 rfl ?_
  refine hB2.iconst d_Lw_law_447 (v := 2) rfl ?_
  refine hB2.iadd d_Lw_law_448 ?_
  refine hL.ldK d_Lw_law_449 (nI_add (5 * k) 2) (by omega) (by omega) ?_
  rw [hx, hy]
  refine hB2.callV lk_Lw_81 cd_Md_run (k_mRun1_0 l g ad (sLg z (gRun R 0).toInt64) S E hmd hgo n R hn) rfl (by decide) sK_126 d_Lw_law_450 rfl rfl (by decide) (by simp [Value.category]) ?_
  rintro _ w2 ⟨rfl, hw2⟩
  have hcode : w2.1 126 0 = 0 := by rw [hw2, sI_eq]
  have hlong : w2.2.2 0 = (gRun R 0).toInt64 := by rw [hw2]; exact sLg_0
  refine hB2.istore d_Lw_law_453 (Nat.le_of_ble_eq_true rfl) ?_
  refine hB2.aload_n d_Lw_law_455 rfl ?_
  refine hB2.callV lk_Lw_56 cd_Md_thrown (k_Md_thrown l g ad w2) rfl (by decide) sK_126 d_Lw_law_456 rfl rfl (by decide) (by simp [Value.category]) ?_
  rintro _ w9 ⟨rfl, hw9⟩
  have hw8 := hw9.symm
  clear hw9
  subst hw8
  refine hB2.iload d_Lw_law_459 rfl ?_
  rw [hcode]
  refine hB2.icmp_eq d_Lw_law_461 (tgt := 466) rfl (fun q461 => ?_) (fun q461 => absurd rfl q461)
  refine hB2.iload d_Lw_law_466 rfl ?_
  refine hB2.if_ne d_Lw_law_468 (tgt := 483) rfl (fun q468 => absurd rfl q468) (fun q468 => ?_)
  refine hB2.aload_n d_Lw_law_471 rfl ?_
  refine hB2.iconst d_Lw_law_472 (v := 0) rfl ?_
  refine hB2.lald d_Lw_law_473 (by decide) rfl ?_
  refine hB2.iload d_Lw_law_474 rfl ?_
  refine hB2.i2l d_Lw_law_476 rfl ?_
  refine hB2.lcmp d_Lw_law_477 ?_
  rw [hlong, lcmp0]
  refine hB2.if_eq d_Lw_law_478 (tgt := 483) rfl (fun q478 => ?_) (fun q478 => absurd rfl q478)
  refine hB2.goto d_Lw_law_483 (tgt := 542) rfl ?_
  rw [hw2]
  exact hN _ S E (c9 + 1) (s9 + 6) _ _ ⟨clA.frL (z := sLg z (gRun R 0).toInt64) hcl frL_code, mdA.code (z := sLg z (gRun R 0).toInt64) hmd _, hgo, hr0⟩ (by omega) (by omega) (by omega)
set_option maxRecDepth 100000 in
set_option maxHeartbeats 1000000 in
theorem st_8r1 (l : Launch) (htl : l.stackTraces = false) {J : mJt} {g : mG} {b len : Nat} {xs : Nat → Int32} (hL : lB l J room_1 g b len xs) (ad : Nat → Nat) (hj : sJn ad) (z : sT) (S : gS) (E c9 s9 k : Nat) (l5 l6 : Option Value) (hW : wld z S E) (hE9 : E < 520) (hlen : len ≤ 2560) (hk : 5 * k + 5 ≤ len) (hc : c9 + 1 ≤ room_1.cells) (hs : s9 + 6 ≤ room_1.slots) (hN : lNx J ad g b k E c9 s9) (n : Nat) (R : rR) (hn : (gRs S)[n]? = some R) (hx : (xs (5 * k + 1)) = nI n) (hy : (xs (5 * k + 2)) = nI 1) : lK J ad g c9 s9 418 [some (.ref b), some (.ref (ad 0)), some (.ref (ad 126)), some (.ref (ad 144)), some (.int (nI (5 * k))), l5, l6] [] z := by
  have hB := hL.sb hj (Nat.le_trans (Nat.le_add_right c9 1) hc) (Nat.le_trans (Nat.le_add_right s9 6) hs)
  have hB2 := hL.sb hj hc hs
  obtain ⟨hcl, hmd, hgo, hr0⟩ := id hW
  refine hB.aload_n d_Lw_law_418 rfl ?_
  refine hB.aload_n d_Lw_law_419 rfl ?_
  refine hB.iload d_Lw_law_420 rfl ?_
  refine hB.iconst d_Lw_law_422 (v := 1) rfl ?_
  refine hB.iadd d_Lw_law_423 ?_
  refine hL.ldK d_Lw_law_424 (nI_add (5 * k) 1) (by omega) (by omega) ?_
  refine hB.aload_n d_Lw_law_425 rfl ?_
  refine hB.iload d_Lw_law_426 rfl ?_
  refine hB.iconst d_Lw_law_428 (v := 2) rfl ?_
  refine hB.iadd d_Lw_law_429 ?_
  refine hL.ldK d_Lw_law_430 (nI_add (5 * k) 2) (by omega) (by omega) ?_
  refine hB.aload_n d_Lw_law_431 rfl ?_
  rw [hx, hy]
  refine hL.callK hj (rest := []) lk_Lw_79 hw_run (h_run_r l g ad z (nI n) (nI 1) (by decide) (k_Pw_run l g ad z S hcl n 1 R hn (by decide))) d_Lw_law_432 rfl rfl (by decide) (by decide) ⟨hc, hs⟩ ?_
  rintro _ w9 ⟨rfl, w1, hw1, hw9⟩
  have hw0 := hw1.symm; subst hw0
  have hw8 := hw9.symm; subst hw8
  refine hB2.istore d_Lw_law_435 (Nat.le_of_ble_eq_true rfl) ?_
  refine hB2.aload_n d_Lw_law_437 rfl ?_
  refine hB2.aload_n d_Lw_law_438 rfl ?_
  refine hB2.iload d_Lw_law_439 rfl ?_
  refine hB2.iconst d_Lw_law_441 (v := 1) rfl ?_
  refine hB2.iadd d_Lw_law_442 ?_
  refine hL.ldK d_Lw_law_443 (nI_add (5 * k) 1) (by omega) (by omega) ?_
  refine hB2.aload_n d_Lw_law_444 rfl ?_
  refine hB2.iload d_Lw_law_445 rfl ?_
  refine hB2.iconst d_Lw_law_447 (v := 2) rfl ?_
  refine hB2.iadd d_Lw_law_448 ?_
  refine hL.ldK d_Lw_law_449 (nI_add (5 * k) 2) (by omega) (by omega) ?_
  rw [hx, hy]
  refine hB2.callV lk_Lw_81 cd_Md_run (k_mRun1_1 l g ad (sLg z (gRun R 1).toInt64) S E hmd hgo n R hn) rfl (by decide) sK_126 d_Lw_law_450 rfl rfl (by decide) (by simp [Value.category]) ?_
  rintro _ w2 ⟨rfl, hw2⟩
  have hcode : w2.1 126 0 = 0 := by rw [hw2, sI_eq]
  have hlong : w2.2.2 0 = (gRun R 1).toInt64 := by rw [hw2]; exact sLg_0
  refine hB2.istore d_Lw_law_453 (Nat.le_of_ble_eq_true rfl) ?_
  refine hB2.aload_n d_Lw_law_455 rfl ?_
  refine hB2.callV lk_Lw_56 cd_Md_thrown (k_Md_thrown l g ad w2) rfl (by decide) sK_126 d_Lw_law_456 rfl rfl (by decide) (by simp [Value.category]) ?_
  rintro _ w9 ⟨rfl, hw9⟩
  have hw8 := hw9.symm
  clear hw9
  subst hw8
  refine hB2.iload d_Lw_law_459 rfl ?_
  rw [hcode]
  refine hB2.icmp_eq d_Lw_law_461 (tgt := 466) rfl (fun q461 => ?_) (fun q461 => absurd rfl q461)
  refine hB2.iload d_Lw_law_466 rfl ?_
  refine hB2.if_ne d_Lw_law_468 (tgt := 483) rfl (fun q468 => absurd rfl q468) (fun q468 => ?_)
  refine hB2.aload_n d_Lw_law_471 rfl ?_
  refine hB2.iconst d_Lw_law_472 (v := 0) rfl ?_
  refine hB2.lald d_Lw_law_473 (by decide) rfl ?_
  refine hB2.iload d_Lw_law_474 rfl ?_
  refine hB2.i2l d_Lw_law_476 rfl ?_
  refine hB2.lcmp d_Lw_law_477 ?_
  rw [hlong, lcmp0]
  refine hB2.if_eq d_Lw_law_478 (tgt := 483) rfl (fun q478 => ?_) (fun q478 => absurd rfl q478)
  refine hB2.goto d_Lw_law_483 (tgt := 542) rfl ?_
  rw [hw2]
  exact hN _ S E (c9 + 1) (s9 + 6) _ _ ⟨clA.frL (z := sLg z (gRun R 1).toInt64) hcl frL_code, mdA.code (z := sLg z (gRun R 1).toInt64) hmd _, hgo, hr0⟩ (by omega) (by omega) (by omega)
set_option maxRecDepth 100000 in
set_option maxHeartbeats 1000000 in
theorem st_8r2 (l : Launch) (htl : l.stackTraces = false) {J : mJt} {g : mG} {b len : Nat} {xs : Nat → Int32} (hL : lB l J room_1 g b len xs) (ad : Nat → Nat) (hj : sJn ad) (z : sT) (S : gS) (E c9 s9 k : Nat) (l5 l6 : Option Value) (hW : wld z S E) (hE9 : E < 520) (hlen : len ≤ 2560) (hk : 5 * k + 5 ≤ len) (hc : c9 + 1 ≤ room_1.cells) (hs : s9 + 6 ≤ room_1.slots) (hN : lNx J ad g b k E c9 s9) (n : Nat) (R : rR) (hn : (gRs S)[n]? = some R) (hx : (xs (5 * k + 1)) = nI n) (hy : (xs (5 * k + 2)) = nI 2) : lK J ad g c9 s9 418 [some (.ref b), some (.ref (ad 0)), some (.ref (ad 126)), some (.ref (ad 144)), some (.int (nI (5 * k))), l5, l6] [] z := by
  have hB := hL.sb hj (Nat.le_trans (Nat.le_add_right c9 1) hc) (Nat.le_trans (Nat.le_add_right s9 6) hs)
  have hB2 := hL.sb hj hc hs
  obtain ⟨hcl, hmd, hgo, hr0⟩ := id hW
  refine hB.aload_n d_Lw_law_418 rfl ?_
  refine hB.aload_n d_Lw_law_419 rfl ?_
  refine hB.iload d_Lw_law_420 rfl ?_
  refine hB.iconst d_Lw_law_422 (v := 1) rfl ?_
  refine hB.iadd d_Lw_law_423 ?_
  refine hL.ldK d_Lw_law_424 (nI_add (5 * k) 1) (by omega) (by omega) ?_
  refine hB.aload_n d_Lw_law_425 rfl ?_
  refine hB.iload d_Lw_law_426 rfl ?_
  refine hB.iconst d_Lw_law_428 (v := 2) rfl ?_
  refine hB.iadd d_Lw_law_429 ?_
  refine hL.ldK d_Lw_law_430 (nI_add (5 * k) 2) (by omega) (by omega) ?_
  refine hB.aload_n d_Lw_law_431 rfl ?_
  rw [hx, hy]
  refine hL.callK hj (rest := []) lk_Lw_79 hw_run (h_run_r l g ad z (nI n) (nI 2) (by decide) (k_Pw_run l g ad z S hcl n 2 R hn (by decide))) d_Lw_law_432 rfl rfl (by decide) (by decide) ⟨hc, hs⟩ ?_
  rintro _ w9 ⟨rfl, w1, hw1, hw9⟩
  have hw0 := hw1.symm; subst hw0
  have hw8 := hw9.symm; subst hw8
  refine hB2.istore d_Lw_law_435 (Nat.le_of_ble_eq_true rfl) ?_
  refine hB2.aload_n d_Lw_law_437 rfl ?_
  refine hB2.aload_n d_Lw_law_438 rfl ?_
  refine hB2.iload d_Lw_law_439 rfl ?_
  refine hB2.iconst d_Lw_law_441 (v := 1) rfl ?_
  refine hB2.iadd d_Lw_law_442 ?_
  refine hL.ldK d_Lw_law_443 (nI_add (5 * k) 1) (by omega) (by omega) ?_
  refine hB2.aload_n d_Lw_law_444 rfl ?_
  refine hB2.iload d_Lw_law_445 rfl ?_
  refine hB2.iconst d_Lw_law_447 (v := 2) rfl ?_
  refine hB2.iadd d_Lw_law_448 ?_
  refine hL.ldK d_Lw_law_449 (nI_add (5 * k) 2) (by omega) (by omega) ?_
  rw [hx, hy]
  refine hB2.callV lk_Lw_81 cd_Md_run (k_mRun1_2 l g ad (sLg z (gRun R 2).toInt64) S E hmd hgo n R hn) rfl (by decide) sK_126 d_Lw_law_450 rfl rfl (by decide) (by simp [Value.category]) ?_
  rintro _ w2 ⟨rfl, hw2⟩
  have hcode : w2.1 126 0 = 0 := by rw [hw2, sI_eq]
  have hlong : w2.2.2 0 = (gRun R 2).toInt64 := by rw [hw2]; exact sLg_0
  refine hB2.istore d_Lw_law_453 (Nat.le_of_ble_eq_true rfl) ?_
  refine hB2.aload_n d_Lw_law_455 rfl ?_
  refine hB2.callV lk_Lw_56 cd_Md_thrown (k_Md_thrown l g ad w2) rfl (by decide) sK_126 d_Lw_law_456 rfl rfl (by decide) (by simp [Value.category]) ?_
  rintro _ w9 ⟨rfl, hw9⟩
  have hw8 := hw9.symm
  clear hw9
  subst hw8
  refine hB2.iload d_Lw_law_459 rfl ?_
  rw [hcode]
  refine hB2.icmp_eq d_Lw_law_461 (tgt := 466) rfl (fun q461 => ?_) (fun q461 => absurd rfl q461)
  refine hB2.iload d_Lw_law_466 rfl ?_
  refine hB2.if_ne d_Lw_law_468 (tgt := 483) rfl (fun q468 => absurd rfl q468) (fun q468 => ?_)
  refine hB2.aload_n d_Lw_law_471 rfl ?_
  refine hB2.iconst d_Lw_law_472 (v := 0) rfl ?_
  refine hB2.lald d_Lw_law_473 (by decide) rfl ?_
  refine hB2.iload d_Lw_law_474 rfl ?_
  refine hB2.i2l d_Lw_law_476 rfl ?_
  refine hB2.lcmp d_Lw_law_477 ?_
  rw [hlong, lcmp0]
  refine hB2.if_eq d_Lw_law_478 (tgt := 483) rfl (fun q478 => ?_) (fun q478 => absurd rfl q478)
  refine hB2.goto d_Lw_law_483 (tgt := 542) rfl ?_
  rw [hw2]
  exact hN _ S E (c9 + 1) (s9 + 6) _ _ ⟨clA.frL (z := sLg z (gRun R 2).toInt64) hcl frL_code, mdA.code (z := sLg z (gRun R 2).toInt64) hmd _, hgo, hr0⟩ (by omega) (by omega) (by omega)
set_option maxRecDepth 100000 in
set_option maxHeartbeats 1000000 in
theorem st_8r3 (l : Launch) (htl : l.stackTraces = false) {J : mJt} {g : mG} {b len : Nat} {xs : Nat → Int32} (hL : lB l J room_1 g b len xs) (ad : Nat → Nat) (hj : sJn ad) (z : sT) (S : gS) (E c9 s9 k : Nat) (l5 l6 : Option Value) (hW : wld z S E) (hE9 : E < 520) (hlen : len ≤ 2560) (hk : 5 * k + 5 ≤ len) (hc : c9 + 1 ≤ room_1.cells) (hs : s9 + 6 ≤ room_1.slots) (hN : lNx J ad g b k E c9 s9) (n : Nat) (R : rR) (hn : (gRs S)[n]? = some R) (hx : (xs (5 * k + 1)) = nI n) (hy : (xs (5 * k + 2)) = nI 3) : lK J ad g c9 s9 418 [some (.ref b), some (.ref (ad 0)), some (.ref (ad 126)), some (.ref (ad 144)), some (.int (nI (5 * k))), l5, l6] [] z := by
  have hB := hL.sb hj (Nat.le_trans (Nat.le_add_right c9 1) hc) (Nat.le_trans (Nat.le_add_right s9 6) hs)
  have hB2 := hL.sb hj hc hs
  obtain ⟨hcl, hmd, hgo, hr0⟩ := id hW
  refine hB.aload_n d_Lw_law_418 rfl ?_
  refine hB.aload_n d_Lw_law_419 rfl ?_
  refine hB.iload d_Lw_law_420 rfl ?_
  refine hB.iconst d_Lw_law_422 (v := 1) rfl ?_
  refine hB.iadd d_Lw_law_423 ?_
  refine hL.ldK d_Lw_law_424 (nI_add (5 * k) 1) (by omega) (by omega) ?_
  refine hB.aload_n d_Lw_law_425 rfl ?_
  refine hB.iload d_Lw_law_426 rfl ?_
  refine hB.iconst d_Lw_law_428 (v := 2) rfl ?_
  refine hB.iadd d_Lw_law_429 ?_
  refine hL.ldK d_Lw_law_430 (nI_add (5 * k) 2) (by omega) (by omega) ?_
  refine hB.aload_n d_Lw_law_431 rfl ?_
  rw [hx, hy]
  refine hL.callK hj (rest := []) lk_Lw_79 hw_run (h_run_r l g ad z (nI n) (nI 3) (by decide) (k_Pw_run l g ad z S hcl n 3 R hn (by decide))) d_Lw_law_432 rfl rfl (by decide) (by decide) ⟨hc, hs⟩ ?_
  rintro _ w9 ⟨rfl, w1, hw1, hw9⟩
  have hw0 := hw1.symm; subst hw0
  have hw8 := hw9.symm; subst hw8
  refine hB2.istore d_Lw_law_435 (Nat.le_of_ble_eq_true rfl) ?_
  refine hB2.aload_n d_Lw_law_437 rfl ?_
  refine hB2.aload_n d_Lw_law_438 rfl ?_
  refine hB2.iload d_Lw_law_439 rfl ?_
  refine hB2.iconst d_Lw_law_441 (v := 1) rfl ?_
  refine hB2.iadd d_Lw_law_442 ?_
  refine hL.ldK d_Lw_law_443 (nI_add (5 * k) 1) (by omega) (by omega) ?_
  refine hB2.aload_n d_Lw_law_444 rfl ?_
  refine hB2.iload d_Lw_law_445 rfl ?_
  refine hB2.iconst d_Lw_law_447 (v := 2) rfl ?_
  refine hB2.iadd d_Lw_law_448 ?_
  refine hL.ldK d_Lw_law_449 (nI_add (5 * k) 2) (by omega) (by omega) ?_
  rw [hx, hy]
  refine hB2.callV lk_Lw_81 cd_Md_run (k_mRun1_3 l g ad (sLg z (gRun R 3).toInt64) S E hmd hgo n R hn) rfl (by decide) sK_126 d_Lw_law_450 rfl rfl (by decide) (by simp [Value.category]) ?_
  rintro _ w2 ⟨rfl, hw2⟩
  have hcode : w2.1 126 0 = 0 := by rw [hw2, sI_eq]
  have hlong : w2.2.2 0 = (gRun R 3).toInt64 := by rw [hw2]; exact sLg_0
  refine hB2.istore d_Lw_law_453 (Nat.le_of_ble_eq_true rfl) ?_
  refine hB2.aload_n d_Lw_law_455 rfl ?_
  refine hB2.callV lk_Lw_56 cd_Md_thrown (k_Md_thrown l g ad w2) rfl (by decide) sK_126 d_Lw_law_456 rfl rfl (by decide) (by simp [Value.category]) ?_
  rintro _ w9 ⟨rfl, hw9⟩
  have hw8 := hw9.symm
  clear hw9
  subst hw8
  refine hB2.iload d_Lw_law_459 rfl ?_
  rw [hcode]
  refine hB2.icmp_eq d_Lw_law_461 (tgt := 466) rfl (fun q461 => ?_) (fun q461 => absurd rfl q461)
  refine hB2.iload d_Lw_law_466 rfl ?_
  refine hB2.if_ne d_Lw_law_468 (tgt := 483) rfl (fun q468 => absurd rfl q468) (fun q468 => ?_)
  refine hB2.aload_n d_Lw_law_471 rfl ?_
  refine hB2.iconst d_Lw_law_472 (v := 0) rfl ?_
  refine hB2.lald d_Lw_law_473 (by decide) rfl ?_
  refine hB2.iload d_Lw_law_474 rfl ?_
  refine hB2.i2l d_Lw_law_476 rfl ?_
  refine hB2.lcmp d_Lw_law_477 ?_
  rw [hlong, lcmp0]
  refine hB2.if_eq d_Lw_law_478 (tgt := 483) rfl (fun q478 => ?_) (fun q478 => absurd rfl q478)
  refine hB2.goto d_Lw_law_483 (tgt := 542) rfl ?_
  rw [hw2]
  exact hN _ S E (c9 + 1) (s9 + 6) _ _ ⟨clA.frL (z := sLg z (gRun R 3).toInt64) hcl frL_code, mdA.code (z := sLg z (gRun R 3).toInt64) hmd _, hgo, hr0⟩ (by omega) (by omega) (by omega)
set_option maxRecDepth 100000 in
set_option maxHeartbeats 1000000 in
theorem st_2x (l : Launch) (htl : l.stackTraces = false) {J : mJt} {g : mG} {b len : Nat} {xs : Nat → Int32} (hL : lB l J room_1 g b len xs) (ad : Nat → Nat) (hj : sJn ad) (z : sT) (S : gS) (E c9 s9 k : Nat) (l5 l6 : Option Value) (hW : wld z S E) (hE9 : E < 520) (hlen : len ≤ 2560) (hk : 5 * k + 5 ≤ len) (hc : c9 + 1 ≤ room_1.cells) (hs : s9 + 6 ≤ room_1.slots) (hN : lNx J ad g b k E c9 s9) (hok : (cRd (gTx S) (gN S)).1 = false) : lK J ad g c9 s9 130 [some (.ref b), some (.ref (ad 0)), some (.ref (ad 126)), some (.ref (ad 144)), some (.int (nI (5 * k))), l5, l6] [] z := by
  have hB := hL.sb hj (Nat.le_trans (Nat.le_add_right c9 1) hc) (Nat.le_trans (Nat.le_add_right s9 6) hs)
  have hB2 := hL.sb hj hc hs
  obtain ⟨hcl, hmd, hgo, hr0⟩ := id hW
  refine hB.aload_n d_Lw_law_130 rfl ?_
  refine hB.aload_n d_Lw_law_131 rfl ?_
  refine hL.callK hj (rest := []) lk_Lw_50 hw_load (h_load_x1 l g ad z (x_load l htl g ad z S hcl hok)) d_Lw_law_132 rfl rfl (by decide) (by decide) ⟨hc, hs⟩ ?_
  rintro _ w1 ⟨rfl, hc1, hf1⟩
  refine hB2.istore d_Lw_law_135 (Nat.le_of_ble_eq_true rfl) ?_
  refine hB2.aload_n d_Lw_law_137 rfl ?_
  refine hB2.callV lk_Lw_55 cd_Md_load (k_mLoad0 l g ad w1 S E (hmd.frC hf1) hgo hok) rfl (by decide) sK_126 d_Lw_law_138 rfl rfl (by decide) (by simp [Value.category]) ?_
  rintro _ w2 ⟨rfl, hcode, hm2, hf2⟩
  refine hB2.istore d_Lw_law_141 (Nat.le_of_ble_eq_true rfl) ?_
  refine hB2.aload_n d_Lw_law_143 rfl ?_
  refine hB2.callV lk_Lw_56 cd_Md_thrown (k_Md_thrown l g ad w2) rfl (by decide) sK_126 d_Lw_law_144 rfl rfl (by decide) (by simp [Value.category]) ?_
  rintro _ w9 ⟨rfl, hw9⟩
  have hw8 := hw9.symm
  clear hw9
  subst hw8
  refine hB2.iload d_Lw_law_147 rfl ?_
  rw [hcode]
  refine hB2.icmp_eq d_Lw_law_149 (tgt := 154) rfl (fun q149 => ?_) (fun q149 => absurd rfl q149)
  refine hB2.iload d_Lw_law_154 rfl ?_
  refine hB2.if_ne d_Lw_law_156 (tgt := 171) rfl (fun q156 => ?_) (fun q156 => absurd q156 (by decide))
  refine hB2.goto d_Lw_law_171 (tgt := 542) rfl ?_
  exact hN w2 (gNo S) E (c9 + 1) (s9 + 6) _ _ ⟨hc1.frL hf2, hm2, hgo.no, hr0⟩ (by omega) (by omega) (by omega)
set_option maxRecDepth 100000 in
set_option maxHeartbeats 1000000 in
theorem st_2r (l : Launch) (htl : l.stackTraces = false) {J : mJt} {g : mG} {b len : Nat} {xs : Nat → Int32} (hL : lB l J room_1 g b len xs) (ad : Nat → Nat) (hj : sJn ad) (z : sT) (S : gS) (E c9 s9 k : Nat) (l5 l6 : Option Value) (hW : wld z S E) (hE9 : E < 520) (hlen : len ≤ 2560) (hk : 5 * k + 5 ≤ len) (hc : c9 + 1 ≤ room_1.cells) (hs : s9 + 6 ≤ room_1.slots) (hN : lNx J ad g b k E c9 s9) (hok : (cRd (gTx S) (gN S)).1 = true) : lK J ad g c9 s9 130 [some (.ref b), some (.ref (ad 0)), some (.ref (ad 126)), some (.ref (ad 144)), some (.int (nI (5 * k))), l5, l6] [] z := by
  have hB := hL.sb hj (Nat.le_trans (Nat.le_add_right c9 1) hc) (Nat.le_trans (Nat.le_add_right s9 6) hs)
  have hB2 := hL.sb hj hc hs
  obtain ⟨hcl, hmd, hgo, hr0⟩ := id hW
  refine hB.aload_n d_Lw_law_130 rfl ?_
  refine hB.aload_n d_Lw_law_131 rfl ?_
  refine hL.callK hj (rest := []) lk_Lw_50 hw_load (h_load_r l g ad z (by decide) (k_Pw_load l g ad z S hcl hok)) d_Lw_law_132 rfl rfl (by decide) (by decide) ⟨hc, hs⟩ ?_
  rintro _ w9 ⟨rfl, w1, ⟨hc1, hf1⟩, hw9⟩
  have hw8 := hw9.symm; subst hw8
  refine hB2.istore d_Lw_law_135 (Nat.le_of_ble_eq_true rfl) ?_
  refine hB2.aload_n d_Lw_law_137 rfl ?_
  refine hB2.callV lk_Lw_55 cd_Md_load (k_mLoad1 l g ad (sLg w1 (nI (gSl (gLd S)).length).toInt64) S E (mdA.frC (w := sLg w1 (nI (gSl (gLd S)).length).toInt64) hmd hf1) hgo hok) rfl (by decide) sK_126 d_Lw_law_138 rfl rfl (by decide) (by simp [Value.category]) ?_
  rintro _ w2 ⟨rfl, hcode, hm2, hf2⟩
  have hlong : w2.2.2 0 = (nI (gSl (gLd S)).length).toInt64 := by rw [hf2.1]; exact sLg_0
  refine hB2.istore d_Lw_law_141 (Nat.le_of_ble_eq_true rfl) ?_
  refine hB2.aload_n d_Lw_law_143 rfl ?_
  refine hB2.callV lk_Lw_56 cd_Md_thrown (k_Md_thrown l g ad w2) rfl (by decide) sK_126 d_Lw_law_144 rfl rfl (by decide) (by simp [Value.category]) ?_
  rintro _ w9 ⟨rfl, hw9⟩
  have hw8 := hw9.symm
  clear hw9
  subst hw8
  refine hB2.iload d_Lw_law_147 rfl ?_
  rw [hcode]
  refine hB2.icmp_eq d_Lw_law_149 (tgt := 154) rfl (fun q149 => ?_) (fun q149 => absurd rfl q149)
  refine hB2.iload d_Lw_law_154 rfl ?_
  refine hB2.if_ne d_Lw_law_156 (tgt := 171) rfl (fun q156 => absurd rfl q156) (fun q156 => ?_)
  refine hB2.aload_n d_Lw_law_159 rfl ?_
  refine hB2.iconst d_Lw_law_160 (v := 0) rfl ?_
  refine hB2.lald d_Lw_law_161 (by decide) rfl ?_
  refine hB2.iload d_Lw_law_162 rfl ?_
  refine hB2.i2l d_Lw_law_164 rfl ?_
  refine hB2.lcmp d_Lw_law_165 ?_
  rw [hlong, lcmp0]
  refine hB2.if_eq d_Lw_law_166 (tgt := 171) rfl (fun q166 => ?_) (fun q166 => absurd rfl q166)
  refine hB2.goto d_Lw_law_171 (tgt := 542) rfl ?_
  exact hN w2 (gLd S) 0 (c9 + 1) (s9 + 6) _ _ ⟨clA.frL (z := sLg w1 (nI (gSl (gLd S)).length).toInt64) hc1 hf2, hm2, hgo.ld hok hc1.2.2.1, cRd_r0⟩ (by omega) (by omega) (by omega)
set_option maxRecDepth 100000 in
set_option maxHeartbeats 1000000 in
theorem st_4x (l : Launch) (htl : l.stackTraces = false) {J : mJt} {g : mG} {b len : Nat} {xs : Nat → Int32} (hL : lB l J room_1 g b len xs) (ad : Nat → Nat) (hj : sJn ad) (z : sT) (S : gS) (E c9 s9 k : Nat) (l5 l6 : Option Value) (hW : wld z S E) (hE9 : E < 520) (hlen : len ≤ 2560) (hk : 5 * k + 5 ≤ len) (hc : c9 + 1 ≤ room_1.cells) (hs : s9 + 6 ≤ room_1.slots) (hN : lNx J ad g b k E c9 s9) (q : Nat) (hq : q < 65536) (hq1 : ((xs (5 * k + 1)).toUInt32 % 65536).toInt32 = nI q) (hns : (gSl S).length = 0) : lK J ad g c9 s9 187 [some (.ref b), some (.ref (ad 0)), some (.ref (ad 126)), some (.ref (ad 144)), some (.int (nI (5 * k))), l5, l6] [] z := by
  have hB := hL.sb hj (Nat.le_trans (Nat.le_add_right c9 1) hc) (Nat.le_trans (Nat.le_add_right s9 6) hs)
  have hB2 := hL.sb hj hc hs
  obtain ⟨hcl, hmd, hgo, hr0⟩ := id hW
  refine hB.aload_n d_Lw_law_187 rfl ?_
  refine hB.aload_n d_Lw_law_188 rfl ?_
  refine hB.iload d_Lw_law_189 rfl ?_
  refine hB.iconst d_Lw_law_191 (v := 1) rfl ?_
  refine hB.iadd d_Lw_law_192 ?_
  refine hL.ldK d_Lw_law_193 (nI_add (5 * k) 1) (by omega) (by omega) ?_
  refine hB.i2c d_Lw_law_194 hq1 ?_
  refine hB.aload_n d_Lw_law_195 rfl ?_
  refine hB.iload d_Lw_law_196 rfl ?_
  refine hB.iconst d_Lw_law_198 (v := 2) rfl ?_
  refine hB.iadd d_Lw_law_199 ?_
  refine hL.ldK d_Lw_law_200 (nI_add (5 * k) 2) (by omega) (by omega) ?_
  refine hB.aload_n d_Lw_law_201 rfl ?_
  refine hB.iload d_Lw_law_202 rfl ?_
  refine hB.iconst d_Lw_law_204 (v := 3) rfl ?_
  refine hB.iadd d_Lw_law_205 ?_
  refine hL.ldK d_Lw_law_206 (nI_add (5 * k) 3) (by omega) (by omega) ?_
  refine hB.aload_n d_Lw_law_207 rfl ?_
  refine hB.iload d_Lw_law_208 rfl ?_
  refine hB.iconst d_Lw_law_210 (v := 4) rfl ?_
  refine hB.iadd d_Lw_law_211 ?_
  refine hL.ldK d_Lw_law_212 (nI_add (5 * k) 4) (by omega) (by omega) ?_
  refine hB.aload_n d_Lw_law_213 rfl ?_
  refine hL.callK hj (rest := []) lk_Lw_63 hw_event (h_event_x1 l g ad z (nI q) (xs (5 * k + 2)) (xs (5 * k + 3)) (xs (5 * k + 4)) (x_event1 l htl g ad z S hcl q hq (xs (5 * k + 2)) (xs (5 * k + 3)) (xs (5 * k + 4)) hns)) d_Lw_law_214 rfl rfl (by decide) (by decide) ⟨hc, hs⟩ ?_
  rintro _ w1 ⟨rfl, hw1⟩
  have hw0 := hw1.symm; subst hw0
  refine hB2.istore d_Lw_law_217 (Nat.le_of_ble_eq_true rfl) ?_
  refine hB2.aload_n d_Lw_law_219 rfl ?_
  refine hB2.aload_n d_Lw_law_220 rfl ?_
  refine hB2.iload d_Lw_law_221 rfl ?_
  refine hB2.iconst d_Lw_law_223 (v := 1) rfl ?_
  refine hB2.iadd d_Lw_law_224 ?_
  refine hL.ldK d_Lw_law_225 (nI_add (5 * k) 1) (by omega) (by omega) ?_
  refine hB2.i2c d_Lw_law_226 hq1 ?_
  refine hB2.aload_n d_Lw_law_227 rfl ?_
  refine hB2.iload d_Lw_law_228 rfl ?_
  refine hB2.iconst d_Lw_law_230 (v := 2) rfl ?_
  refine hB2.iadd d_Lw_law_231 ?_
  refine hL.ldK d_Lw_law_232 (nI_add (5 * k) 2) (by omega) (by omega) ?_
  refine hB2.aload_n d_Lw_law_233 rfl ?_
  refine hB2.iload d_Lw_law_234 rfl ?_
  refine hB2.iconst d_Lw_law_236 (v := 3) rfl ?_
  refine hB2.iadd d_Lw_law_237 ?_
  refine hL.ldK d_Lw_law_238 (nI_add (5 * k) 3) (by omega) (by omega) ?_
  refine hB2.aload_n d_Lw_law_239 rfl ?_
  refine hB2.iload d_Lw_law_240 rfl ?_
  refine hB2.iconst d_Lw_law_242 (v := 4) rfl ?_
  refine hB2.iadd d_Lw_law_243 ?_
  refine hL.ldK d_Lw_law_244 (nI_add (5 * k) 4) (by omega) (by omega) ?_
  refine hB2.callV lk_Lw_66 cd_Md_event (k_mEvent0 l g ad z S E hmd hns q (xs (5 * k + 2)) (xs (5 * k + 3)) (xs (5 * k + 4))) rfl (by decide) sK_126 d_Lw_law_245 rfl rfl (by decide) (by simp [Value.category]) ?_
  rintro _ w2 ⟨rfl, hw2⟩
  have hcode : w2.1 126 0 = 1 := by rw [hw2, sI_eq]
  refine hB2.istore d_Lw_law_248 (Nat.le_of_ble_eq_true rfl) ?_
  refine hB2.aload_n d_Lw_law_250 rfl ?_
  refine hB2.callV lk_Lw_56 cd_Md_thrown (k_Md_thrown l g ad w2) rfl (by decide) sK_126 d_Lw_law_251 rfl rfl (by decide) (by simp [Value.category]) ?_
  rintro _ w9 ⟨rfl, hw9⟩
  have hw8 := hw9.symm
  clear hw9
  subst hw8
  refine hB2.iload d_Lw_law_254 rfl ?_
  rw [hcode]
  refine hB2.icmp_eq d_Lw_law_256 (tgt := 261) rfl (fun q256 => ?_) (fun q256 => absurd rfl q256)
  refine hB2.iload d_Lw_law_261 rfl ?_
  refine hB2.if_ne d_Lw_law_263 (tgt := 278) rfl (fun q263 => ?_) (fun q263 => absurd q263 (by decide))
  refine hB2.goto d_Lw_law_278 (tgt := 542) rfl ?_
  rw [hw2]
  exact hN _ S E (c9 + 1) (s9 + 6) _ _ ⟨hcl.frL frL_code, hmd.code _, hgo, hr0⟩ (by omega) (by omega) (by omega)
set_option maxRecDepth 100000 in
set_option maxHeartbeats 1000000 in
theorem st_4y (l : Launch) (htl : l.stackTraces = false) {J : mJt} {g : mG} {b len : Nat} {xs : Nat → Int32} (hL : lB l J room_1 g b len xs) (ad : Nat → Nat) (hj : sJn ad) (z : sT) (S : gS) (E c9 s9 k : Nat) (l5 l6 : Option Value) (hW : wld z S E) (hE9 : E < 520) (hlen : len ≤ 2560) (hk : 5 * k + 5 ≤ len) (hc : c9 + 1 ≤ room_1.cells) (hs : s9 + 6 ≤ room_1.slots) (hN : lNx J ad g b k E c9 s9) (q : Nat) (hq : q < 65536) (hq1 : ((xs (5 * k + 1)).toUInt32 % 65536).toInt32 = nI q) (hns : 0 < (gSl S).length) (hbad : ¬ (fWi (nI q) 65 70 = 1 ∧ fWi (xs (5 * k + 2)) 0 9 = 1 ∧ fWi (xs (5 * k + 3)) (-100) 100 = 1 ∧ fWi (xs (5 * k + 4)) 0 1000 = 1)) : lK J ad g c9 s9 187 [some (.ref b), some (.ref (ad 0)), some (.ref (ad 126)), some (.ref (ad 144)), some (.int (nI (5 * k))), l5, l6] [] z := by
  have hB := hL.sb hj (Nat.le_trans (Nat.le_add_right c9 1) hc) (Nat.le_trans (Nat.le_add_right s9 6) hs)
  have hB2 := hL.sb hj hc hs
  obtain ⟨hcl, hmd, hgo, hr0⟩ := id hW
  have hl8 : (gSl S).length ≤ 8 := len8 (C := gC S 0 0 0 0) hgo.2.1
  refine hB.aload_n d_Lw_law_187 rfl ?_
  refine hB.aload_n d_Lw_law_188 rfl ?_
  refine hB.iload d_Lw_law_189 rfl ?_
  refine hB.iconst d_Lw_law_191 (v := 1) rfl ?_
  refine hB.iadd d_Lw_law_192 ?_
  refine hL.ldK d_Lw_law_193 (nI_add (5 * k) 1) (by omega) (by omega) ?_
  refine hB.i2c d_Lw_law_194 hq1 ?_
  refine hB.aload_n d_Lw_law_195 rfl ?_
  refine hB.iload d_Lw_law_196 rfl ?_
  refine hB.iconst d_Lw_law_198 (v := 2) rfl ?_
  refine hB.iadd d_Lw_law_199 ?_
  refine hL.ldK d_Lw_law_200 (nI_add (5 * k) 2) (by omega) (by omega) ?_
  refine hB.aload_n d_Lw_law_201 rfl ?_
  refine hB.iload d_Lw_law_202 rfl ?_
  refine hB.iconst d_Lw_law_204 (v := 3) rfl ?_
  refine hB.iadd d_Lw_law_205 ?_
  refine hL.ldK d_Lw_law_206 (nI_add (5 * k) 3) (by omega) (by omega) ?_
  refine hB.aload_n d_Lw_law_207 rfl ?_
  refine hB.iload d_Lw_law_208 rfl ?_
  refine hB.iconst d_Lw_law_210 (v := 4) rfl ?_
  refine hB.iadd d_Lw_law_211 ?_
  refine hL.ldK d_Lw_law_212 (nI_add (5 * k) 4) (by omega) (by omega) ?_
  refine hB.aload_n d_Lw_law_213 rfl ?_
  refine hL.callK hj (rest := []) lk_Lw_63 hw_event (h_event_x2 l g ad z (nI q) (xs (5 * k + 2)) (xs (5 * k + 3)) (xs (5 * k + 4)) (x_event2 l htl g ad z S hcl q hq (xs (5 * k + 2)) (xs (5 * k + 3)) (xs (5 * k + 4)) hns hbad)) d_Lw_law_214 rfl rfl (by decide) (by decide) ⟨hc, hs⟩ ?_
  rintro _ w1 ⟨rfl, hw1⟩
  have hw0 := hw1.symm; subst hw0
  refine hB2.istore d_Lw_law_217 (Nat.le_of_ble_eq_true rfl) ?_
  refine hB2.aload_n d_Lw_law_219 rfl ?_
  refine hB2.aload_n d_Lw_law_220 rfl ?_
  refine hB2.iload d_Lw_law_221 rfl ?_
  refine hB2.iconst d_Lw_law_223 (v := 1) rfl ?_
  refine hB2.iadd d_Lw_law_224 ?_
  refine hL.ldK d_Lw_law_225 (nI_add (5 * k) 1) (by omega) (by omega) ?_
  refine hB2.i2c d_Lw_law_226 hq1 ?_
  refine hB2.aload_n d_Lw_law_227 rfl ?_
  refine hB2.iload d_Lw_law_228 rfl ?_
  refine hB2.iconst d_Lw_law_230 (v := 2) rfl ?_
  refine hB2.iadd d_Lw_law_231 ?_
  refine hL.ldK d_Lw_law_232 (nI_add (5 * k) 2) (by omega) (by omega) ?_
  refine hB2.aload_n d_Lw_law_233 rfl ?_
  refine hB2.iload d_Lw_law_234 rfl ?_
  refine hB2.iconst d_Lw_law_236 (v := 3) rfl ?_
  refine hB2.iadd d_Lw_law_237 ?_
  refine hL.ldK d_Lw_law_238 (nI_add (5 * k) 3) (by omega) (by omega) ?_
  refine hB2.aload_n d_Lw_law_239 rfl ?_
  refine hB2.iload d_Lw_law_240 rfl ?_
  refine hB2.iconst d_Lw_law_242 (v := 4) rfl ?_
  refine hB2.iadd d_Lw_law_243 ?_
  refine hL.ldK d_Lw_law_244 (nI_add (5 * k) 4) (by omega) (by omega) ?_
  refine hB2.callV lk_Lw_66 cd_Md_event (k_mEvent2 l g ad z S E hmd hns hl8 q (xs (5 * k + 2)) (xs (5 * k + 3)) (xs (5 * k + 4)) hbad) rfl (by decide) sK_126 d_Lw_law_245 rfl rfl (by decide) (by simp [Value.category]) ?_
  rintro _ w2 ⟨rfl, hw2⟩
  have hcode : w2.1 126 0 = 2 := by rw [hw2, sI_eq]
  refine hB2.istore d_Lw_law_248 (Nat.le_of_ble_eq_true rfl) ?_
  refine hB2.aload_n d_Lw_law_250 rfl ?_
  refine hB2.callV lk_Lw_56 cd_Md_thrown (k_Md_thrown l g ad w2) rfl (by decide) sK_126 d_Lw_law_251 rfl rfl (by decide) (by simp [Value.category]) ?_
  rintro _ w9 ⟨rfl, hw9⟩
  have hw8 := hw9.symm
  clear hw9
  subst hw8
  refine hB2.iload d_Lw_law_254 rfl ?_
  rw [hcode]
  refine hB2.icmp_eq d_Lw_law_256 (tgt := 261) rfl (fun q256 => ?_) (fun q256 => absurd rfl q256)
  refine hB2.iload d_Lw_law_261 rfl ?_
  refine hB2.if_ne d_Lw_law_263 (tgt := 278) rfl (fun q263 => ?_) (fun q263 => absurd q263 (by decide))
  refine hB2.goto d_Lw_law_278 (tgt := 542) rfl ?_
  rw [hw2]
  exact hN _ S E (c9 + 1) (s9 + 6) _ _ ⟨hcl.frL frL_code, hmd.code _, hgo, hr0⟩ (by omega) (by omega) (by omega)
set_option maxRecDepth 100000 in
set_option maxHeartbeats 1000000 in
theorem st_4r (l : Launch) (htl : l.stackTraces = false) {J : mJt} {g : mG} {b len : Nat} {xs : Nat → Int32} (hL : lB l J room_1 g b len xs) (ad : Nat → Nat) (hj : sJn ad) (z : sT) (S : gS) (E c9 s9 k : Nat) (l5 l6 : Option Value) (hW : wld z S E) (hE9 : E < 520) (hlen : len ≤ 2560) (hk : 5 * k + 5 ≤ len) (hc : c9 + 1 ≤ room_1.cells) (hs : s9 + 6 ≤ room_1.slots) (hN : lNx J ad g b k E c9 s9) (q : Nat) (hq : q < 65536) (hq1 : ((xs (5 * k + 1)).toUInt32 % 65536).toInt32 = nI q) (hns : 0 < (gSl S).length) (h1 : fWi (nI q) 65 70 = 1) (h2 : fWi (xs (5 * k + 2)) 0 9 = 1) (h3 : fWi (xs (5 * k + 3)) (-100) 100 = 1) (h4 : fWi (xs (5 * k + 4)) 0 1000 = 1) : lK J ad g c9 s9 187 [some (.ref b), some (.ref (ad 0)), some (.ref (ad 126)), some (.ref (ad 144)), some (.int (nI (5 * k))), l5, l6] [] z := by
  have hB := hL.sb hj (Nat.le_trans (Nat.le_add_right c9 1) hc) (Nat.le_trans (Nat.le_add_right s9 6) hs)
  have hB2 := hL.sb hj hc hs
  obtain ⟨hcl, hmd, hgo, hr0⟩ := id hW
  have hok9 : ∀ Q ∈ gRs S, rOk (gC S (nI q) (xs (5 * k + 2)) (xs (5 * k + 3)) (xs (5 * k + 4))) Q := fun Q hQ => (hgo.2.2.2.2.2.1.2 Q hQ).1
  refine hB.aload_n d_Lw_law_187 rfl ?_
  refine hB.aload_n d_Lw_law_188 rfl ?_
  refine hB.iload d_Lw_law_189 rfl ?_
  refine hB.iconst d_Lw_law_191 (v := 1) rfl ?_
  refine hB.iadd d_Lw_law_192 ?_
  refine hL.ldK d_Lw_law_193 (nI_add (5 * k) 1) (by omega) (by omega) ?_
  refine hB.i2c d_Lw_law_194 hq1 ?_
  refine hB.aload_n d_Lw_law_195 rfl ?_
  refine hB.iload d_Lw_law_196 rfl ?_
  refine hB.iconst d_Lw_law_198 (v := 2) rfl ?_
  refine hB.iadd d_Lw_law_199 ?_
  refine hL.ldK d_Lw_law_200 (nI_add (5 * k) 2) (by omega) (by omega) ?_
  refine hB.aload_n d_Lw_law_201 rfl ?_
  refine hB.iload d_Lw_law_202 rfl ?_
  refine hB.iconst d_Lw_law_204 (v := 3) rfl ?_
  refine hB.iadd d_Lw_law_205 ?_
  refine hL.ldK d_Lw_law_206 (nI_add (5 * k) 3) (by omega) (by omega) ?_
  refine hB.aload_n d_Lw_law_207 rfl ?_
  refine hB.iload d_Lw_law_208 rfl ?_
  refine hB.iconst d_Lw_law_210 (v := 4) rfl ?_
  refine hB.iadd d_Lw_law_211 ?_
  refine hL.ldK d_Lw_law_212 (nI_add (5 * k) 4) (by omega) (by omega) ?_
  refine hB.aload_n d_Lw_law_213 rfl ?_
  refine hL.callK hj (rest := []) lk_Lw_63 hw_event (h_event_r l g ad z (nI q) (xs (5 * k + 2)) (xs (5 * k + 3)) (xs (5 * k + 4)) (by decide) (k_Pw_event l g ad z S hcl q hq (xs (5 * k + 2)) (xs (5 * k + 3)) (xs (5 * k + 4)) h1 h2 h3 h4 hns hok9)) d_Lw_law_214 rfl rfl (by decide) (by decide) ⟨hc, hs⟩ ?_
  rintro _ w9 ⟨rfl, w1, ⟨hc1, hf1⟩, hw9⟩
  have hw8 := hw9.symm; subst hw8
  refine hB2.istore d_Lw_law_217 (Nat.le_of_ble_eq_true rfl) ?_
  refine hB2.aload_n d_Lw_law_219 rfl ?_
  refine hB2.aload_n d_Lw_law_220 rfl ?_
  refine hB2.iload d_Lw_law_221 rfl ?_
  refine hB2.iconst d_Lw_law_223 (v := 1) rfl ?_
  refine hB2.iadd d_Lw_law_224 ?_
  refine hL.ldK d_Lw_law_225 (nI_add (5 * k) 1) (by omega) (by omega) ?_
  refine hB2.i2c d_Lw_law_226 hq1 ?_
  refine hB2.aload_n d_Lw_law_227 rfl ?_
  refine hB2.iload d_Lw_law_228 rfl ?_
  refine hB2.iconst d_Lw_law_230 (v := 2) rfl ?_
  refine hB2.iadd d_Lw_law_231 ?_
  refine hL.ldK d_Lw_law_232 (nI_add (5 * k) 2) (by omega) (by omega) ?_
  refine hB2.aload_n d_Lw_law_233 rfl ?_
  refine hB2.iload d_Lw_law_234 rfl ?_
  refine hB2.iconst d_Lw_law_236 (v := 3) rfl ?_
  refine hB2.iadd d_Lw_law_237 ?_
  refine hL.ldK d_Lw_law_238 (nI_add (5 * k) 3) (by omega) (by omega) ?_
  refine hB2.aload_n d_Lw_law_239 rfl ?_
  refine hB2.iload d_Lw_law_240 rfl ?_
  refine hB2.iconst d_Lw_law_242 (v := 4) rfl ?_
  refine hB2.iadd d_Lw_law_243 ?_
  refine hL.ldK d_Lw_law_244 (nI_add (5 * k) 4) (by omega) (by omega) ?_
  refine hB2.callV lk_Lw_66 cd_Md_event (k_mEvent1 l g ad (sLg w1 (nI (gMs (gEv S (gC S (nI q) (xs (5 * k + 2)) (xs (5 * k + 3)) (xs (5 * k + 4))))).length).toInt64) S E (mdA.frC (w := sLg w1 (nI (gMs (gEv S (gC S (nI q) (xs (5 * k + 2)) (xs (5 * k + 3)) (xs (5 * k + 4))))).length).toInt64) hmd hf1) hgo hE9 q hq (xs (5 * k + 2)) (xs (5 * k + 3)) (xs (5 * k + 4)) h1 h2 h3 h4 hns hr0) rfl (by decide) sK_126 d_Lw_law_245 rfl rfl (by decide) (by simp [Value.category]) ?_
  rintro _ w2 ⟨rfl, hcode, hm2, hf2⟩
  have hlong : w2.2.2 0 = (nI (gMs (gEv S (gC S (nI q) (xs (5 * k + 2)) (xs (5 * k + 3)) (xs (5 * k + 4))))).length).toInt64 := by rw [hf2.1]; exact sLg_0
  refine hB2.istore d_Lw_law_248 (Nat.le_of_ble_eq_true rfl) ?_
  refine hB2.aload_n d_Lw_law_250 rfl ?_
  refine hB2.callV lk_Lw_56 cd_Md_thrown (k_Md_thrown l g ad w2) rfl (by decide) sK_126 d_Lw_law_251 rfl rfl (by decide) (by simp [Value.category]) ?_
  rintro _ w9 ⟨rfl, hw9⟩
  have hw8 := hw9.symm
  clear hw9
  subst hw8
  refine hB2.iload d_Lw_law_254 rfl ?_
  rw [hcode]
  refine hB2.icmp_eq d_Lw_law_256 (tgt := 261) rfl (fun q256 => ?_) (fun q256 => absurd rfl q256)
  refine hB2.iload d_Lw_law_261 rfl ?_
  refine hB2.if_ne d_Lw_law_263 (tgt := 278) rfl (fun q263 => absurd rfl q263) (fun q263 => ?_)
  refine hB2.aload_n d_Lw_law_266 rfl ?_
  refine hB2.iconst d_Lw_law_267 (v := 0) rfl ?_
  refine hB2.lald d_Lw_law_268 (by decide) rfl ?_
  refine hB2.iload d_Lw_law_269 rfl ?_
  refine hB2.i2l d_Lw_law_271 rfl ?_
  refine hB2.lcmp d_Lw_law_272 ?_
  rw [hlong, lcmp0]
  refine hB2.if_eq d_Lw_law_273 (tgt := 278) rfl (fun q273 => ?_) (fun q273 => absurd rfl q273)
  refine hB2.goto d_Lw_law_278 (tgt := 542) rfl ?_
  exact hN w2 (gEv S (gC S (nI q) (xs (5 * k + 2)) (xs (5 * k + 3)) (xs (5 * k + 4)))) (E + 1) (c9 + 1) (s9 + 6) _ _ ⟨clA.frL (z := sLg w1 (nI (gMs (gEv S (gC S (nI q) (xs (5 * k + 2)) (xs (5 * k + 3)) (xs (5 * k + 4))))).length).toInt64) hc1 hf2, hm2, (hgo.ev hmd.2.2.2.2.1 (fWi_w h3) hns).1, hr0⟩ (by omega) (by omega) (by omega)
