def gdP (z : sT) (n : Nat) (RR : cR) (r : Option Value) (w : sT) : Prop := frM z w ∧ (RR.1 = true → r = some (.int (nI n)) ∧ ∃ s, mdQ w (s, RR.2.2)) ∧ (RR.1 = false → (r = some (.int (nI RR.2.1)) ∧ RR.2.1 < n) ∨ (r = some (.int (-1 - nI n)) ∧ RR.2.1 = n))
theorem cF_1 {p : Nat} : (cF p).1 = false := rfl
theorem cF_2 {p : Nat} : (cF p).2.1 = p := rfl
set_option maxRecDepth 100000 in
set_option maxHeartbeats 4000000 in
theorem k_Md_good (l : Launch) (g : mG) (ad : Nat → Nat) (z : sT) (n : Nat) (tx : Nat → Int32) (hn : z.1 126 1 = nI n) (hn4 : n ≤ 40) (htx : ∀ i, i < n → z.1 127 i = tx i) (hch : ∀ i, i < n → ∃ q : Nat, 33 ≤ q ∧ q ≤ 126 ∧ tx i = nI q) : sC l y_Md_good c_Md_good 6 (some .int) 4 g ad [.ref (ad 126)] z (fun r w => gdP z n (qR tx n 0 (0, 0, fun _ => pE0, 0, 0)) r w) := by
  refine sC.intro (own := R_Md) rfl (by decide) (by decide) (by simp [Value.category]) (Nat.le_of_ble_eq_true rfl) (fun K hB hE => ?_)
  show K 0 [some (.ref (ad 126)), none, none, none, none, none] [] z
  have h19 : ∀ (f p : Nat) (c : qC) (w : sT) (o3 o4 o5 : Option Value), p + f = n → frM z w → mdQ w c → qI c → qR tx f p c = qR tx n 0 (0, 0, fun _ => pE0, 0, 0) → K 19 [some (.ref (ad 126)), some (.int (nI c.1)), some (.int (nI p)), o3, o4, o5] [] w := by
    intro f
    induction f with
    | zero =>
      intro p c w o3 o4 o5 hp hF hQ hI hb
      have hpn : p = n := hp
      subst hpn
      have hc15 : c.1 ≤ 15 := hI.1
      refine hB.iload_n d_Md_good_19 rfl ?_
      refine hB.aload_n d_Md_good_20 rfl ?_
      refine hB.getI (Or.inl fa_Md_70) d_Md_good_21 (by decide) sK_126 rfl ?_
      have e1 : w.1 126 1 = nI p := (hF.2.2.1 1 (by omega) (by omega) (by omega)).trans hn
      rw [e1]
      refine hB.icmp_ge d_Md_good_24 (tgt := 111) rfl (fun q24 => ?_) (fun q24 => absurd (nI_le (Nat.le_refl _) (by omega)) q24)
      refine hB.iload_n d_Md_good_111 rfl ?_
      refine hB.bipush d_Md_good_112 (v := 10) rfl ?_
      refine hB.icmp_le d_Md_good_114 (tgt := 130) rfl (fun q114 => ?_) (fun q114 => ?_)
      · have hc : ¬ (11 ≤ c.1 ∧ c.1 ≤ 13) := by
          have := (nI_leI (a := c.1) (b := 10) (by omega) (by decide)).mp q114
          omega
        refine hB.iconst d_Md_good_130 (v := -1) rfl ?_
        refine hB.aload_n d_Md_good_131 rfl ?_
        refine hB.getI (Or.inl fa_Md_70) d_Md_good_132 (by decide) sK_126 rfl ?_
        refine hB.isub d_Md_good_135 ?_
        exact hE.1 _ _ _ _ _ d_Md_good_136 rfl rfl (by
          rw [e1, ← hb]
          have e2 : qR tx 0 p c = qFin p c := rfl
          rw [e2]
          unfold qFin
          first
            | (rw [if_pos hc]
               exact ⟨hF, fun _ => ⟨rfl, c.1, hQ⟩, fun q9 => Bool.noConfusion (show true = false from q9)⟩)
            | (rw [if_neg hc]
               exact ⟨hF, fun q9 => absurd q9 (by rw [cF_1]; decide), fun _ => Or.inr ⟨rfl, rfl⟩⟩))
      · have hc1 : 11 ≤ c.1 := by
          rcases Nat.lt_or_ge c.1 11 with hl | hl
          · exact absurd (nI_le (a := c.1) (b := 10) (by omega) (by decide)) q114
          · exact hl
        refine hB.iload_n d_Md_good_117 rfl ?_
        refine hB.bipush d_Md_good_118 (v := 14) rfl ?_
        refine hB.icmp_ge d_Md_good_120 (tgt := 130) rfl (fun q120 => ?_) (fun q120 => ?_)
        · have hc : ¬ (11 ≤ c.1 ∧ c.1 ≤ 13) := by
            have := (nI_leI (a := 14) (b := c.1) (by decide) (by omega)).mp q120
            omega
          refine hB.iconst d_Md_good_130 (v := -1) rfl ?_
          refine hB.aload_n d_Md_good_131 rfl ?_
          refine hB.getI (Or.inl fa_Md_70) d_Md_good_132 (by decide) sK_126 rfl ?_
          refine hB.isub d_Md_good_135 ?_
          exact hE.1 _ _ _ _ _ d_Md_good_136 rfl rfl (by
          rw [e1, ← hb]
          have e2 : qR tx 0 p c = qFin p c := rfl
          rw [e2]
          unfold qFin
          first
            | (rw [if_pos hc]
               exact ⟨hF, fun _ => ⟨rfl, c.1, hQ⟩, fun q9 => Bool.noConfusion (show true = false from q9)⟩)
            | (rw [if_neg hc]
               exact ⟨hF, fun q9 => absurd q9 (by rw [cF_1]; decide), fun _ => Or.inr ⟨rfl, rfl⟩⟩))
        · have hc : 11 ≤ c.1 ∧ c.1 ≤ 13 := by
            refine ⟨hc1, ?_⟩
            rcases Nat.lt_or_ge c.1 14 with hl | hl
            · omega
            · exact absurd (nI_le (a := 14) (b := c.1) hl (by omega)) q120
          refine hB.aload_n d_Md_good_123 rfl ?_
          refine hB.getI (Or.inl fa_Md_70) d_Md_good_124 (by decide) sK_126 rfl ?_
          refine hB.goto d_Md_good_127 (tgt := 136) rfl ?_
          exact hE.1 _ _ _ _ _ d_Md_good_136 rfl rfl (by
          rw [e1, ← hb]
          have e2 : qR tx 0 p c = qFin p c := rfl
          rw [e2]
          unfold qFin
          first
            | (rw [if_pos hc]
               exact ⟨hF, fun _ => ⟨rfl, c.1, hQ⟩, fun q9 => Bool.noConfusion (show true = false from q9)⟩)
            | (rw [if_neg hc]
               exact ⟨hF, fun q9 => absurd q9 (by rw [cF_1]; decide), fun _ => Or.inr ⟨rfl, rfl⟩⟩))
    | succ f ih =>
      intro p c w o3 o4 o5 hp hF hQ hI hb
      have hc15 : c.1 ≤ 15 := hI.1
      have hkor : 1 ≤ c.2.1 ∨ ¬ (c.1 = 14 ∨ c.1 = 15) := by
        by_cases h0 : c.1 = 0
        · exact Or.inr (by omega)
        · exact Or.inl (hI.2.2.1 h0)
      obtain ⟨q9, hq9⟩ := hch p (by omega)
      have h49 : ∀ v : Bool, v = decide (c.1 = 14 ∨ c.1 = 15) → K 49 [some (.ref (ad 126)), some (.int (nI c.1)), some (.int (nI p)), some (.int (nI c.2.1)), o4, o5] [.int (bI v)] w := by
        intro v hv
        refine hB.istore d_Md_good_49 (Nat.le_of_ble_eq_true rfl) ?_
        refine hB.aload_n d_Md_good_51 rfl ?_
        refine hB.iload_n d_Md_good_52 rfl ?_
        refine hB.aload_n d_Md_good_53 rfl ?_
        refine hB.getC (Or.inl fa_Md_7) d_Md_good_54 (by decide) sK_126 rfl ?_
        refine hB.iload_n d_Md_good_57 rfl ?_
        refine hB.cald d_Md_good_58 (by decide) rfl rfl (by omega) (by decide) ?_
        have etx : w.1 127 p = nI q9 := by rw [hF.2.1 127 (by omega) (by omega), htx p (by omega)]; exact hq9.2.2
        rw [etx]
        refine hB.callV lk_Md_101 cd_Md_next (k_mNext l g ad w c hQ hI q9 (by omega)) rfl (by decide) sK_126 d_Md_good_59 rfl rfl (by decide) (by simp [Value.category]) ?_
        rintro r8 w8 ⟨hf8, hr8⟩
        obtain ⟨x8, rfl⟩ := hr8.int
        show K 62 _ [.int x8] w8
        refine hB.istore d_Md_good_62 (Nat.le_of_ble_eq_true rfl) ?_
        refine hB.iload d_Md_good_64 rfl ?_
        refine hB.if_ne d_Md_good_66 (tgt := 71) rfl (fun q66 => ?_) (fun q66 => ?_)
        · have hsd : ∃ d, qNm c (nI q9) = some d := by
            cases hp9 : qNm c (nI q9) with
            | none => exact absurd (by have := hr8.2 hp9; injection this with e; injection e) q66
            | some d => exact ⟨d, rfl⟩
          obtain ⟨d, hd⟩ := hsd
          obtain ⟨hx8, hQd⟩ := hr8.1 d hd
          have ex8 : x8 = nI d.1 := by injection hx8 with e; injection e
          subst ex8
          obtain ⟨hId, hd0, hd15⟩ := qI_nm hI hd
          have hd16 : d.1 ≤ 15 := hId.1
          have hF8 := hF.trans hf8
          have h102 : ∀ (d9 : qC) (w9 : sT), d9.1 = d.1 → frM z w9 → mdQ w9 d9 → qI d9 → qNx c (tx p) = some d9 → K 102 [some (.ref (ad 126)), some (.int (nI c.1)), some (.int (nI p)), some (.int (nI c.2.1)), some (.int (bI v)), some (.int (nI d.1))] [] w9 := by
            intro d9 w9 hd9 hF9 hQ9 hI9 hx9
            rw [← hd9]
            refine hB.iload d_Md_good_102 rfl ?_
            refine hB.istore_n d_Md_good_104 (Nat.le_of_ble_eq_true rfl) ?_
            refine hB.iinc d_Md_good_105 rfl (v := nI (p + 1)) (nI_succ p).symm ?_
            refine hB.goto d_Md_good_108 (tgt := 19) rfl ?_
            exact ih (p + 1) d9 w9 _ _ _ (by omega) hF9 hQ9 hI9 (by rw [← hb, qR_s hx9])
          have etp : tx p = nI q9 := hq9.2.2
          refine hB.iload d_Md_good_71 rfl ?_
          refine hB.if_eq d_Md_good_73 (tgt := 102) rfl (fun q73 => ?_) (fun q73 => ?_)
          · have hv0 := bI_0 q73
            have hn14 : ¬ (c.1 = 14 ∨ c.1 = 15) := by rw [hv0] at hv; simpa using hv.symm
            first
              | exact h102 d w8 rfl hF8 hQd hId (by rw [etp, qNx_of hkor, if_neg hn14]; exact hd)
              | exact h102 d w8 rfl hF8 hQd hId (by rw [etp, qNx_of hkor, if_pos h14, hd]; show some (if d.1 = 15 then d else _) = _; rw [if_pos hd5])
              | exact h102 (qNg d (c.2.1 - 1)) _ rfl (hF8.trans hN2) hN1 (qI_ng hId (by omega)) (by rw [etp, qNx_of hkor, if_pos h14, hd]; show some (if d.1 = 15 then d else _) = _; rw [if_neg hd5])
          · have hv1 := bI_1 q73
            have h14 : c.1 = 14 ∨ c.1 = 15 := by rw [hv1] at hv; simpa using hv.symm
            refine hB.iload d_Md_good_76 rfl ?_
            refine hB.bipush d_Md_good_78 (v := 15) rfl ?_
            refine hB.icmp_eq d_Md_good_80 (tgt := 102) rfl (fun q80 => ?_) (fun q80 => ?_)
            · have hd5 : d.1 = 15 := (nI_eq (a := d.1) (b := 15) (by omega) (by decide)).mp q80
              first
                | exact h102 d w8 rfl hF8 hQd hId (by rw [etp, qNx_of hkor, if_neg hn14]; exact hd)
                | exact h102 d w8 rfl hF8 hQd hId (by rw [etp, qNx_of hkor, if_pos h14, hd]; show some (if d.1 = 15 then d else _) = _; rw [if_pos hd5])
                | exact h102 (qNg d (c.2.1 - 1)) _ rfl (hF8.trans hN2) hN1 (qI_ng hId (by omega)) (by rw [etp, qNx_of hkor, if_pos h14, hd]; show some (if d.1 = 15 then d else _) = _; rw [if_neg hd5])
            · have hd5 : d.1 ≠ 15 := fun q0 => q80 (by rw [q0]; rfl)
              have hk1 : 1 ≤ c.2.1 := hI.2.2.1 (by omega)
              have hst := qNm_st h14 hd hd5
              have hdk : c.2.1 - 1 < d.2.1 := by omega
              have hk8 : d.2.1 ≤ 8 := hQd.2.1
              have e7 : (7 : Int32) + nI c.2.1 = nI (8 + (c.2.1 - 1)) := by rw [show 8 + (c.2.1 - 1) = 7 + c.2.1 by omega]; exact nI_add 7 c.2.1
              obtain ⟨hN1, hN2⟩ := hQd.neg hdk
              refine hB.aload_n d_Md_good_83 rfl ?_
              refine hB.getC (Or.inl fa_Md_34) d_Md_good_84 (by decide) sK_126 rfl ?_
              refine hB.bipush d_Md_good_87 (v := 7) rfl ?_
              refine hB.iload_n d_Md_good_89 rfl ?_
              refine hB.iadd d_Md_good_90 ?_
              refine hB.aload_n d_Md_good_91 rfl ?_
              refine hB.getC (Or.inl fa_Md_34) d_Md_good_92 (by decide) sK_126 rfl ?_
              refine hB.bipush d_Md_good_95 (v := 7) rfl ?_
              refine hB.iload_n d_Md_good_97 rfl ?_
              refine hB.iadd d_Md_good_98 ?_
              refine hB.iald d_Md_good_99 (by decide) rfl e7 (by omega) (by decide) ?_
              refine hB.ineg d_Md_good_100 ?_
              refine hB.iast d_Md_good_101 (by decide) rfl e7 (by omega) (by decide) ?_
              first
                | exact h102 d w8 rfl hF8 hQd hId (by rw [etp, qNx_of hkor, if_neg hn14]; exact hd)
                | exact h102 d w8 rfl hF8 hQd hId (by rw [etp, qNx_of hkor, if_pos h14, hd]; show some (if d.1 = 15 then d else _) = _; rw [if_pos hd5])
                | exact h102 (qNg d (c.2.1 - 1)) _ rfl (hF8.trans hN2) hN1 (qI_ng hId (by omega)) (by rw [etp, qNx_of hkor, if_pos h14, hd]; show some (if d.1 = 15 then d else _) = _; rw [if_neg hd5])
        · refine hB.iload_n d_Md_good_69 rfl ?_
          exact hE.1 _ _ _ _ _ d_Md_good_70 rfl rfl (by
          have hno : qNm c (nI q9) = none := by
            cases hp9 : qNm c (nI q9) with
            | none => rfl
            | some d =>
              have h1 := (hr8.1 d hp9).1
              have h2 := (qI_nm hI hp9)
              rw [q66] at h1
              injection h1 with e
              injection e with e
              exact absurd ((nI_eq (a := 0) (b := d.1) (by decide) (by have := h2.1.1; omega)).mp e).symm h2.2.1
          have hnx : qNx c (tx p) = none := by
            rw [hq9.2.2, qNx_of hkor, hno]
            split <;> rfl
          rw [← hb, qR_n hnx]
          exact ⟨hF.trans hf8, fun q0 => absurd q0 (by rw [cF_1]; decide), fun _ => Or.inl ⟨rfl, by show p < n; omega⟩⟩)
      refine hB.iload_n d_Md_good_19 rfl ?_
      refine hB.aload_n d_Md_good_20 rfl ?_
      refine hB.getI (Or.inl fa_Md_70) d_Md_good_21 (by decide) sK_126 rfl ?_
      have e1 : w.1 126 1 = nI n := (hF.2.2.1 1 (by omega) (by omega) (by omega)).trans hn
      rw [e1]
      refine hB.icmp_ge d_Md_good_24 (tgt := 111) rfl (fun q24 => absurd q24 (nI_ge (by omega) (by omega))) (fun q24 => ?_)
      refine hB.aload_n d_Md_good_27 rfl ?_
      refine hB.getI (Or.inl fa_Md_73) d_Md_good_28 (by decide) sK_126 rfl ?_
      rw [hQ.1]
      refine hB.istore_n d_Md_good_31 (Nat.le_of_ble_eq_true rfl) ?_
      refine hB.iload_n d_Md_good_32 rfl ?_
      refine hB.bipush d_Md_good_33 (v := 14) rfl ?_
      refine hB.icmp_eq d_Md_good_35 (tgt := 44) rfl (fun q35 => ?_) (fun q35 => ?_)
      · refine hB.iconst d_Md_good_44 (v := 1) rfl ?_
        refine hB.goto d_Md_good_45 (tgt := 49) rfl ?_
        first
          | (refine h49 true ?_; have h9 := (nI_eq (a := c.1) (b := 14) (by omega) (by decide)).mp q35; simp [h9]; done)
          | (refine h49 true ?_; have h9 := (nI_eq (a := c.1) (b := 15) (by omega) (by decide)).mp q41; simp [h9]; done)
          | (refine h49 false ?_; have h8 : ¬ c.1 = 14 := fun q0 => q35 (by rw [q0]; rfl); have h9 : ¬ c.1 = 15 := fun q0 => q41 (by rw [q0]; rfl); simp [h8, h9])
      · refine hB.iload_n d_Md_good_38 rfl ?_
        refine hB.bipush d_Md_good_39 (v := 15) rfl ?_
        refine hB.icmp_ne d_Md_good_41 (tgt := 48) rfl (fun q41 => ?_) (fun q41 => ?_)
        · refine hB.iconst d_Md_good_48 (v := 0) rfl ?_
          first
            | (refine h49 true ?_; have h9 := (nI_eq (a := c.1) (b := 14) (by omega) (by decide)).mp q35; simp [h9]; done)
            | (refine h49 true ?_; have h9 := (nI_eq (a := c.1) (b := 15) (by omega) (by decide)).mp q41; simp [h9]; done)
            | (refine h49 false ?_; have h8 : ¬ c.1 = 14 := fun q0 => q35 (by rw [q0]; rfl); have h9 : ¬ c.1 = 15 := fun q0 => q41 (by rw [q0]; rfl); simp [h8, h9])
        · refine hB.iconst d_Md_good_44 (v := 1) rfl ?_
          refine hB.goto d_Md_good_45 (tgt := 49) rfl ?_
          first
            | (refine h49 true ?_; have h9 := (nI_eq (a := c.1) (b := 14) (by omega) (by decide)).mp q35; simp [h9]; done)
            | (refine h49 true ?_; have h9 := (nI_eq (a := c.1) (b := 15) (by omega) (by decide)).mp q41; simp [h9]; done)
            | (refine h49 false ?_; have h8 : ¬ c.1 = 14 := fun q0 => q35 (by rw [q0]; rfl); have h9 : ¬ c.1 = 15 := fun q0 => q41 (by rw [q0]; rfl); simp [h8, h9])
  refine hB.aload_n d_Md_good_0 rfl ?_
  refine hB.iconst d_Md_good_1 (v := 0) rfl ?_
  refine hB.putI (Or.inl fa_Md_73) d_Md_good_2 (by decide) sK_126 rfl rfl rfl ?_
  refine hB.aload_n d_Md_good_5 rfl ?_
  refine hB.iconst d_Md_good_6 (v := 0) rfl ?_
  refine hB.putI (Or.inl fa_Md_76) d_Md_good_7 (by decide) sK_126 rfl rfl rfl ?_
  refine hB.aload_n d_Md_good_10 rfl ?_
  refine hB.iconst d_Md_good_11 (v := 0) rfl ?_
  refine hB.putI (Or.inl fa_Md_98) d_Md_good_12 (by decide) sK_126 rfl rfl rfl ?_
  refine hB.iconst d_Md_good_15 (v := 0) rfl ?_
  refine hB.istore_n d_Md_good_16 (Nat.le_of_ble_eq_true rfl) ?_
  refine hB.iconst d_Md_good_17 (v := 0) rfl ?_
  refine hB.istore_n d_Md_good_18 (Nat.le_of_ble_eq_true rfl) ?_
  exact h19 n 0 (0, 0, fun _ => pE0, 0, 0) _ _ _ _ (by omega) ⟨rfl, fun a a1 _ => by rw [sI_row a1, sI_row a1, sI_row a1], fun j j1 j2 j3 => by rw [sI_ne j3, sI_ne j2, sI_ne j1], fun a j a1 _ _ => by rw [sI_row (by omega), sI_row (by omega), sI_row (by omega)]⟩ ⟨by simp [sI]; rfl, by decide, fun j hj => absurd hj (Nat.not_lt_zero j), by simp [sI], by simp [sI]⟩ ⟨by decide, fun _ => rfl, fun q => absurd rfl q, fun q => absurd q (by decide), fun q => absurd q (by decide), fun q => absurd q (by decide), fun q => absurd q (by decide)⟩ rfl
