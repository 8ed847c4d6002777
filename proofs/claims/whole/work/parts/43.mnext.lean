theorem qP.int {oc : Option qC} {r : Option Value} {w : sT} (h : qP oc r w) : ∃ x : Int32, r = some (.int x) := by
  cases oc with
  | none => exact ⟨_, h.2 rfl⟩
  | some d => exact ⟨_, (h.1 d rfl).1⟩
theorem qP_some {d : qC} {w : sT} {x : Int32} (h : mdQ w d) (hx : x = nI d.1) : qP (some d) (some (.int x)) w := ⟨fun e he => by (cases he; exact ⟨by rw [hx], h⟩), fun q => by (cases q)⟩
theorem qP_none {w : sT} : qP none (some (.int 0)) w := ⟨fun e he => by (cases he), fun _ => rfl⟩
theorem mdQ.re {z : sT} {s s2 : Nat} {c : Nat × (Nat → pE) × Int32 × Int32} (h : mdQ z (s, c)) : mdQ z (s2, c) := h
theorem mdQ.num {z : sT} {s s2 k : Nat} {els : Nat → pE} {p : Int32 × Int32} {v : Int32} (h : mdQ z (s, k + 1, els, p)) : mdQ (sI z 133 (8 + k) v) (s2, k + 1, uE els k ((els k).1, (els k).2.1, (els k).2.2.1, (els k).2.2.2.1, (els k).2.2.2.2.1, v), p) ∧ frM z (sI z 133 (8 + k) v) := by
  refine h.set rfl (fun a ha => sI_row (by omega)) (fun a j _ _ hj => sI_ne hj) ?_
  obtain ⟨m1, m2, m3, m4, m5, m6⟩ := h.2.2.1 k (Nat.lt_succ_self k)
  exact ⟨by rw [sI_row (by omega)]; exact m1, by rw [sI_row (by omega)]; exact m2, by rw [sI_row (by omega)]; exact m3, by rw [sI_row (by omega)]; exact m4, by rw [sI_row (by omega)]; exact m5, sI_eq⟩
theorem mdQ.rep {z : sT} {s s2 k : Nat} {els : Nat → pE} {p : Int32 × Int32} {v : Int32} (h : mdQ z (s, k + 1, els, p)) : mdQ (sI z 130 (8 + k) v) (s2, k + 1, uE els k ((els k).1, (els k).2.1, v, (els k).2.2.2), p) ∧ frM z (sI z 130 (8 + k) v) := by
  refine h.set rfl (fun a ha => sI_row (by omega)) (fun a j _ _ hj => sI_ne hj) ?_
  obtain ⟨m1, m2, m3, m4, m5, m6⟩ := h.2.2.1 k (Nat.lt_succ_self k)
  exact ⟨by rw [sI_row (by omega)]; exact m1, by rw [sI_row (by omega)]; exact m2, sI_eq, by rw [sI_row (by omega)]; exact m4, by rw [sI_row (by omega)]; exact m5, by rw [sI_row (by omega)]; exact m6⟩
theorem mdQ.prev {z : sT} {s s2 k : Nat} {els : Nat → pE} {p : Int32 × Int32} {v : Int32} (h : mdQ z (s, k + 1, els, p)) : mdQ (sI z 132 (8 + k) v) (s2, k + 1, uE els k ((els k).1, (els k).2.1, (els k).2.2.1, (els k).2.2.2.1, v, (els k).2.2.2.2.2), p) ∧ frM z (sI z 132 (8 + k) v) := by
  refine h.set rfl (fun a ha => sI_row (by omega)) (fun a j _ _ hj => sI_ne hj) ?_
  obtain ⟨m1, m2, m3, m4, m5, m6⟩ := h.2.2.1 k (Nat.lt_succ_self k)
  exact ⟨by rw [sI_row (by omega)]; exact m1, by rw [sI_row (by omega)]; exact m2, by rw [sI_row (by omega)]; exact m3, by rw [sI_row (by omega)]; exact m4, sI_eq, by rw [sI_row (by omega)]; exact m6⟩
theorem i32_as (a b c : Int32) : a + b - c = a + (b - c) := by rw [Int32.sub_eq_add_neg, Int32.sub_eq_add_neg, Int32.add_assoc]
set_option maxRecDepth 100000 in
set_option maxHeartbeats 4000000 in
theorem n_0 (l : Launch) (g : mG) (ad : Nat → Nat) (z : sT) {k : Nat} {els : Nat → pE} {p : Int32 × Int32} (h : mdQ z (0, 0, els, p)) (q : Nat) (hq : q < 65536)  : sC l y_Md_next c_Md_next 4 (some .int) 3 g ad [.ref (ad 126), .int (nI 0), .int (nI q)] z (fun r w => frM z w ∧ qP (qBg (0, 0, els, p) (nI q) (bI false)) r w) := by
  refine sC.intro (own := R_Md) rfl (by decide) (by decide) (by simp [Value.category]) (Nat.le_of_ble_eq_true rfl) (fun K hB hE => ?_)
  show K 0 [some (.ref (ad 126)), some (.int (nI 0)), some (.int (nI q)), none] [] z
  refine hB.bipush d_Md_next_0 (v := 7) rfl ?_
  refine hB.aload_n d_Md_next_2 rfl ?_
  refine hB.getI (Or.inl fa_Md_73) d_Md_next_3 (by decide) sK_126 rfl ?_
  refine hB.iadd d_Md_next_6 ?_
  refine hB.istore_n d_Md_next_7 (Nat.le_of_ble_eq_true rfl) ?_
  refine hB.iload_n d_Md_next_8 rfl ?_
  refine hB.tableIn d_Md_next_9 (tgt := 84) (by decide) (by decide) rfl rfl ?_
  refine hB.aload_n d_Md_next_84 rfl ?_
  refine hB.iload_n d_Md_next_85 rfl ?_
  refine hB.iconst d_Md_next_86 (v := 0) rfl ?_
  refine hB.callV lk_Md_80 cd_Md_begin (k_mBegin l g ad z h (by decide) q hq false) rfl (by decide) sK_126 d_Md_next_87 rfl rfl (by decide) (by simp [Value.category]) ?_
  rintro r8 w8 ⟨hf8, hr8⟩
  obtain ⟨x8, rfl⟩ := hr8.int
  show K 90 _ [.int x8] w8
  exact hE.1 _ _ _ _ _ d_Md_next_90 rfl rfl ⟨hf8, hr8⟩
set_option maxRecDepth 100000 in
set_option maxHeartbeats 4000000 in
theorem n_1 (l : Launch) (g : mG) (ad : Nat → Nat) (z : sT) {k : Nat} {els : Nat → pE} {p : Int32 × Int32} (h : mdQ z (1, k + 1, els, p)) (q : Nat) (hq : q < 65536) (hk7 : k + 1 < 8) : sC l y_Md_next c_Md_next 4 (some .int) 3 g ad [.ref (ad 126), .int (nI 1), .int (nI q)] z (fun r w => frM z w ∧ qP (qBg (1, k + 1, els, p) (nI q) (bI true)) r w) := by
  refine sC.intro (own := R_Md) rfl (by decide) (by decide) (by simp [Value.category]) (Nat.le_of_ble_eq_true rfl) (fun K hB hE => ?_)
  show K 0 [some (.ref (ad 126)), some (.int (nI 1)), some (.int (nI q)), none] [] z
  have hk8 : k < 8 := h.2.1
  refine hB.bipush d_Md_next_0 (v := 7) rfl ?_
  refine hB.aload_n d_Md_next_2 rfl ?_
  refine hB.getI (Or.inl fa_Md_73) d_Md_next_3 (by decide) sK_126 rfl ?_
  refine hB.iadd d_Md_next_6 ?_
  have ek : (7 : Int32) + z.1 126 5 = nI (8 + k) := by rw [h.1, show 8 + k = 7 + (k + 1) by omega]; exact nI_add 7 (k + 1)
  rw [ek]
  refine hB.istore_n d_Md_next_7 (Nat.le_of_ble_eq_true rfl) ?_
  refine hB.iload_n d_Md_next_8 rfl ?_
  refine hB.tableIn d_Md_next_9 (tgt := 91) (by decide) (by decide) rfl rfl ?_
  refine hB.aload_n d_Md_next_91 rfl ?_
  refine hB.iload_n d_Md_next_92 rfl ?_
  refine hB.iconst d_Md_next_93 (v := 1) rfl ?_
  refine hB.callV lk_Md_80 cd_Md_begin (k_mBegin l g ad z h hk7 q hq true) rfl (by decide) sK_126 d_Md_next_94 rfl rfl (by decide) (by simp [Value.category]) ?_
  rintro r8 w8 ⟨hf8, hr8⟩
  obtain ⟨x8, rfl⟩ := hr8.int
  show K 97 _ [.int x8] w8
  exact hE.1 _ _ _ _ _ d_Md_next_97 rfl rfl ⟨hf8, hr8⟩
set_option maxRecDepth 100000 in
set_option maxHeartbeats 4000000 in
theorem n_2 (l : Launch) (g : mG) (ad : Nat → Nat) (z : sT) {k : Nat} {els : Nat → pE} {p : Int32 × Int32} (h : mdQ z (2, k + 1, els, p)) (q : Nat) (hq : q < 65536) (htest : (els k).2.2.2.1 = 32) : sC l y_Md_next c_Md_next 4 (some .int) 3 g ad [.ref (ad 126), .int (nI 2), .int (nI q)] z (fun r w => frM z w ∧ qP (if nI q = 43 then (if (els k).1 = 0 ∧ k + 1 < 8 then some (3, k + 1, uE els k ((els k).1, (els k).2.1, 1, (els k).2.2.2), p) else none) else qCm (2, k + 1, els, p) (nI q)) r w) := by
  refine sC.intro (own := R_Md) rfl (by decide) (by decide) (by simp [Value.category]) (Nat.le_of_ble_eq_true rfl) (fun K hB hE => ?_)
  show K 0 [some (.ref (ad 126)), some (.int (nI 2)), some (.int (nI q)), none] [] z
  have hk8 : k < 8 := h.2.1
  have h132 : ∀ v : Bool, v = (decide ((els k).1 = 0) && decide (k + 1 < 8)) → nI q = 43 → K 132 [some (.ref (ad 126)), some (.int (nI 2)), some (.int (nI q)), some (.int (nI (8 + k)))] [.int (bI v), .int (nI (8 + k)), .ref (ad 130)] z := by
    intro v hv h43
    refine hB.zast d_Md_next_132 (by decide) rfl rfl (by omega) (by decide) (bI_vp v) ?_
    refine hB.aload_n d_Md_next_133 rfl ?_
    refine hB.getC (Or.inl fa_Md_24) d_Md_next_134 (by decide) sK_126 rfl ?_
    refine hB.iload_n d_Md_next_137 rfl ?_
    refine hB.zald d_Md_next_138 (by decide) rfl rfl (by omega) (by decide) ?_
    rw [sI_eq]
    refine hB.if_eq d_Md_next_139 (tgt := 146) rfl (fun q139 => ?_) (fun q139 => ?_)
    · have hv0 := bI_0 q139
      refine hB.iconst d_Md_next_146 (v := 0) rfl ?_
      exact hE.1 _ _ _ _ _ d_Md_next_147 rfl rfl (by
      rw [if_pos h43]
      first
        | (rw [hv0] at hv ⊢
           have hc : ¬ ((els k).1 = 0 ∧ k + 1 < 8) := fun q9 => by simp [q9.1, q9.2] at hv
           rw [if_neg hc]
           exact ⟨(h.rep (s2 := 3)).2, qP_none⟩)
        | (rw [hv1] at hv ⊢
           have hc : (els k).1 = 0 ∧ k + 1 < 8 := by simpa using hv.symm
           rw [if_pos hc]
           exact ⟨(h.rep (s2 := 3)).2, qP_some (h.rep (s2 := 3)).1 rfl⟩))
    · have hv1 := bI_1 q139
      refine hB.iconst d_Md_next_142 (v := 3) rfl ?_
      refine hB.goto d_Md_next_143 (tgt := 147) rfl ?_
      exact hE.1 _ _ _ _ _ d_Md_next_147 rfl rfl (by
      rw [if_pos h43]
      first
        | (rw [hv0] at hv ⊢
           have hc : ¬ ((els k).1 = 0 ∧ k + 1 < 8) := fun q9 => by simp [q9.1, q9.2] at hv
           rw [if_neg hc]
           exact ⟨(h.rep (s2 := 3)).2, qP_none⟩)
        | (rw [hv1] at hv ⊢
           have hc : (els k).1 = 0 ∧ k + 1 < 8 := by simpa using hv.symm
           rw [if_pos hc]
           exact ⟨(h.rep (s2 := 3)).2, qP_some (h.rep (s2 := 3)).1 rfl⟩))
  have hbar : z.1 129 (8 + k) = (els k).1 := (h.2.2.1 k (Nat.lt_succ_self k)).2.1
  refine hB.bipush d_Md_next_0 (v := 7) rfl ?_
  refine hB.aload_n d_Md_next_2 rfl ?_
  refine hB.getI (Or.inl fa_Md_73) d_Md_next_3 (by decide) sK_126 rfl ?_
  refine hB.iadd d_Md_next_6 ?_
  have ek : (7 : Int32) + z.1 126 5 = nI (8 + k) := by rw [h.1, show 8 + k = 7 + (k + 1) by omega]; exact nI_add 7 (k + 1)
  rw [ek]
  refine hB.istore_n d_Md_next_7 (Nat.le_of_ble_eq_true rfl) ?_
  refine hB.iload_n d_Md_next_8 rfl ?_
  refine hB.tableIn d_Md_next_9 (tgt := 98) (by decide) (by decide) rfl rfl ?_
  refine hB.iload_n d_Md_next_98 rfl ?_
  refine hB.bipush d_Md_next_99 (v := 43) rfl ?_
  refine hB.icmp_ne d_Md_next_101 (tgt := 148) rfl (fun q101 => ?_) (fun q101 => ?_)
  · refine hB.aload_n d_Md_next_148 rfl ?_
    refine hB.iload_n d_Md_next_149 rfl ?_
    refine hB.callV lk_Md_88 cd_Md_compare (k_Md_compare l g ad z h htest q hq) rfl (by decide) sK_126 d_Md_next_150 rfl rfl (by decide) (by simp [Value.category]) ?_
    rintro r8 w8 ⟨hf8, hr8⟩
    obtain ⟨x8, rfl⟩ := hr8.int
    show K 153 _ [.int x8] w8
    exact hE.1 _ _ _ _ _ d_Md_next_153 rfl rfl ⟨hf8, by rw [if_neg q101]; exact hr8⟩
  · refine hB.aload_n d_Md_next_104 rfl ?_
    refine hB.getC (Or.inl fa_Md_24) d_Md_next_105 (by decide) sK_126 rfl ?_
    refine hB.iload_n d_Md_next_108 rfl ?_
    refine hB.aload_n d_Md_next_109 rfl ?_
    refine hB.getC (Or.inl fa_Md_20) d_Md_next_110 (by decide) sK_126 rfl ?_
    refine hB.iload_n d_Md_next_113 rfl ?_
    refine hB.zald d_Md_next_114 (by decide) rfl rfl (by omega) (by decide) ?_
    rw [hbar]
    refine hB.if_ne d_Md_next_115 (tgt := 131) rfl (fun q115 => ?_) (fun q115 => ?_)
    · refine hB.iconst d_Md_next_131 (v := 0) rfl ?_
      first
        | (refine h132 false ?_ q101; have h9 : ¬ (els k).1 = 0 := q115; simp [h9]; done)
        | (refine h132 false ?_ q101; have h9 : ¬ k + 1 < 8 := by { intro q9; rw [h.1] at q124; exact nI_ge (a := k + 1) (b := 8) q9 (by decide) q124 }; simp [h9]; done)
        | (refine h132 true ?_ q101; have h9 : k + 1 < 8 := by { rw [h.1] at q124; rcases Nat.lt_or_ge (k + 1) 8 with hl | hl; exact hl; exact absurd (nI_le (a := 8) hl (by omega)) q124 }; simp [q115, h9])
    · refine hB.aload_n d_Md_next_118 rfl ?_
      refine hB.getI (Or.inl fa_Md_73) d_Md_next_119 (by decide) sK_126 rfl ?_
      refine hB.bipush d_Md_next_122 (v := 8) rfl ?_
      refine hB.icmp_ge d_Md_next_124 (tgt := 131) rfl (fun q124 => ?_) (fun q124 => ?_)
      · refine hB.iconst d_Md_next_131 (v := 0) rfl ?_
        first
          | (refine h132 false ?_ q101; have h9 : ¬ (els k).1 = 0 := q115; simp [h9]; done)
          | (refine h132 false ?_ q101; have h9 : ¬ k + 1 < 8 := by { intro q9; rw [h.1] at q124; exact nI_ge (a := k + 1) (b := 8) q9 (by decide) q124 }; simp [h9]; done)
          | (refine h132 true ?_ q101; have h9 : k + 1 < 8 := by { rw [h.1] at q124; rcases Nat.lt_or_ge (k + 1) 8 with hl | hl; exact hl; exact absurd (nI_le (a := 8) hl (by omega)) q124 }; simp [q115, h9])
      · refine hB.iconst d_Md_next_127 (v := 1) rfl ?_
        refine hB.goto d_Md_next_128 (tgt := 132) rfl ?_
        first
          | (refine h132 false ?_ q101; have h9 : ¬ (els k).1 = 0 := q115; simp [h9]; done)
          | (refine h132 false ?_ q101; have h9 : ¬ k + 1 < 8 := by { intro q9; rw [h.1] at q124; exact nI_ge (a := k + 1) (b := 8) q9 (by decide) q124 }; simp [h9]; done)
          | (refine h132 true ?_ q101; have h9 : k + 1 < 8 := by { rw [h.1] at q124; rcases Nat.lt_or_ge (k + 1) 8 with hl | hl; exact hl; exact absurd (nI_le (a := 8) hl (by omega)) q124 }; simp [q115, h9])
set_option maxRecDepth 100000 in
set_option maxHeartbeats 4000000 in
theorem n_3 (l : Launch) (g : mG) (ad : Nat → Nat) (z : sT) {k : Nat} {els : Nat → pE} {p : Int32 × Int32} (h : mdQ z (3, k + 1, els, p)) (q : Nat) (hq : q < 65536) (htest : (els k).2.2.2.1 = 32) : sC l y_Md_next c_Md_next 4 (some .int) 3 g ad [.ref (ad 126), .int (nI 3), .int (nI q)] z (fun r w => frM z w ∧ qP (qCm (3, k + 1, els, p) (nI q)) r w) := by
  refine sC.intro (own := R_Md) rfl (by decide) (by decide) (by simp [Value.category]) (Nat.le_of_ble_eq_true rfl) (fun K hB hE => ?_)
  show K 0 [some (.ref (ad 126)), some (.int (nI 3)), some (.int (nI q)), none] [] z
  have hk8 : k < 8 := h.2.1
  refine hB.bipush d_Md_next_0 (v := 7) rfl ?_
  refine hB.aload_n d_Md_next_2 rfl ?_
  refine hB.getI (Or.inl fa_Md_73) d_Md_next_3 (by decide) sK_126 rfl ?_
  refine hB.iadd d_Md_next_6 ?_
  have ek : (7 : Int32) + z.1 126 5 = nI (8 + k) := by rw [h.1, show 8 + k = 7 + (k + 1) by omega]; exact nI_add 7 (k + 1)
  rw [ek]
  refine hB.istore_n d_Md_next_7 (Nat.le_of_ble_eq_true rfl) ?_
  refine hB.iload_n d_Md_next_8 rfl ?_
  refine hB.tableIn d_Md_next_9 (tgt := 154) (by decide) (by decide) rfl rfl ?_
  refine hB.aload_n d_Md_next_154 rfl ?_
  refine hB.iload_n d_Md_next_155 rfl ?_
  refine hB.callV lk_Md_88 cd_Md_compare (k_Md_compare l g ad z h htest q hq) rfl (by decide) sK_126 d_Md_next_156 rfl rfl (by decide) (by simp [Value.category]) ?_
  rintro r8 w8 ⟨hf8, hr8⟩
  obtain ⟨x8, rfl⟩ := hr8.int
  show K 159 _ [.int x8] w8
  exact hE.1 _ _ _ _ _ d_Md_next_159 rfl rfl ⟨hf8, hr8⟩
set_option maxRecDepth 100000 in
set_option maxHeartbeats 4000000 in
theorem n_7 (l : Launch) (g : mG) (ad : Nat → Nat) (z : sT) {k : Nat} {els : Nat → pE} {p : Int32 × Int32} (h : mdQ z (7, k + 1, els, p)) (q : Nat) (hq : q < 65536)  : sC l y_Md_next c_Md_next 4 (some .int) 3 g ad [.ref (ad 126), .int (nI 7), .int (nI q)] z (fun r w => frM z w ∧ qP (qAf (7, k + 1, els, p) (nI q)) r w) := by
  refine sC.intro (own := R_Md) rfl (by decide) (by decide) (by simp [Value.category]) (Nat.le_of_ble_eq_true rfl) (fun K hB hE => ?_)
  show K 0 [some (.ref (ad 126)), some (.int (nI 7)), some (.int (nI q)), none] [] z
  have hk8 : k < 8 := h.2.1
  refine hB.bipush d_Md_next_0 (v := 7) rfl ?_
  refine hB.aload_n d_Md_next_2 rfl ?_
  refine hB.getI (Or.inl fa_Md_73) d_Md_next_3 (by decide) sK_126 rfl ?_
  refine hB.iadd d_Md_next_6 ?_
  have ek : (7 : Int32) + z.1 126 5 = nI (8 + k) := by rw [h.1, show 8 + k = 7 + (k + 1) by omega]; exact nI_add 7 (k + 1)
  rw [ek]
  refine hB.istore_n d_Md_next_7 (Nat.le_of_ble_eq_true rfl) ?_
  refine hB.iload_n d_Md_next_8 rfl ?_
  refine hB.tableIn d_Md_next_9 (tgt := 364) (by decide) (by decide) rfl rfl ?_
  refine hB.aload_n d_Md_next_364 rfl ?_
  refine hB.iload_n d_Md_next_365 rfl ?_
  refine hB.callV lk_Md_84 cd_Md_after (k_mAfter l g ad z h q hq) rfl (by decide) sK_126 d_Md_next_366 rfl rfl (by decide) (by simp [Value.category]) ?_
  rintro r8 w8 ⟨hf8, hr8⟩
  obtain ⟨x8, rfl⟩ := hr8.int
  show K 369 _ [.int x8] w8
  exact hE.1 _ _ _ _ _ d_Md_next_369 rfl rfl ⟨hf8, hr8⟩
set_option maxRecDepth 100000 in
set_option maxHeartbeats 4000000 in
theorem n_8 (l : Launch) (g : mG) (ad : Nat → Nat) (z : sT) {k : Nat} {els : Nat → pE} {p : Int32 × Int32} (h : mdQ z (8, k + 1, els, p)) (q : Nat) (hq : q < 65536)  : sC l y_Md_next c_Md_next 4 (some .int) 3 g ad [.ref (ad 126), .int (nI 8), .int (nI q)] z (fun r w => frM z w ∧ qP (qAf (8, k + 1, els, p) (nI q)) r w) := by
  refine sC.intro (own := R_Md) rfl (by decide) (by decide) (by simp [Value.category]) (Nat.le_of_ble_eq_true rfl) (fun K hB hE => ?_)
  show K 0 [some (.ref (ad 126)), some (.int (nI 8)), some (.int (nI q)), none] [] z
  have hk8 : k < 8 := h.2.1
  refine hB.bipush d_Md_next_0 (v := 7) rfl ?_
  refine hB.aload_n d_Md_next_2 rfl ?_
  refine hB.getI (Or.inl fa_Md_73) d_Md_next_3 (by decide) sK_126 rfl ?_
  refine hB.iadd d_Md_next_6 ?_
  have ek : (7 : Int32) + z.1 126 5 = nI (8 + k) := by rw [h.1, show 8 + k = 7 + (k + 1) by omega]; exact nI_add 7 (k + 1)
  rw [ek]
  refine hB.istore_n d_Md_next_7 (Nat.le_of_ble_eq_true rfl) ?_
  refine hB.iload_n d_Md_next_8 rfl ?_
  refine hB.tableIn d_Md_next_9 (tgt := 364) (by decide) (by decide) rfl rfl ?_
  refine hB.aload_n d_Md_next_364 rfl ?_
  refine hB.iload_n d_Md_next_365 rfl ?_
  refine hB.callV lk_Md_84 cd_Md_after (k_mAfter l g ad z h q hq) rfl (by decide) sK_126 d_Md_next_366 rfl rfl (by decide) (by simp [Value.category]) ?_
  rintro r8 w8 ⟨hf8, hr8⟩
  obtain ⟨x8, rfl⟩ := hr8.int
  show K 369 _ [.int x8] w8
  exact hE.1 _ _ _ _ _ d_Md_next_369 rfl rfl ⟨hf8, hr8⟩
set_option maxRecDepth 100000 in
set_option maxHeartbeats 4000000 in
theorem n_15 (l : Launch) (g : mG) (ad : Nat → Nat) (z : sT) {k : Nat} {els : Nat → pE} {p : Int32 × Int32} (h : mdQ z (15, k + 1, els, p)) (q : Nat) (hq : q < 65536)  : sC l y_Md_next c_Md_next 4 (some .int) 3 g ad [.ref (ad 126), .int (nI 15), .int (nI q)] z (fun r w => frM z w ∧ qP (qAf (15, k + 1, els, p) (nI q)) r w) := by
  refine sC.intro (own := R_Md) rfl (by decide) (by decide) (by simp [Value.category]) (Nat.le_of_ble_eq_true rfl) (fun K hB hE => ?_)
  show K 0 [some (.ref (ad 126)), some (.int (nI 15)), some (.int (nI q)), none] [] z
  have hk8 : k < 8 := h.2.1
  refine hB.bipush d_Md_next_0 (v := 7) rfl ?_
  refine hB.aload_n d_Md_next_2 rfl ?_
  refine hB.getI (Or.inl fa_Md_73) d_Md_next_3 (by decide) sK_126 rfl ?_
  refine hB.iadd d_Md_next_6 ?_
  have ek : (7 : Int32) + z.1 126 5 = nI (8 + k) := by rw [h.1, show 8 + k = 7 + (k + 1) by omega]; exact nI_add 7 (k + 1)
  rw [ek]
  refine hB.istore_n d_Md_next_7 (Nat.le_of_ble_eq_true rfl) ?_
  refine hB.iload_n d_Md_next_8 rfl ?_
  refine hB.tableOut d_Md_next_9 (tgt := 364) (by decide) rfl ?_
  refine hB.aload_n d_Md_next_364 rfl ?_
  refine hB.iload_n d_Md_next_365 rfl ?_
  refine hB.callV lk_Md_84 cd_Md_after (k_mAfter l g ad z h q hq) rfl (by decide) sK_126 d_Md_next_366 rfl rfl (by decide) (by simp [Value.category]) ?_
  rintro r8 w8 ⟨hf8, hr8⟩
  obtain ⟨x8, rfl⟩ := hr8.int
  show K 369 _ [.int x8] w8
  exact hE.1 _ _ _ _ _ d_Md_next_369 rfl rfl ⟨hf8, hr8⟩
set_option maxRecDepth 100000 in
set_option maxHeartbeats 4000000 in
theorem n_9 (l : Launch) (g : mG) (ad : Nat → Nat) (z : sT) {k : Nat} {els : Nat → pE} {p : Int32 × Int32} (h : mdQ z (9, k + 1, els, p)) (q : Nat) (hq : q < 65536)  : sC l y_Md_next c_Md_next 4 (some .int) 3 g ad [.ref (ad 126), .int (nI 9), .int (nI q)] z (fun r w => frM z w ∧ qP (if nI q = 64 then some (10, k + 1, els, p) else none) r w) := by
  refine sC.intro (own := R_Md) rfl (by decide) (by decide) (by simp [Value.category]) (Nat.le_of_ble_eq_true rfl) (fun K hB hE => ?_)
  show K 0 [some (.ref (ad 126)), some (.int (nI 9)), some (.int (nI q)), none] [] z
  have hk8 : k < 8 := h.2.1
  refine hB.bipush d_Md_next_0 (v := 7) rfl ?_
  refine hB.aload_n d_Md_next_2 rfl ?_
  refine hB.getI (Or.inl fa_Md_73) d_Md_next_3 (by decide) sK_126 rfl ?_
  refine hB.iadd d_Md_next_6 ?_
  have ek : (7 : Int32) + z.1 126 5 = nI (8 + k) := by rw [h.1, show 8 + k = 7 + (k + 1) by omega]; exact nI_add 7 (k + 1)
  rw [ek]
  refine hB.istore_n d_Md_next_7 (Nat.le_of_ble_eq_true rfl) ?_
  refine hB.iload_n d_Md_next_8 rfl ?_
  refine hB.tableIn d_Md_next_9 (tgt := 304) (by decide) (by decide) rfl rfl ?_
  refine hB.iload_n d_Md_next_304 rfl ?_
  refine hB.bipush d_Md_next_305 (v := 64) rfl ?_
  refine hB.icmp_ne d_Md_next_307 (tgt := 315) rfl (fun q307 => ?_) (fun q307 => ?_)
  · refine hB.iconst d_Md_next_315 (v := 0) rfl ?_
    exact hE.1 _ _ _ _ _ d_Md_next_316 rfl rfl ⟨frM.rfl, by first | (rw [if_neg q307]; exact qP_none) | (rw [if_pos q307]; exact qP_some (mdQ.re h) rfl)⟩
  · refine hB.bipush d_Md_next_310 (v := 10) rfl ?_
    refine hB.goto d_Md_next_312 (tgt := 316) rfl ?_
    exact hE.1 _ _ _ _ _ d_Md_next_316 rfl rfl ⟨frM.rfl, by first | (rw [if_neg q307]; exact qP_none) | (rw [if_pos q307]; exact qP_some (mdQ.re h) rfl)⟩
set_option maxRecDepth 100000 in
set_option maxHeartbeats 4000000 in
theorem n_13 (l : Launch) (g : mG) (ad : Nat → Nat) (z : sT) {k : Nat} {els : Nat → pE} {p : Int32 × Int32} (h : mdQ z (13, k + 1, els, p)) (q : Nat) (hq : q < 65536)  : sC l y_Md_next c_Md_next 4 (some .int) 3 g ad [.ref (ad 126), .int (nI 13), .int (nI q)] z (fun r w => frM z w ∧ qP (none) r w) := by
  refine sC.intro (own := R_Md) rfl (by decide) (by decide) (by simp [Value.category]) (Nat.le_of_ble_eq_true rfl) (fun K hB hE => ?_)
  show K 0 [some (.ref (ad 126)), some (.int (nI 13)), some (.int (nI q)), none] [] z
  have hk8 : k < 8 := h.2.1
  refine hB.bipush d_Md_next_0 (v := 7) rfl ?_
  refine hB.aload_n d_Md_next_2 rfl ?_
  refine hB.getI (Or.inl fa_Md_73) d_Md_next_3 (by decide) sK_126 rfl ?_
  refine hB.iadd d_Md_next_6 ?_
  have ek : (7 : Int32) + z.1 126 5 = nI (8 + k) := by rw [h.1, show 8 + k = 7 + (k + 1) by omega]; exact nI_add 7 (k + 1)
  rw [ek]
  refine hB.istore_n d_Md_next_7 (Nat.le_of_ble_eq_true rfl) ?_
  refine hB.iload_n d_Md_next_8 rfl ?_
  refine hB.tableIn d_Md_next_9 (tgt := 362) (by decide) (by decide) rfl rfl ?_
  refine hB.iconst d_Md_next_362 (v := 0) rfl ?_
  exact hE.1 _ _ _ _ _ d_Md_next_363 rfl rfl ⟨frM.rfl, qP_none⟩
set_option maxRecDepth 100000 in
set_option maxHeartbeats 4000000 in
theorem n_6 (l : Launch) (g : mG) (ad : Nat → Nat) (z : sT) {k : Nat} {els : Nat → pE} {p : Int32 × Int32} (h : mdQ z (6, k + 1, els, p)) (q : Nat) (hq : q < 65536) (hn : ¬ (els k).2.2.2.2.2 < 0) : sC l y_Md_next c_Md_next 4 (some .int) 3 g ad [.ref (ad 126), .int (nI 6), .int (nI q)] z (fun r w => frM z w ∧ qP (if pDg (nI q) then some (qNum (6, k + 1, els, p) 7 (10 * (els k).2.2.2.2.2 + (nI q - 48))) else qAf (6, k + 1, els, p) (nI q)) r w) := by
  refine sC.intro (own := R_Md) rfl (by decide) (by decide) (by simp [Value.category]) (Nat.le_of_ble_eq_true rfl) (fun K hB hE => ?_)
  show K 0 [some (.ref (ad 126)), some (.int (nI 6)), some (.int (nI q)), none] [] z
  have hk8 : k < 8 := h.2.1
  have hnum : z.1 133 (8 + k) = (els k).2.2.2.2.2 := (h.2.2.1 k (Nat.lt_succ_self k)).2.2.2.2.2
  refine hB.bipush d_Md_next_0 (v := 7) rfl ?_
  refine hB.aload_n d_Md_next_2 rfl ?_
  refine hB.getI (Or.inl fa_Md_73) d_Md_next_3 (by decide) sK_126 rfl ?_
  refine hB.iadd d_Md_next_6 ?_
  have ek : (7 : Int32) + z.1 126 5 = nI (8 + k) := by rw [h.1, show 8 + k = 7 + (k + 1) by omega]; exact nI_add 7 (k + 1)
  rw [ek]
  refine hB.istore_n d_Md_next_7 (Nat.le_of_ble_eq_true rfl) ?_
  refine hB.iload_n d_Md_next_8 rfl ?_
  refine hB.tableIn d_Md_next_9 (tgt := 271) (by decide) (by decide) rfl rfl ?_
  refine hB.iload_n d_Md_next_271 rfl ?_
  refine hB.callS lk_Md_91 cd_Md_digit (k_Md_digit l g ad z (nI q)) d_Md_next_272 rfl rfl (by decide) (by simp [Value.category]) ?_
  rintro _ w9 ⟨rfl, hw9⟩
  have hw8 := hw9.symm
  clear hw9
  subst hw8
  refine hB.if_eq d_Md_next_275 (tgt := 298) rfl (fun q275 => ?_) (fun q275 => ?_)
  · have hd := bI_0 q275
    refine hB.aload_n d_Md_next_298 rfl ?_
    refine hB.iload_n d_Md_next_299 rfl ?_
    refine hB.callV lk_Md_84 cd_Md_after (k_mAfter l g ad z h q hq) rfl (by decide) sK_126 d_Md_next_300 rfl rfl (by decide) (by simp [Value.category]) ?_
    rintro r8 w8 ⟨hf8, hr8⟩
    obtain ⟨x8, rfl⟩ := hr8.int
    show K 303 _ [.int x8] w8
    exact hE.1 _ _ _ _ _ d_Md_next_303 rfl rfl ⟨hf8, by rw [hd]; exact hr8⟩
  · have hd := bI_1 q275
    refine hB.aload_n d_Md_next_278 rfl ?_
    refine hB.iload_n d_Md_next_279 rfl ?_
    refine hB.callV lk_Md_95 cd_Md_figures (k_Md_figures l g ad z k h.1 hk8 (nI q) (by rw [hnum]; exact hn)) rfl (by decide) sK_126 d_Md_next_280 rfl rfl (by decide) (by simp [Value.category]) ?_
    rintro _ w9 ⟨rfl, hw9⟩
    have hw8 := hw9.symm
    clear hw9
    subst hw8
    refine hB.pop d_Md_next_283 rfl ?_
    refine hB.iload_n d_Md_next_284 rfl ?_
    refine hB.bipush d_Md_next_285 (v := 6) rfl ?_
    refine hB.icmp_ne d_Md_next_287 (tgt := 295) rfl (fun q287 => absurd rfl q287) (fun q287 => ?_)
    refine hB.bipush d_Md_next_290 (v := 7) rfl ?_
    refine hB.goto d_Md_next_292 (tgt := 297) rfl ?_
    exact hE.1 _ _ _ _ _ d_Md_next_297 rfl rfl ⟨(h.num (s2 := 7)).2, by rw [hd, hnum, i32_as]; exact qP_some (h.num (s2 := 7)).1 rfl⟩
set_option maxRecDepth 100000 in
set_option maxHeartbeats 4000000 in
theorem n_14 (l : Launch) (g : mG) (ad : Nat → Nat) (z : sT) {k : Nat} {els : Nat → pE} {p : Int32 × Int32} (h : mdQ z (14, k + 1, els, p)) (q : Nat) (hq : q < 65536) (hn : ¬ (els k).2.2.2.2.2 < 0) : sC l y_Md_next c_Md_next 4 (some .int) 3 g ad [.ref (ad 126), .int (nI 14), .int (nI q)] z (fun r w => frM z w ∧ qP (if pDg (nI q) then some (qNum (14, k + 1, els, p) 15 (10 * (els k).2.2.2.2.2 + (nI q - 48))) else qAf (14, k + 1, els, p) (nI q)) r w) := by
  refine sC.intro (own := R_Md) rfl (by decide) (by decide) (by simp [Value.category]) (Nat.le_of_ble_eq_true rfl) (fun K hB hE => ?_)
  show K 0 [some (.ref (ad 126)), some (.int (nI 14)), some (.int (nI q)), none] [] z
  have hk8 : k < 8 := h.2.1
  have hnum : z.1 133 (8 + k) = (els k).2.2.2.2.2 := (h.2.2.1 k (Nat.lt_succ_self k)).2.2.2.2.2
  refine hB.bipush d_Md_next_0 (v := 7) rfl ?_
  refine hB.aload_n d_Md_next_2 rfl ?_
  refine hB.getI (Or.inl fa_Md_73) d_Md_next_3 (by decide) sK_126 rfl ?_
  refine hB.iadd d_Md_next_6 ?_
  have ek : (7 : Int32) + z.1 126 5 = nI (8 + k) := by rw [h.1, show 8 + k = 7 + (k + 1) by omega]; exact nI_add 7 (k + 1)
  rw [ek]
  refine hB.istore_n d_Md_next_7 (Nat.le_of_ble_eq_true rfl) ?_
  refine hB.iload_n d_Md_next_8 rfl ?_
  refine hB.tableIn d_Md_next_9 (tgt := 271) (by decide) (by decide) rfl rfl ?_
  refine hB.iload_n d_Md_next_271 rfl ?_
  refine hB.callS lk_Md_91 cd_Md_digit (k_Md_digit l g ad z (nI q)) d_Md_next_272 rfl rfl (by decide) (by simp [Value.category]) ?_
  rintro _ w9 ⟨rfl, hw9⟩
  have hw8 := hw9.symm
  clear hw9
  subst hw8
  refine hB.if_eq d_Md_next_275 (tgt := 298) rfl (fun q275 => ?_) (fun q275 => ?_)
  · have hd := bI_0 q275
    refine hB.aload_n d_Md_next_298 rfl ?_
    refine hB.iload_n d_Md_next_299 rfl ?_
    refine hB.callV lk_Md_84 cd_Md_after (k_mAfter l g ad z h q hq) rfl (by decide) sK_126 d_Md_next_300 rfl rfl (by decide) (by simp [Value.category]) ?_
    rintro r8 w8 ⟨hf8, hr8⟩
    obtain ⟨x8, rfl⟩ := hr8.int
    show K 303 _ [.int x8] w8
    exact hE.1 _ _ _ _ _ d_Md_next_303 rfl rfl ⟨hf8, by rw [hd]; exact hr8⟩
  · have hd := bI_1 q275
    refine hB.aload_n d_Md_next_278 rfl ?_
    refine hB.iload_n d_Md_next_279 rfl ?_
    refine hB.callV lk_Md_95 cd_Md_figures (k_Md_figures l g ad z k h.1 hk8 (nI q) (by rw [hnum]; exact hn)) rfl (by decide) sK_126 d_Md_next_280 rfl rfl (by decide) (by simp [Value.category]) ?_
    rintro _ w9 ⟨rfl, hw9⟩
    have hw8 := hw9.symm
    clear hw9
    subst hw8
    refine hB.pop d_Md_next_283 rfl ?_
    refine hB.iload_n d_Md_next_284 rfl ?_
    refine hB.bipush d_Md_next_285 (v := 6) rfl ?_
    refine hB.icmp_ne d_Md_next_287 (tgt := 295) rfl (fun q287 => ?_) (fun q287 => absurd q287 (by decide))
    refine hB.bipush d_Md_next_295 (v := 15) rfl ?_
    exact hE.1 _ _ _ _ _ d_Md_next_297 rfl rfl ⟨(h.num (s2 := 15)).2, by rw [hd, hnum, i32_as]; exact qP_some (h.num (s2 := 15)).1 rfl⟩
set_option maxRecDepth 100000 in
set_option maxHeartbeats 4000000 in
theorem n_10 (l : Launch) (g : mG) (ad : Nat → Nat) (z : sT) {k : Nat} {els : Nat → pE} {p : Int32 × Int32} (h : mdQ z (10, k + 1, els, p)) (q : Nat) (hq : q < 65536)  : sC l y_Md_next c_Md_next 4 (some .int) 3 g ad [.ref (ad 126), .int (nI 10), .int (nI q)] z (fun r w => frM z w ∧ qP (if pDg (nI q) then some (10 + 1, k + 1, els, p.1, 10 * p.2 + (nI q - 48)) else none) r w) := by
  refine sC.intro (own := R_Md) rfl (by decide) (by decide) (by simp [Value.category]) (Nat.le_of_ble_eq_true rfl) (fun K hB hE => ?_)
  show K 0 [some (.ref (ad 126)), some (.int (nI 10)), some (.int (nI q)), none] [] z
  have hk8 : k < 8 := h.2.1
  have h344 : ∀ v : Int32, (pDg (nI q) = true → v = 10 * p.2 + (nI q - 48)) → K 344 [some (.ref (ad 126)), some (.int (nI 10)), some (.int (nI q)), some (.int (nI (8 + k)))] [.int v, .ref (ad 126)] z := by
    intro v hv
    refine hB.putI (Or.inl fa_Md_98) d_Md_next_344 (by decide) sK_126 rfl rfl rfl ?_
    refine hB.iload_n d_Md_next_347 rfl ?_
    refine hB.callS lk_Md_91 cd_Md_digit (k_Md_digit l g ad _ (nI q)) d_Md_next_348 rfl rfl (by decide) (by simp [Value.category]) ?_
    rintro _ w9 ⟨rfl, hw9⟩
    have hw8 := hw9.symm
    clear hw9
    subst hw8
    refine hB.if_eq d_Md_next_351 (tgt := 360) rfl (fun q351 => ?_) (fun q351 => ?_)
    · have hd := bI_0 q351
      refine hB.iconst d_Md_next_360 (v := 0) rfl ?_
      exact hE.1 _ _ _ _ _ d_Md_next_361 rfl rfl (by
      refine ⟨⟨rfl, fun a a1 _ => sI_row a1, fun j _ _ j3 => sI_ne j3, fun a j a1 _ _ => by rw [sI_row (by omega)]⟩, ?_⟩
      first
        | (rw [hd]; exact qP_none)
        | (rw [hd, hv hd]
           refine qP_some ⟨by rw [sI_ne (by omega)]; exact h.1, h.2.1, fun j hj => ?_, by rw [sI_ne (by omega)]; exact h.2.2.2.1, sI_eq⟩ rfl
           have := h.2.2.1 j hj
           unfold mdE at this ⊢
           rw [sI_row (by omega), sI_row (by omega), sI_row (by omega), sI_row (by omega), sI_row (by omega), sI_row (by omega)]
           exact this))
    · have hd := bI_1 q351
      refine hB.iload_n d_Md_next_354 rfl ?_
      refine hB.iconst d_Md_next_355 (v := 1) rfl ?_
      refine hB.iadd d_Md_next_356 ?_
      refine hB.goto d_Md_next_357 (tgt := 361) rfl ?_
      exact hE.1 _ _ _ _ _ d_Md_next_361 rfl rfl (by
      refine ⟨⟨rfl, fun a a1 _ => sI_row a1, fun j _ _ j3 => sI_ne j3, fun a j a1 _ _ => by rw [sI_row (by omega)]⟩, ?_⟩
      first
        | (rw [hd]; exact qP_none)
        | (rw [hd, hv hd]
           refine qP_some ⟨by rw [sI_ne (by omega)]; exact h.1, h.2.1, fun j hj => ?_, by rw [sI_ne (by omega)]; exact h.2.2.2.1, sI_eq⟩ rfl
           have := h.2.2.1 j hj
           unfold mdE at this ⊢
           rw [sI_row (by omega), sI_row (by omega), sI_row (by omega), sI_row (by omega), sI_row (by omega), sI_row (by omega)]
           exact this))
  have hwn : z.1 126 15 = p.2 := h.2.2.2.2
  refine hB.bipush d_Md_next_0 (v := 7) rfl ?_
  refine hB.aload_n d_Md_next_2 rfl ?_
  refine hB.getI (Or.inl fa_Md_73) d_Md_next_3 (by decide) sK_126 rfl ?_
  refine hB.iadd d_Md_next_6 ?_
  have ek : (7 : Int32) + z.1 126 5 = nI (8 + k) := by rw [h.1, show 8 + k = 7 + (k + 1) by omega]; exact nI_add 7 (k + 1)
  rw [ek]
  refine hB.istore_n d_Md_next_7 (Nat.le_of_ble_eq_true rfl) ?_
  refine hB.iload_n d_Md_next_8 rfl ?_
  refine hB.tableIn d_Md_next_9 (tgt := 317) (by decide) (by decide) rfl rfl ?_
  refine hB.aload_n d_Md_next_317 rfl ?_
  refine hB.iload_n d_Md_next_318 rfl ?_
  refine hB.callS lk_Md_91 cd_Md_digit (k_Md_digit l g ad z (nI q)) d_Md_next_319 rfl rfl (by decide) (by simp [Value.category]) ?_
  rintro _ w9 ⟨rfl, hw9⟩
  have hw8 := hw9.symm
  clear hw9
  subst hw8
  refine hB.if_eq d_Md_next_322 (tgt := 340) rfl (fun q322 => ?_) (fun q322 => ?_)
  · have hd := bI_0 q322
    refine hB.aload_n d_Md_next_340 rfl ?_
    refine hB.getI (Or.inl fa_Md_98) d_Md_next_341 (by decide) sK_126 rfl ?_
    refine h344 _ (fun h9 => ?_)
    first
      | (rw [hd] at h9; cases h9; done)
      | (rw [hwn, i32_as])
  · have hd := bI_1 q322
    refine hB.bipush d_Md_next_325 (v := 10) rfl ?_
    refine hB.aload_n d_Md_next_327 rfl ?_
    refine hB.getI (Or.inl fa_Md_98) d_Md_next_328 (by decide) sK_126 rfl ?_
    refine hB.imul d_Md_next_331 ?_
    refine hB.iload_n d_Md_next_332 rfl ?_
    refine hB.iadd d_Md_next_333 ?_
    refine hB.bipush d_Md_next_334 (v := 48) rfl ?_
    refine hB.isub d_Md_next_336 ?_
    refine hB.goto d_Md_next_337 (tgt := 344) rfl ?_
    refine h344 _ (fun h9 => ?_)
    first
      | (rw [hd] at h9; cases h9; done)
      | (rw [hwn, i32_as])
set_option maxRecDepth 100000 in
set_option maxHeartbeats 4000000 in
theorem n_11 (l : Launch) (g : mG) (ad : Nat → Nat) (z : sT) {k : Nat} {els : Nat → pE} {p : Int32 × Int32} (h : mdQ z (11, k + 1, els, p)) (q : Nat) (hq : q < 65536)  : sC l y_Md_next c_Md_next 4 (some .int) 3 g ad [.ref (ad 126), .int (nI 11), .int (nI q)] z (fun r w => frM z w ∧ qP (if pDg (nI q) then some (11 + 1, k + 1, els, p.1, 10 * p.2 + (nI q - 48)) else none) r w) := by
  refine sC.intro (own := R_Md) rfl (by decide) (by decide) (by simp [Value.category]) (Nat.le_of_ble_eq_true rfl) (fun K hB hE => ?_)
  show K 0 [some (.ref (ad 126)), some (.int (nI 11)), some (.int (nI q)), none] [] z
  have hk8 : k < 8 := h.2.1
  have h344 : ∀ v : Int32, (pDg (nI q) = true → v = 10 * p.2 + (nI q - 48)) → K 344 [some (.ref (ad 126)), some (.int (nI 11)), some (.int (nI q)), some (.int (nI (8 + k)))] [.int v, .ref (ad 126)] z := by
    intro v hv
    refine hB.putI (Or.inl fa_Md_98) d_Md_next_344 (by decide) sK_126 rfl rfl rfl ?_
    refine hB.iload_n d_Md_next_347 rfl ?_
    refine hB.callS lk_Md_91 cd_Md_digit (k_Md_digit l g ad _ (nI q)) d_Md_next_348 rfl rfl (by decide) (by simp [Value.category]) ?_
    rintro _ w9 ⟨rfl, hw9⟩
    have hw8 := hw9.symm
    clear hw9
    subst hw8
    refine hB.if_eq d_Md_next_351 (tgt := 360) rfl (fun q351 => ?_) (fun q351 => ?_)
    · have hd := bI_0 q351
      refine hB.iconst d_Md_next_360 (v := 0) rfl ?_
      exact hE.1 _ _ _ _ _ d_Md_next_361 rfl rfl (by
      refine ⟨⟨rfl, fun a a1 _ => sI_row a1, fun j _ _ j3 => sI_ne j3, fun a j a1 _ _ => by rw [sI_row (by omega)]⟩, ?_⟩
      first
        | (rw [hd]; exact qP_none)
        | (rw [hd, hv hd]
           refine qP_some ⟨by rw [sI_ne (by omega)]; exact h.1, h.2.1, fun j hj => ?_, by rw [sI_ne (by omega)]; exact h.2.2.2.1, sI_eq⟩ rfl
           have := h.2.2.1 j hj
           unfold mdE at this ⊢
           rw [sI_row (by omega), sI_row (by omega), sI_row (by omega), sI_row (by omega), sI_row (by omega), sI_row (by omega)]
           exact this))
    · have hd := bI_1 q351
      refine hB.iload_n d_Md_next_354 rfl ?_
      refine hB.iconst d_Md_next_355 (v := 1) rfl ?_
      refine hB.iadd d_Md_next_356 ?_
      refine hB.goto d_Md_next_357 (tgt := 361) rfl ?_
      exact hE.1 _ _ _ _ _ d_Md_next_361 rfl rfl (by
      refine ⟨⟨rfl, fun a a1 _ => sI_row a1, fun j _ _ j3 => sI_ne j3, fun a j a1 _ _ => by rw [sI_row (by omega)]⟩, ?_⟩
      first
        | (rw [hd]; exact qP_none)
        | (rw [hd, hv hd]
           refine qP_some ⟨by rw [sI_ne (by omega)]; exact h.1, h.2.1, fun j hj => ?_, by rw [sI_ne (by omega)]; exact h.2.2.2.1, sI_eq⟩ rfl
           have := h.2.2.1 j hj
           unfold mdE at this ⊢
           rw [sI_row (by omega), sI_row (by omega), sI_row (by omega), sI_row (by omega), sI_row (by omega), sI_row (by omega)]
           exact this))
  have hwn : z.1 126 15 = p.2 := h.2.2.2.2
  refine hB.bipush d_Md_next_0 (v := 7) rfl ?_
  refine hB.aload_n d_Md_next_2 rfl ?_
  refine hB.getI (Or.inl fa_Md_73) d_Md_next_3 (by decide) sK_126 rfl ?_
  refine hB.iadd d_Md_next_6 ?_
  have ek : (7 : Int32) + z.1 126 5 = nI (8 + k) := by rw [h.1, show 8 + k = 7 + (k + 1) by omega]; exact nI_add 7 (k + 1)
  rw [ek]
  refine hB.istore_n d_Md_next_7 (Nat.le_of_ble_eq_true rfl) ?_
  refine hB.iload_n d_Md_next_8 rfl ?_
  refine hB.tableIn d_Md_next_9 (tgt := 317) (by decide) (by decide) rfl rfl ?_
  refine hB.aload_n d_Md_next_317 rfl ?_
  refine hB.iload_n d_Md_next_318 rfl ?_
  refine hB.callS lk_Md_91 cd_Md_digit (k_Md_digit l g ad z (nI q)) d_Md_next_319 rfl rfl (by decide) (by simp [Value.category]) ?_
  rintro _ w9 ⟨rfl, hw9⟩
  have hw8 := hw9.symm
  clear hw9
  subst hw8
  refine hB.if_eq d_Md_next_322 (tgt := 340) rfl (fun q322 => ?_) (fun q322 => ?_)
  · have hd := bI_0 q322
    refine hB.aload_n d_Md_next_340 rfl ?_
    refine hB.getI (Or.inl fa_Md_98) d_Md_next_341 (by decide) sK_126 rfl ?_
    refine h344 _ (fun h9 => ?_)
    first
      | (rw [hd] at h9; cases h9; done)
      | (rw [hwn, i32_as])
  · have hd := bI_1 q322
    refine hB.bipush d_Md_next_325 (v := 10) rfl ?_
    refine hB.aload_n d_Md_next_327 rfl ?_
    refine hB.getI (Or.inl fa_Md_98) d_Md_next_328 (by decide) sK_126 rfl ?_
    refine hB.imul d_Md_next_331 ?_
    refine hB.iload_n d_Md_next_332 rfl ?_
    refine hB.iadd d_Md_next_333 ?_
    refine hB.bipush d_Md_next_334 (v := 48) rfl ?_
    refine hB.isub d_Md_next_336 ?_
    refine hB.goto d_Md_next_337 (tgt := 344) rfl ?_
    refine h344 _ (fun h9 => ?_)
    first
      | (rw [hd] at h9; cases h9; done)
      | (rw [hwn, i32_as])
set_option maxRecDepth 100000 in
set_option maxHeartbeats 4000000 in
theorem n_12 (l : Launch) (g : mG) (ad : Nat → Nat) (z : sT) {k : Nat} {els : Nat → pE} {p : Int32 × Int32} (h : mdQ z (12, k + 1, els, p)) (q : Nat) (hq : q < 65536)  : sC l y_Md_next c_Md_next 4 (some .int) 3 g ad [.ref (ad 126), .int (nI 12), .int (nI q)] z (fun r w => frM z w ∧ qP (if pDg (nI q) then some (12 + 1, k + 1, els, p.1, 10 * p.2 + (nI q - 48)) else none) r w) := by
  refine sC.intro (own := R_Md) rfl (by decide) (by decide) (by simp [Value.category]) (Nat.le_of_ble_eq_true rfl) (fun K hB hE => ?_)
  show K 0 [some (.ref (ad 126)), some (.int (nI 12)), some (.int (nI q)), none] [] z
  have hk8 : k < 8 := h.2.1
  have h344 : ∀ v : Int32, (pDg (nI q) = true → v = 10 * p.2 + (nI q - 48)) → K 344 [some (.ref (ad 126)), some (.int (nI 12)), some (.int (nI q)), some (.int (nI (8 + k)))] [.int v, .ref (ad 126)] z := by
    intro v hv
    refine hB.putI (Or.inl fa_Md_98) d_Md_next_344 (by decide) sK_126 rfl rfl rfl ?_
    refine hB.iload_n d_Md_next_347 rfl ?_
    refine hB.callS lk_Md_91 cd_Md_digit (k_Md_digit l g ad _ (nI q)) d_Md_next_348 rfl rfl (by decide) (by simp [Value.category]) ?_
    rintro _ w9 ⟨rfl, hw9⟩
    have hw8 := hw9.symm
    clear hw9
    subst hw8
    refine hB.if_eq d_Md_next_351 (tgt := 360) rfl (fun q351 => ?_) (fun q351 => ?_)
    · have hd := bI_0 q351
      refine hB.iconst d_Md_next_360 (v := 0) rfl ?_
      exact hE.1 _ _ _ _ _ d_Md_next_361 rfl rfl (by
      refine ⟨⟨rfl, fun a a1 _ => sI_row a1, fun j _ _ j3 => sI_ne j3, fun a j a1 _ _ => by rw [sI_row (by omega)]⟩, ?_⟩
      first
        | (rw [hd]; exact qP_none)
        | (rw [hd, hv hd]
           refine qP_some ⟨by rw [sI_ne (by omega)]; exact h.1, h.2.1, fun j hj => ?_, by rw [sI_ne (by omega)]; exact h.2.2.2.1, sI_eq⟩ rfl
           have := h.2.2.1 j hj
           unfold mdE at this ⊢
           rw [sI_row (by omega), sI_row (by omega), sI_row (by omega), sI_row (by omega), sI_row (by omega), sI_row (by omega)]
           exact this))
    · have hd := bI_1 q351
      refine hB.iload_n d_Md_next_354 rfl ?_
      refine hB.iconst d_Md_next_355 (v := 1) rfl ?_
      refine hB.iadd d_Md_next_356 ?_
      refine hB.goto d_Md_next_357 (tgt := 361) rfl ?_
      exact hE.1 _ _ _ _ _ d_Md_next_361 rfl rfl (by
      refine ⟨⟨rfl, fun a a1 _ => sI_row a1, fun j _ _ j3 => sI_ne j3, fun a j a1 _ _ => by rw [sI_row (by omega)]⟩, ?_⟩
      first
        | (rw [hd]; exact qP_none)
        | (rw [hd, hv hd]
           refine qP_some ⟨by rw [sI_ne (by omega)]; exact h.1, h.2.1, fun j hj => ?_, by rw [sI_ne (by omega)]; exact h.2.2.2.1, sI_eq⟩ rfl
           have := h.2.2.1 j hj
           unfold mdE at this ⊢
           rw [sI_row (by omega), sI_row (by omega), sI_row (by omega), sI_row (by omega), sI_row (by omega), sI_row (by omega)]
           exact this))
  have hwn : z.1 126 15 = p.2 := h.2.2.2.2
  refine hB.bipush d_Md_next_0 (v := 7) rfl ?_
  refine hB.aload_n d_Md_next_2 rfl ?_
  refine hB.getI (Or.inl fa_Md_73) d_Md_next_3 (by decide) sK_126 rfl ?_
  refine hB.iadd d_Md_next_6 ?_
  have ek : (7 : Int32) + z.1 126 5 = nI (8 + k) := by rw [h.1, show 8 + k = 7 + (k + 1) by omega]; exact nI_add 7 (k + 1)
  rw [ek]
  refine hB.istore_n d_Md_next_7 (Nat.le_of_ble_eq_true rfl) ?_
  refine hB.iload_n d_Md_next_8 rfl ?_
  refine hB.tableIn d_Md_next_9 (tgt := 317) (by decide) (by decide) rfl rfl ?_
  refine hB.aload_n d_Md_next_317 rfl ?_
  refine hB.iload_n d_Md_next_318 rfl ?_
  refine hB.callS lk_Md_91 cd_Md_digit (k_Md_digit l g ad z (nI q)) d_Md_next_319 rfl rfl (by decide) (by simp [Value.category]) ?_
  rintro _ w9 ⟨rfl, hw9⟩
  have hw8 := hw9.symm
  clear hw9
  subst hw8
  refine hB.if_eq d_Md_next_322 (tgt := 340) rfl (fun q322 => ?_) (fun q322 => ?_)
  · have hd := bI_0 q322
    refine hB.aload_n d_Md_next_340 rfl ?_
    refine hB.getI (Or.inl fa_Md_98) d_Md_next_341 (by decide) sK_126 rfl ?_
    refine h344 _ (fun h9 => ?_)
    first
      | (rw [hd] at h9; cases h9; done)
      | (rw [hwn, i32_as])
  · have hd := bI_1 q322
    refine hB.bipush d_Md_next_325 (v := 10) rfl ?_
    refine hB.aload_n d_Md_next_327 rfl ?_
    refine hB.getI (Or.inl fa_Md_98) d_Md_next_328 (by decide) sK_126 rfl ?_
    refine hB.imul d_Md_next_331 ?_
    refine hB.iload_n d_Md_next_332 rfl ?_
    refine hB.iadd d_Md_next_333 ?_
    refine hB.bipush d_Md_next_334 (v := 48) rfl ?_
    refine hB.isub d_Md_next_336 ?_
    refine hB.goto d_Md_next_337 (tgt := 344) rfl ?_
    refine h344 _ (fun h9 => ?_)
    first
      | (rw [hd] at h9; cases h9; done)
      | (rw [hwn, i32_as])
