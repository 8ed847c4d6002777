def cdT (t : Int32) : Int32 := if t = 60 then 1 else if t = 61 then 2 else if t = 62 then 3 else 0
def mdE (z : sT) (j : Nat) (E : pE) : Prop := z.1 128 j = E.2.1 ∧ z.1 129 j = E.1 ∧ z.1 130 j = E.2.2.1 ∧ z.1 131 j = cdT E.2.2.2.1 ∧ z.1 132 j = E.2.2.2.2.1 ∧ z.1 133 j = E.2.2.2.2.2
def mdQ (z : sT) (c : qC) : Prop := z.1 126 5 = nI c.2.1 ∧ c.2.1 ≤ 8 ∧ (∀ j, j < c.2.1 → mdE z (8 + j) (c.2.2.1 j)) ∧ z.1 126 13 = c.2.2.2.1 ∧ z.1 126 15 = c.2.2.2.2
def frM (z w : sT) : Prop := w.2 = z.2 ∧ (∀ a, a ≠ 126 → (a < 128 ∨ 133 < a) → w.1 a = z.1 a) ∧ (∀ j, j ≠ 5 → j ≠ 13 → j ≠ 15 → w.1 126 j = z.1 126 j) ∧ (∀ a j, 128 ≤ a → a ≤ 133 → j < 8 → w.1 a j = z.1 a j)
theorem frM.rfl {z : sT} : frM z z := ⟨Eq.refl _, fun _ _ _ => Eq.refl _, fun _ _ _ _ => Eq.refl _, fun _ _ _ _ _ => Eq.refl _⟩
theorem frM.trans {z w v : sT} (h : frM z w) (h2 : frM w v) : frM z v := ⟨h2.1.trans h.1, fun a a1 a2 => (h2.2.1 a a1 a2).trans (h.2.1 a a1 a2), fun j a1 a2 a3 => (h2.2.2.1 j a1 a2 a3).trans (h.2.2.1 j a1 a2 a3), fun a j a1 a2 a3 => (h2.2.2.2 a j a1 a2 a3).trans (h.2.2.2 a j a1 a2 a3)⟩
def qP (oc : Option qC) (r : Option Value) (w : sT) : Prop := (∀ d, oc = some d → r = some (.int (nI d.1)) ∧ mdQ w d) ∧ (oc = none → r = some (.int 0))
theorem sI_ne {z : sT} {i j a b : Nat} {x : Int32} (h : b ≠ j) : (sI z i j x).1 a b = z.1 a b := by simp [sI, h]
theorem sI_eq {z : sT} {i j : Nat} {x : Int32} : (sI z i j x).1 i j = x := by simp [sI]
theorem mdQ.set {z w : sT} {s s2 k : Nat} {els : Nat → pE} {p : Int32 × Int32} {E : pE} (h : mdQ z (s, k + 1, els, p)) (h2 : w.2 = z.2) (h1 : ∀ a, (a < 128 ∨ 133 < a) → w.1 a = z.1 a) (h3 : ∀ a j, 128 ≤ a → a ≤ 133 → j ≠ 8 + k → w.1 a j = z.1 a j) (hE : mdE w (8 + k) E) : mdQ w (s2, k + 1, uE els k E, p) ∧ frM z w := by
  obtain ⟨q1, q2, q3, q4, q5⟩ := h
  refine ⟨⟨by rw [h1 126 (by omega)]; exact q1, q2, fun j hj => ?_, by rw [h1 126 (by omega)]; exact q4, by rw [h1 126 (by omega)]; exact q5⟩, h2, fun a _ ha => h1 a ha, fun j _ _ _ => by rw [h1 126 (by omega)], fun a j a1 a2 a3 => h3 a j a1 a2 (by omega)⟩
  by_cases hjk : j = k
  · subst hjk
    have e : uE els j E j = E := by simp [uE]
    show mdE w (8 + j) (uE els j E j)
    rw [e]
    exact hE
  · have e : uE els k E j = els j := by simp [uE, hjk]
    show mdE w (8 + j) (uE els k E j)
    rw [e]
    obtain ⟨m1, m2, m3, m4, m5, m6⟩ := q3 j hj
    exact ⟨by rw [h3 128 _ (by omega) (by omega) (by omega)]; exact m1, by rw [h3 129 _ (by omega) (by omega) (by omega)]; exact m2, by rw [h3 130 _ (by omega) (by omega) (by omega)]; exact m3, by rw [h3 131 _ (by omega) (by omega) (by omega)]; exact m4, by rw [h3 132 _ (by omega) (by omega) (by omega)]; exact m5, by rw [h3 133 _ (by omega) (by omega) (by omega)]; exact m6⟩
theorem sBg_at {z : sT} {k j a : Nat} {x b : Int32} (ha : 128 ≤ a) (hj : j ≠ 8 + k) : (sBg z k x b).1 a j = z.1 a j := by
  unfold sBg
  rw [sI_ne hj, sI_ne hj, sI_ne hj, sI_ne hj, sI_ne hj, sI_ne hj, sI_row (by omega)]
theorem sBg_126 {z : sT} {k j : Nat} {x b : Int32} : (sBg z k x b).1 126 j = if j = 5 then nI (k + 1) else z.1 126 j := by
  unfold sBg
  rw [sI_row (by omega), sI_row (by omega), sI_row (by omega), sI_row (by omega), sI_row (by omega), sI_row (by omega)]
  by_cases h : j = 5 <;> simp [sI, h]
theorem sBg_row {z : sT} {k a : Nat} {x b : Int32} (ha : a ≠ 126) (h2 : a < 128 ∨ 133 < a) : (sBg z k x b).1 a = z.1 a := by
  unfold sBg
  rw [sI_row (by omega), sI_row (by omega), sI_row (by omega), sI_row (by omega), sI_row (by omega), sI_row (by omega), sI_row ha]
theorem mdQ.bg {z : sT} {s k : Nat} {els : Nat → pE} {p : Int32 × Int32} {x b : Int32} (h : mdQ z (s, k, els, p)) (hk : k < 8) : mdQ (sBg z k x b) (2, k + 1, uE els k (b, x, 0, 32, 0, 0), p) ∧ frM z (sBg z k x b) := by
  obtain ⟨q1, q2, q3, q4, q5⟩ := h
  refine ⟨⟨by rw [sBg_126]; rfl, by show k + 1 ≤ 8; omega, fun j hj => ?_, by rw [sBg_126]; exact q4, by rw [sBg_126]; exact q5⟩, rfl, fun a a1 a2 => sBg_row a1 a2, fun j j1 _ _ => by rw [sBg_126, if_neg j1], fun a j a1 a2 a3 => sBg_at a1 (by omega)⟩
  show mdE (sBg z k x b) (8 + j) (uE els k (b, x, 0, 32, 0, 0) j)
  by_cases hjk : j = k
  · subst hjk
    have e : uE els j (b, x, 0, 32, 0, 0) j = (b, x, 0, 32, 0, 0) := by simp [uE]
    rw [e]
    refine ⟨?_, ?_, ?_, ?_, ?_, ?_⟩ <;> simp [sBg, sI, cdT]
  · have e : uE els k (b, x, 0, 32, 0, 0) j = els j := by simp [uE, hjk]
    rw [e]
    have hj2 : j < k := by
      have : j < k + 1 := hj
      omega
    obtain ⟨m1, m2, m3, m4, m5, m6⟩ := q3 j hj2
    exact ⟨by rw [sBg_at (by omega) (by omega)]; exact m1, by rw [sBg_at (by omega) (by omega)]; exact m2, by rw [sBg_at (by omega) (by omega)]; exact m3, by rw [sBg_at (by omega) (by omega)]; exact m4, by rw [sBg_at (by omega) (by omega)]; exact m5, by rw [sBg_at (by omega) (by omega)]; exact m6⟩
theorem qP_bg {z : sT} {s k : Nat} {els : Nat → pE} {p : Int32 × Int32} {x : Int32} {b : Bool} {r : Option Value} {w : sT} (h : mdQ z (s, k, els, p)) (hk : k < 8) (hr : (pKd x = true → r = some (.int 2) ∧ w = sBg z k x (bI b)) ∧ (pKd x = false → r = some (.int 0) ∧ w = z)) : frM z w ∧ qP (qBg (s, k, els, p) x (bI b)) r w := by
  cases hp : pKd x
  · obtain ⟨e1, e2⟩ := hr.2 hp
    subst e2
    have e : qBg (s, k, els, p) x (bI b) = none := by unfold qBg; rw [hp]; rfl
    rw [e]
    exact ⟨frM.rfl, fun d hd => by (cases hd), fun _ => e1⟩
  · obtain ⟨e1, e2⟩ := hr.1 hp
    subst e2
    have e : qBg (s, k, els, p) x (bI b) = some (2, k + 1, uE els k (bI b, x, 0, 32, 0, 0), p) := by unfold qBg; rw [hp]; rfl
    rw [e]
    obtain ⟨b1, b2⟩ := h.bg (x := x) (b := bI b) hk
    exact ⟨b2, fun d hd => by cases hd; exact ⟨e1, b1⟩, fun q => by cases q⟩
theorem k_mBegin (l : Launch) (g : mG) (ad : Nat → Nat) (z : sT) {s k : Nat} {els : Nat → pE} {p : Int32 × Int32} (h : mdQ z (s, k, els, p)) (hk : k < 8) (q : Nat) (hq : q < 65536) (b : Bool) : sC l y_Md_begin c_Md_begin 5 (some .int) 0 g ad [.ref (ad 126), .int (nI q), .int (bI b)] z (fun r w => frM z w ∧ qP (qBg (s, k, els, p) (nI q) (bI b)) r w) :=
  (k_Md_begin l g ad z k h.1 hk q hq b).mono (fun r w hr => qP_bg h hk hr)
theorem k_mAfter (l : Launch) (g : mG) (ad : Nat → Nat) (z : sT) {s k : Nat} {els : Nat → pE} {p : Int32 × Int32} (h : mdQ z (s, k + 1, els, p)) (q : Nat) (hq : q < 65536) : sC l y_Md_after c_Md_after 4 (some .int) 1 g ad [.ref (ad 126), .int (nI q)] z (fun r w => frM z w ∧ qP (qAf (s, k + 1, els, p) (nI q)) r w) := by
  have hk8 : k < 8 := h.2.1
  refine (k_Md_after l g ad z k h.1 hk8 q hq).mono (fun r w hr => ?_)
  obtain ⟨m1, m2, m3, m4, m5, m6⟩ := h.2.2.1 k (Nat.lt_succ_self k)
  have m2' : z.1 129 (8 + k) = (els k).1 := m2
  have m3' : z.1 130 (8 + k) = (els k).2.2.1 := m3
  rw [m2', m3'] at hr
  have hqe : qE (s, k + 1, els, p) = els k := rfl
  unfold qAf
  rw [hqe]
  obtain ⟨r1, r2, r3, r4, r5⟩ := hr
  by_cases h35 : nI q = 35
  · rw [if_pos h35]
    obtain ⟨e1, e2⟩ := r1 h35
    subst e2
    have fr : ∀ v : Int32, frM z (sI z 126 13 v) := fun v => ⟨rfl, fun a a1 _ => sI_row a1, fun j _ j2 _ => sI_ne j2, fun a j a1 _ _ => by rw [sI_row (by omega)]⟩
    refine ⟨fr _, ?_⟩
    by_cases hl : (els k).1 = 0 ∧ (els k).2.2.1 = 0
    · rw [if_pos hl]
      rw [hl.1, hl.2] at e1 ⊢
      refine ⟨fun d hd => ?_, fun q => by cases q⟩
      cases hd
      refine ⟨e1, ⟨by rw [sI_ne (by omega)]; exact h.1, h.2.1, fun j hj => ?_, sI_eq, by rw [sI_ne (by omega)]; exact h.2.2.2.2⟩⟩
      have := h.2.2.1 j hj
      unfold mdE at this ⊢
      rw [sI_row (by omega), sI_row (by omega), sI_row (by omega), sI_row (by omega), sI_row (by omega), sI_row (by omega)]
      exact this
    · rw [if_neg hl]
      refine ⟨fun d hd => by (cases hd), fun _ => ?_⟩
      have e0 : (decide ((els k).1 = 0) && decide ((els k).2.2.1 = 0)) = false := by
        by_cases ha : (els k).1 = 0
        · have hb : ¬ (els k).2.2.1 = 0 := fun q => hl ⟨ha, q⟩
          simp [hb]
        · simp [ha]
      rw [e0] at e1
      exact e1
  · rw [if_neg h35]
    by_cases h64 : nI q = 64
    · rw [if_pos h64]
      obtain ⟨e1, e2⟩ := r2 h35 h64
      subst e2
      refine ⟨frM.rfl, ?_⟩
      by_cases hl : (els k).1 = 0 ∧ (els k).2.2.1 = 0
      · rw [if_pos hl]
        rw [hl.1, hl.2] at e1
        refine ⟨fun d hd => ?_, fun q => by cases q⟩
        cases hd
        exact ⟨e1, h⟩
      · rw [if_neg hl]
        refine ⟨fun d hd => by (cases hd), fun _ => ?_⟩
        have e0 : (decide ((els k).1 = 0) && decide ((els k).2.2.1 = 0)) = false := by
          by_cases ha : (els k).1 = 0
          · have hb : ¬ (els k).2.2.1 = 0 := fun q => hl ⟨ha, q⟩
            simp [hb]
          · simp [ha]
        rw [e0] at e1
        exact e1
    · rw [if_neg h64]
      by_cases h8 : k + 1 = 8
      · rw [if_pos (show ((s, k + 1, els, p) : qC).2.1 = 8 from h8)]
        obtain ⟨e1, e2⟩ := r3 h35 h64 h8
        subst e2
        exact ⟨frM.rfl, fun d hd => by (cases hd), fun _ => e1⟩
      · rw [if_neg (show ¬ ((s, k + 1, els, p) : qC).2.1 = 8 from h8)]
        have h7 : k + 1 < 8 := by omega
        by_cases h33 : nI q = 33
        · rw [if_pos h33]
          obtain ⟨e1, e2⟩ := r4 h35 h64 h7 h33
          subst e2
          refine ⟨frM.rfl, ?_⟩
          by_cases h6 : k + 1 < 7
          · rw [if_pos (show ((s, k + 1, els, p) : qC).2.1 < 7 from h6)]
            rw [if_pos h6] at e1
            refine ⟨fun d hd => ?_, fun q => by cases q⟩
            cases hd
            exact ⟨e1, h⟩
          · rw [if_neg (show ¬ ((s, k + 1, els, p) : qC).2.1 < 7 from h6)]
            rw [if_neg h6] at e1
            exact ⟨fun d hd => by (cases hd), fun _ => e1⟩
        · rw [if_neg h33]
          exact qP_bg (b := false) h h7 (r5 h35 h64 h7 h33)
theorem cdT_ts {x : Int32} (h : pTs x = true) : ¬ cdT x ≤ 0 := by
  unfold pTs at h
  unfold cdT
  by_cases h1 : x = 60
  · rw [if_pos h1]; decide
  · by_cases h2 : x = 61
    · rw [if_neg h1, if_pos h2]; decide
    · by_cases h3 : x = 62
      · rw [if_neg h1, if_neg h2, if_pos h3]; decide
      · simp [h1, h2, h3] at h
theorem cdT_no {x : Int32} (h : pTs x = false) : cdT x = 0 := by
  unfold pTs at h
  simp only [Bool.or_eq_false_iff, decide_eq_false_iff_not] at h
  unfold cdT
  rw [if_neg h.1, if_neg h.2.1, if_neg h.2.2]
theorem mdQ.c131 {z : sT} {s s2 k : Nat} {els : Nat → pE} {p : Int32 × Int32} {t : Int32} (h : mdQ z (s, k + 1, els, p)) : mdQ (sI z 131 (8 + k) (cdT t)) (s2, k + 1, uE els k ((els k).1, (els k).2.1, (els k).2.2.1, t, (els k).2.2.2.2), p) ∧ frM z (sI z 131 (8 + k) (cdT t)) := by
  refine h.set rfl (fun a ha => sI_row (by omega)) (fun a j _ _ hj => sI_ne hj) ?_
  obtain ⟨m1, m2, m3, m4, m5, m6⟩ := h.2.2.1 k (Nat.lt_succ_self k)
  exact ⟨by rw [sI_row (by omega)]; exact m1, by rw [sI_row (by omega)]; exact m2, by rw [sI_row (by omega)]; exact m3, sI_eq, by rw [sI_row (by omega)]; exact m5, by rw [sI_row (by omega)]; exact m6⟩
theorem uE_same {els : Nat → pE} {k : Nat} {E : pE} (h : E = els k) : uE els k E = els := by
  funext j
  unfold uE
  by_cases hj : j = k
  · rw [if_pos hj, h, hj]
  · rw [if_neg hj]
set_option maxRecDepth 100000 in
set_option maxHeartbeats 4000000 in
theorem k_Md_compare (l : Launch) (g : mG) (ad : Nat → Nat) (z : sT) {s k : Nat} {els : Nat → pE} {p : Int32 × Int32} (h : mdQ z (s, k + 1, els, p)) (htest : (els k).2.2.2.1 = 32) (q : Nat) (hq : q < 65536) : sC l y_Md_compare c_Md_compare 3 (some .int) 2 g ad [.ref (ad 126), .int (nI q)] z (fun r w => frM z w ∧ qP (qCm (s, k + 1, els, p) (nI q)) r w) := by
  refine sC.intro (own := R_Md) rfl (by decide) (by decide) (by simp [Value.category]) (Nat.le_of_ble_eq_true rfl) (fun K hB hE => ?_)
  show K 0 [some (.ref (ad 126)), some (.int (nI q)), none] [] z
  have hk8 : k < 8 := h.2.1
  have h44 : ∀ v : Int32, v = cdT (nI q) → K 44 [some (.ref (ad 126)), some (.int (nI q)), some (.int (nI (8 + k)))] [.int v, .int (nI (8 + k)), .ref (ad 131)] z := by
    intro v hv9
    rw [hv9]
    refine hB.iast d_Md_compare_44 (by decide) rfl rfl (by omega) (by decide) ?_
    refine hB.aload_n d_Md_compare_45 rfl ?_
    refine hB.getC (Or.inl fa_Md_27) d_Md_compare_46 (by decide) sK_126 rfl ?_
    refine hB.iload_n d_Md_compare_49 rfl ?_
    refine hB.iald d_Md_compare_50 (by decide) rfl rfl (by omega) (by decide) ?_
    rw [sI_eq]
    refine hB.if_le d_Md_compare_51 (tgt := 58) rfl (fun q51 => ?_) (fun q51 => ?_)
    · have hT : pTs (nI q) = false := by
        cases hp : pTs (nI q)
        · rfl
        · exact absurd q51 (cdT_ts hp)
      have hv := h.c131 (s2 := s) (t := nI q)
      rw [cdT_no hT] at hv ⊢
      have hz : mdQ (sI z 131 (8 + k) 0) (s, k + 1, els, p) := by
        have h9 := h.c131 (s2 := s) (t := 32)
        rw [uE_same (by rw [← htest])] at h9
        exact h9.1
      refine hB.aload_n d_Md_compare_58 rfl ?_
      refine hB.iload_n d_Md_compare_59 rfl ?_
      refine hB.callV lk_Md_84 cd_Md_after (k_mAfter l g ad (sI z 131 (8 + k) 0) hz q hq) rfl (by decide) sK_126 d_Md_compare_60 rfl rfl (by decide) (by simp [Value.category]) ?_
      rintro r8 w8 ⟨hf8, hr8⟩
      have hx8 : ∃ x : Int32, r8 = some (.int x) := by
        cases hp : qAf (s, k + 1, els, p) (nI q) with
        | none => exact ⟨_, hr8.2 hp⟩
        | some d => exact ⟨_, (hr8.1 d hp).1⟩
      obtain ⟨x8, rfl⟩ := hx8
      show K 63 _ [.int x8] w8
      exact hE.1 _ _ _ _ _ d_Md_compare_63 rfl rfl (by
          first
            | (have e : qCm (s, k + 1, els, p) (nI q) = qAf (s, k + 1, els, p) (nI q) := by unfold qCm; rw [hT]; rfl
               rw [e]
               exact ⟨hv.2.trans hf8, hr8⟩)
            | (have e : qCm (s, k + 1, els, p) (nI q) = some (4, k + 1, uE els k ((els k).1, (els k).2.1, (els k).2.2.1, nI q, (els k).2.2.2.2), p) := by unfold qCm; rw [hT]; rfl
               rw [e]
               exact ⟨hv.2, fun d hd => by cases hd; exact ⟨rfl, hv.1⟩, fun q9 => by cases q9⟩))
    · have hT : pTs (nI q) = true := by
        cases hp : pTs (nI q)
        · rw [cdT_no hp] at q51; exact absurd (by decide) q51
        · rfl
      have hv := h.c131 (s2 := 4) (t := nI q)
      refine hB.iconst d_Md_compare_54 (v := 4) rfl ?_
      refine hB.goto d_Md_compare_55 (tgt := 63) rfl ?_
      exact hE.1 _ _ _ _ _ d_Md_compare_63 rfl rfl (by
          first
            | (have e : qCm (s, k + 1, els, p) (nI q) = qAf (s, k + 1, els, p) (nI q) := by unfold qCm; rw [hT]; rfl
               rw [e]
               exact ⟨hv.2.trans hf8, hr8⟩)
            | (have e : qCm (s, k + 1, els, p) (nI q) = some (4, k + 1, uE els k ((els k).1, (els k).2.1, (els k).2.2.1, nI q, (els k).2.2.2.2), p) := by unfold qCm; rw [hT]; rfl
               rw [e]
               exact ⟨hv.2, fun d hd => by cases hd; exact ⟨rfl, hv.1⟩, fun q9 => by cases q9⟩))
  refine hB.bipush d_Md_compare_0 (v := 7) rfl ?_
  refine hB.aload_n d_Md_compare_2 rfl ?_
  refine hB.getI (Or.inl fa_Md_73) d_Md_compare_3 (by decide) sK_126 rfl ?_
  refine hB.iadd d_Md_compare_6 ?_
  have ek : (7 : Int32) + z.1 126 5 = nI (8 + k) := by rw [h.1, show 8 + k = 7 + (k + 1) by omega]; exact nI_add 7 (k + 1)
  rw [ek]
  refine hB.istore_n d_Md_compare_7 (Nat.le_of_ble_eq_true rfl) ?_
  refine hB.aload_n d_Md_compare_8 rfl ?_
  refine hB.getC (Or.inl fa_Md_27) d_Md_compare_9 (by decide) sK_126 rfl ?_
  refine hB.iload_n d_Md_compare_12 rfl ?_
  refine hB.iload_n d_Md_compare_13 rfl ?_
  refine hB.bipush d_Md_compare_14 (v := 60) rfl ?_
  refine hB.icmp_ne d_Md_compare_16 (tgt := 23) rfl (fun q16 => ?_) (fun q16 => ?_)
  · refine hB.iload_n d_Md_compare_23 rfl ?_
    refine hB.bipush d_Md_compare_24 (v := 61) rfl ?_
    refine hB.icmp_ne d_Md_compare_26 (tgt := 33) rfl (fun q26 => ?_) (fun q26 => ?_)
    · refine hB.iload_n d_Md_compare_33 rfl ?_
      refine hB.bipush d_Md_compare_34 (v := 62) rfl ?_
      refine hB.icmp_ne d_Md_compare_36 (tgt := 43) rfl (fun q36 => ?_) (fun q36 => ?_)
      · refine hB.iconst d_Md_compare_43 (v := 0) rfl ?_
        first
          | (refine h44 _ ?_; have h9 : nI q = 60 := q16; rw [h9]; rfl; done)
          | (refine h44 _ ?_; have h9 : nI q = 61 := q26; rw [h9]; rfl; done)
          | (refine h44 _ ?_; have h9 : nI q = 62 := q36; rw [h9]; rfl; done)
          | (refine h44 _ ?_; have h9 : ¬ nI q = 60 := q16; have h8 : ¬ nI q = 61 := q26; have h7 : ¬ nI q = 62 := q36; unfold cdT; rw [if_neg h9, if_neg h8, if_neg h7])
      · refine hB.iconst d_Md_compare_39 (v := 3) rfl ?_
        refine hB.goto d_Md_compare_40 (tgt := 44) rfl ?_
        first
          | (refine h44 _ ?_; have h9 : nI q = 60 := q16; rw [h9]; rfl; done)
          | (refine h44 _ ?_; have h9 : nI q = 61 := q26; rw [h9]; rfl; done)
          | (refine h44 _ ?_; have h9 : nI q = 62 := q36; rw [h9]; rfl; done)
          | (refine h44 _ ?_; have h9 : ¬ nI q = 60 := q16; have h8 : ¬ nI q = 61 := q26; have h7 : ¬ nI q = 62 := q36; unfold cdT; rw [if_neg h9, if_neg h8, if_neg h7])
    · refine hB.iconst d_Md_compare_29 (v := 2) rfl ?_
      refine hB.goto d_Md_compare_30 (tgt := 44) rfl ?_
      first
        | (refine h44 _ ?_; have h9 : nI q = 60 := q16; rw [h9]; rfl; done)
        | (refine h44 _ ?_; have h9 : nI q = 61 := q26; rw [h9]; rfl; done)
        | (refine h44 _ ?_; have h9 : nI q = 62 := q36; rw [h9]; rfl; done)
        | (refine h44 _ ?_; have h9 : ¬ nI q = 60 := q16; have h8 : ¬ nI q = 61 := q26; have h7 : ¬ nI q = 62 := q36; unfold cdT; rw [if_neg h9, if_neg h8, if_neg h7])
  · refine hB.iconst d_Md_compare_19 (v := 1) rfl ?_
    refine hB.goto d_Md_compare_20 (tgt := 44) rfl ?_
    first
      | (refine h44 _ ?_; have h9 : nI q = 60 := q16; rw [h9]; rfl; done)
      | (refine h44 _ ?_; have h9 : nI q = 61 := q26; rw [h9]; rfl; done)
      | (refine h44 _ ?_; have h9 : nI q = 62 := q36; rw [h9]; rfl; done)
      | (refine h44 _ ?_; have h9 : ¬ nI q = 60 := q16; have h8 : ¬ nI q = 61 := q26; have h7 : ¬ nI q = 62 := q36; unfold cdT; rw [if_neg h9, if_neg h8, if_neg h7])
set_option maxRecDepth 100000 in
set_option maxHeartbeats 4000000 in
theorem k_Md_figures (l : Launch) (g : mG) (ad : Nat → Nat) (z : sT) (k : Nat) (hk : z.1 126 5 = nI (k + 1)) (hk8 : k < 8) (x : Int32) (hx : ¬ z.1 133 (8 + k) < 0) : sC l y_Md_figures c_Md_figures 4 (some .int) 0 g ad [.ref (ad 126), .int x] z (fun r w => r = some (.int 0) ∧ w = sI z 133 (8 + k) (10 * z.1 133 (8 + k) + x - 48)) := by
  refine sC.intro (own := R_Md) rfl (by decide) (by decide) (by simp [Value.category]) (Nat.le_of_ble_eq_true rfl) (fun K hB hE => ?_)
  show K 0 [some (.ref (ad 126)), some (.int x), none, none] [] z
  refine hB.bipush d_Md_figures_0 (v := 7) rfl ?_
  refine hB.aload_n d_Md_figures_2 rfl ?_
  refine hB.getI (Or.inl fa_Md_73) d_Md_figures_3 (by decide) sK_126 rfl ?_
  refine hB.iadd d_Md_figures_6 ?_
  have ek : (7 : Int32) + z.1 126 5 = nI (8 + k) := by rw [hk, show 8 + k = 7 + (k + 1) by omega]; exact nI_add 7 (k + 1)
  rw [ek]
  refine hB.istore_n d_Md_figures_7 (Nat.le_of_ble_eq_true rfl) ?_
  refine hB.bipush d_Md_figures_8 (v := 10) rfl ?_
  refine hB.aload_n d_Md_figures_10 rfl ?_
  refine hB.getC (Or.inl fa_Md_34) d_Md_figures_11 (by decide) sK_126 rfl ?_
  refine hB.iload_n d_Md_figures_14 rfl ?_
  refine hB.iald d_Md_figures_15 (by decide) rfl rfl (by omega) (by decide) ?_
  refine hB.if_ge d_Md_figures_16 (tgt := 29) rfl (fun q16 => ?_) (fun q16 => absurd (Int32.not_lt.mp hx) q16)
  refine hB.aload_n d_Md_figures_29 rfl ?_
  refine hB.getC (Or.inl fa_Md_34) d_Md_figures_30 (by decide) sK_126 rfl ?_
  refine hB.iload_n d_Md_figures_33 rfl ?_
  refine hB.iald d_Md_figures_34 (by decide) rfl rfl (by omega) (by decide) ?_
  refine hB.imul d_Md_figures_35 ?_
  refine hB.iload_n d_Md_figures_36 rfl ?_
  refine hB.iadd d_Md_figures_37 ?_
  refine hB.bipush d_Md_figures_38 (v := 48) rfl ?_
  refine hB.isub d_Md_figures_40 ?_
  refine hB.istore_n d_Md_figures_41 (Nat.le_of_ble_eq_true rfl) ?_
  refine hB.aload_n d_Md_figures_42 rfl ?_
  refine hB.getC (Or.inl fa_Md_34) d_Md_figures_43 (by decide) sK_126 rfl ?_
  refine hB.iload_n d_Md_figures_46 rfl ?_
  refine hB.iload_n d_Md_figures_47 rfl ?_
  refine hB.iast d_Md_figures_48 (by decide) rfl rfl (by omega) (by decide) ?_
  refine hB.iconst d_Md_figures_49 (v := 0) rfl ?_
  exact hE.1 _ _ _ _ _ d_Md_figures_50 rfl rfl ⟨rfl, rfl⟩
