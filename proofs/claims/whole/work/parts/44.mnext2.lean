theorem num0 (v : Int32) : (10 : Int32) * 0 + v - 48 = v - 48 := by
  rw [show (10 : Int32) * 0 = 0 from by decide, Int32.zero_add]
theorem mdQ.num0 {z : sT} {s s2 k : Nat} {els : Nat → pE} {p : Int32 × Int32} (h : mdQ z (s, k + 1, els, p)) (hn : (els k).2.2.2.2.2 = 0) : mdQ (sI z 133 (8 + k) 0) (s2, k + 1, els, p) := by
  have h9 := (h.num (s2 := s2) (v := 0)).1
  rw [uE_same (by rw [← hn])] at h9
  exact h9
set_option maxRecDepth 100000 in
set_option maxHeartbeats 4000000 in
theorem n_5 (l : Launch) (g : mG) (ad : Nat → Nat) (z : sT) {k : Nat} {els : Nat → pE} {p : Int32 × Int32} (h : mdQ z (5, k + 1, els, p)) (q : Nat) (hq : q < 65536) (hn : (els k).2.2.2.2.2 = 0) : sC l y_Md_next c_Md_next 4 (some .int) 3 g ad [.ref (ad 126), .int (nI 5), .int (nI q)] z (fun r w => frM z w ∧ qP (if pDg (nI q) then some (qNum (5, k + 1, els, p) 14 (nI q - 48)) else none) r w) := by
  refine sC.intro (own := R_Md) rfl (by decide) (by decide) (by simp [Value.category]) (Nat.le_of_ble_eq_true rfl) (fun K hB hE => ?_)
  show K 0 [some (.ref (ad 126)), some (.int (nI 5)), some (.int (nI q)), none] [] z
  have hk8 : k < 8 := h.2.1
  have hnum : z.1 133 (8 + k) = 0 := ((h.2.2.1 k (Nat.lt_succ_self k)).2.2.2.2.2).trans hn
  have h253 : ∀ v : Int32, (pDg (nI q) = true → v = nI q) → K 253 [some (.ref (ad 126)), some (.int (nI 5)), some (.int (nI q)), some (.int (nI (8 + k)))] [.int v, .ref (ad 126)] z := by
    intro v hv
    refine hB.callV lk_Md_95 cd_Md_figures (k_Md_figures l g ad z k h.1 hk8 v (by rw [hnum]; decide)) rfl (by decide) sK_126 d_Md_next_253 rfl rfl (by decide) (by simp [Value.category]) ?_
    rintro _ w9 ⟨rfl, hw9⟩
    have hw8 := hw9.symm
    clear hw9
    subst hw8
    refine hB.pop d_Md_next_256 rfl ?_
    refine hB.iload_n d_Md_next_257 rfl ?_
    refine hB.callS lk_Md_91 cd_Md_digit (k_Md_digit l g ad _ (nI q)) d_Md_next_258 rfl rfl (by decide) (by simp [Value.category]) ?_
    rintro _ w9 ⟨rfl, hw9⟩
    have hw8 := hw9.symm
    clear hw9
    subst hw8
    refine hB.if_eq d_Md_next_261 (tgt := 269) rfl (fun q261 => ?_) (fun q261 => ?_)
    · have hd := bI_0 q261
      refine hB.iconst d_Md_next_269 (v := 0) rfl ?_
      exact hE.1 _ _ _ _ _ d_Md_next_270 rfl rfl (by
      refine ⟨(h.num (s2 := 14)).2, ?_⟩
      first
        | (rw [hd]; exact qP_none)
        | (rw [hd, hv hd, hnum, num0]
           exact qP_some (h.num (s2 := 14)).1 rfl))
    · have hd := bI_1 q261
      refine hB.bipush d_Md_next_264 (v := 14) rfl ?_
      refine hB.goto d_Md_next_266 (tgt := 270) rfl ?_
      exact hE.1 _ _ _ _ _ d_Md_next_270 rfl rfl (by
      refine ⟨(h.num (s2 := 14)).2, ?_⟩
      first
        | (rw [hd]; exact qP_none)
        | (rw [hd, hv hd, hnum, num0]
           exact qP_some (h.num (s2 := 14)).1 rfl))
  refine hB.bipush d_Md_next_0 (v := 7) rfl ?_
  refine hB.aload_n d_Md_next_2 rfl ?_
  refine hB.getI (Or.inl fa_Md_73) d_Md_next_3 (by decide) sK_126 rfl ?_
  refine hB.iadd d_Md_next_6 ?_
  have ek : (7 : Int32) + z.1 126 5 = nI (8 + k) := by rw [h.1, show 8 + k = 7 + (k + 1) by omega]; exact nI_add 7 (k + 1)
  rw [ek]
  refine hB.istore_n d_Md_next_7 (Nat.le_of_ble_eq_true rfl) ?_
  refine hB.iload_n d_Md_next_8 rfl ?_
  refine hB.tableIn d_Md_next_9 (tgt := 239) (by decide) (by decide) rfl rfl ?_
  refine hB.aload_n d_Md_next_239 rfl ?_
  refine hB.iload_n d_Md_next_240 rfl ?_
  refine hB.callS lk_Md_91 cd_Md_digit (k_Md_digit l g ad z (nI q)) d_Md_next_241 rfl rfl (by decide) (by simp [Value.category]) ?_
  rintro _ w9 ⟨rfl, hw9⟩
  have hw8 := hw9.symm
  clear hw9
  subst hw8
  refine hB.if_eq d_Md_next_244 (tgt := 251) rfl (fun q244 => ?_) (fun q244 => ?_)
  · have hd := bI_0 q244
    refine hB.bipush d_Md_next_251 (v := 48) rfl ?_
    refine h253 _ (fun h9 => ?_)
    first
      | (rw [hd] at h9; cases h9; done)
      | rfl
  · have hd := bI_1 q244
    refine hB.iload_n d_Md_next_247 rfl ?_
    refine hB.goto d_Md_next_248 (tgt := 253) rfl ?_
    refine h253 _ (fun h9 => ?_)
    first
      | (rw [hd] at h9; cases h9; done)
      | rfl
set_option maxRecDepth 100000 in
set_option maxHeartbeats 4000000 in
theorem n_4 (l : Launch) (g : mG) (ad : Nat → Nat) (z : sT) {k : Nat} {els : Nat → pE} {p : Int32 × Int32} (h : mdQ z (4, k + 1, els, p)) (q : Nat) (hq : q < 65536) (hp : (els k).2.2.2.2.1 = 0) (hn : (els k).2.2.2.2.2 = 0) : sC l y_Md_next c_Md_next 4 (some .int) 3 g ad [.ref (ad 126), .int (nI 4), .int (nI q)] z (fun r w => frM z w ∧ qP (if nI q = 112 ∧ 1 < k + 1 then some (8, k + 1, uE els k ((els k).1, (els k).2.1, (els k).2.2.1, (els k).2.2.2.1, 1, 0), p) else if nI q = 45 then some (5, k + 1, els, p) else if pDg (nI q) then some (qNum (4, k + 1, els, p) 6 (nI q - 48)) else none) r w) := by
  refine sC.intro (own := R_Md) rfl (by decide) (by decide) (by simp [Value.category]) (Nat.le_of_ble_eq_true rfl) (fun K hB hE => ?_)
  show K 0 [some (.ref (ad 126)), some (.int (nI 4)), some (.int (nI q)), none] [] z
  have hk8 : k < 8 := h.2.1
  have h184 : ∀ v : Bool, v = (decide (nI q = 112) && decide (1 < k + 1)) → K 184 [some (.ref (ad 126)), some (.int (nI 4)), some (.int (nI q)), some (.int (nI (8 + k)))] [.int (bI v), .int (nI (8 + k)), .ref (ad 132)] z := by
    intro v hv
    refine hB.zast d_Md_next_184 (by decide) rfl rfl (by omega) (by decide) (bI_vp v) ?_
    refine hB.aload_n d_Md_next_185 rfl ?_
    refine hB.getC (Or.inl fa_Md_31) d_Md_next_186 (by decide) sK_126 rfl ?_
    refine hB.iload_n d_Md_next_189 rfl ?_
    refine hB.zald d_Md_next_190 (by decide) rfl rfl (by omega) (by decide) ?_
    rw [sI_eq]
    refine hB.if_eq d_Md_next_191 (tgt := 197) rfl (fun q191 => ?_) (fun q191 => ?_)
    · have hv0 := bI_0 q191
      subst hv0
      have hno : ¬ (nI q = 112 ∧ 1 < k + 1) := fun q9 => by simp [q9.1, q9.2] at hv
      have hz : mdQ (sI z 132 (8 + k) 0) (4, k + 1, els, p) := by
        have h9 := (h.prev (s2 := 4) (v := 0)).1
        rw [uE_same (by rw [← hp])] at h9
        exact h9
      have hnum : (sI z 132 (8 + k) 0).1 133 (8 + k) = 0 := by rw [sI_row (by omega)]; exact ((h.2.2.1 k (Nat.lt_succ_self k)).2.2.2.2.2).trans hn
      show K 197 _ _ (sI z 132 (8 + k) 0)
      have h211 : ∀ v : Int32, v = (if pDg (nI q) = true then nI q else 48) → K 211 [some (.ref (ad 126)), some (.int (nI 4)), some (.int (nI q)), some (.int (nI (8 + k)))] [.int v, .ref (ad 126)] (sI z 132 (8 + k) 0) := by
        intro v hv
        refine hB.callV lk_Md_95 cd_Md_figures (k_Md_figures l g ad (sI z 132 (8 + k) 0) k hz.1 hk8 v (by rw [hnum]; decide)) rfl (by decide) sK_126 d_Md_next_211 rfl rfl (by decide) (by simp [Value.category]) ?_
        rintro _ w9 ⟨rfl, hw9⟩
        have hw8 := hw9.symm
        clear hw9
        subst hw8
        rw [hnum, num0]
        refine hB.pop d_Md_next_214 rfl ?_
        refine hB.iload_n d_Md_next_215 rfl ?_
        refine hB.bipush d_Md_next_216 (v := 45) rfl ?_
        refine hB.icmp_ne d_Md_next_218 (tgt := 225) rfl (fun q218 => ?_) (fun q218 => ?_)
        · refine hB.iload_n d_Md_next_225 rfl ?_
          refine hB.callS lk_Md_91 cd_Md_digit (k_Md_digit l g ad _ (nI q)) d_Md_next_226 rfl rfl (by decide) (by simp [Value.category]) ?_
          rintro _ w9 ⟨rfl, hw9⟩
          have hw8 := hw9.symm
          clear hw9
          subst hw8
          refine hB.if_eq d_Md_next_229 (tgt := 237) rfl (fun q229 => ?_) (fun q229 => ?_)
          · have hd := bI_0 q229
            refine hB.iconst d_Md_next_237 (v := 0) rfl ?_
            exact hE.1 _ _ _ _ _ d_Md_next_238 rfl rfl (by
        rw [if_neg hno]
        refine ⟨((h.prev (s2 := 4)).2).trans (hz.num (s2 := 6)).2, ?_⟩
        first
          | (rw [if_neg q218, hd]; exact qP_none)
          | (rw [if_neg q218, hd, hv, hd]
             exact qP_some (hz.num (s2 := 6)).1 rfl)
          | (rw [if_pos q218, hv, show pDg (nI q) = false from by rw [q218]; decide]
             have e48 : ((if false = true then nI q else 48) - 48 : Int32) = 0 := by rw [if_neg (by decide)]; decide
             rw [e48]
             exact qP_some (mdQ.num0 (s2 := 5) hz hn) rfl))
          · have hd := bI_1 q229
            refine hB.bipush d_Md_next_232 (v := 6) rfl ?_
            refine hB.goto d_Md_next_234 (tgt := 238) rfl ?_
            exact hE.1 _ _ _ _ _ d_Md_next_238 rfl rfl (by
        rw [if_neg hno]
        refine ⟨((h.prev (s2 := 4)).2).trans (hz.num (s2 := 6)).2, ?_⟩
        first
          | (rw [if_neg q218, hd]; exact qP_none)
          | (rw [if_neg q218, hd, hv, hd]
             exact qP_some (hz.num (s2 := 6)).1 rfl)
          | (rw [if_pos q218, hv, show pDg (nI q) = false from by rw [q218]; decide]
             have e48 : ((if false = true then nI q else 48) - 48 : Int32) = 0 := by rw [if_neg (by decide)]; decide
             rw [e48]
             exact qP_some (mdQ.num0 (s2 := 5) hz hn) rfl))
        · refine hB.iconst d_Md_next_221 (v := 5) rfl ?_
          refine hB.goto d_Md_next_222 (tgt := 238) rfl ?_
          exact hE.1 _ _ _ _ _ d_Md_next_238 rfl rfl (by
        rw [if_neg hno]
        refine ⟨((h.prev (s2 := 4)).2).trans (hz.num (s2 := 6)).2, ?_⟩
        first
          | (rw [if_neg q218, hd]; exact qP_none)
          | (rw [if_neg q218, hd, hv, hd]
             exact qP_some (hz.num (s2 := 6)).1 rfl)
          | (rw [if_pos q218, hv, show pDg (nI q) = false from by rw [q218]; decide]
             have e48 : ((if false = true then nI q else 48) - 48 : Int32) = 0 := by rw [if_neg (by decide)]; decide
             rw [e48]
             exact qP_some (mdQ.num0 (s2 := 5) hz hn) rfl))
      refine hB.aload_n d_Md_next_197 rfl ?_
      refine hB.iload_n d_Md_next_198 rfl ?_
      refine hB.callS lk_Md_91 cd_Md_digit (k_Md_digit l g ad _ (nI q)) d_Md_next_199 rfl rfl (by decide) (by simp [Value.category]) ?_
      rintro _ w9 ⟨rfl, hw9⟩
      have hw8 := hw9.symm
      clear hw9
      subst hw8
      refine hB.if_eq d_Md_next_202 (tgt := 209) rfl (fun q202 => ?_) (fun q202 => ?_)
      · have hd := bI_0 q202
        refine hB.bipush d_Md_next_209 (v := 48) rfl ?_
        refine h211 _ ?_
        rw [hd]
        rfl
      · have hd := bI_1 q202
        refine hB.iload_n d_Md_next_205 rfl ?_
        refine hB.goto d_Md_next_206 (tgt := 211) rfl ?_
        refine h211 _ ?_
        rw [hd]
        rfl
    · refine hB.bipush d_Md_next_194 (v := 8) rfl ?_
      exact hE.1 _ _ _ _ _ d_Md_next_196 rfl rfl (by
        have hv1 := bI_1 q191
        subst hv1
        have hc : nI q = 112 ∧ 1 < k + 1 := by simpa using hv
        rw [if_pos hc]
        have h9 := h.prev (s2 := 8) (v := 1)
        rw [hn] at h9
        exact ⟨h9.2, qP_some h9.1 rfl⟩)
  refine hB.bipush d_Md_next_0 (v := 7) rfl ?_
  refine hB.aload_n d_Md_next_2 rfl ?_
  refine hB.getI (Or.inl fa_Md_73) d_Md_next_3 (by decide) sK_126 rfl ?_
  refine hB.iadd d_Md_next_6 ?_
  have ek : (7 : Int32) + z.1 126 5 = nI (8 + k) := by rw [h.1, show 8 + k = 7 + (k + 1) by omega]; exact nI_add 7 (k + 1)
  rw [ek]
  refine hB.istore_n d_Md_next_7 (Nat.le_of_ble_eq_true rfl) ?_
  refine hB.iload_n d_Md_next_8 rfl ?_
  refine hB.tableIn d_Md_next_9 (tgt := 160) (by decide) (by decide) rfl rfl ?_
  refine hB.aload_n d_Md_next_160 rfl ?_
  refine hB.getC (Or.inl fa_Md_31) d_Md_next_161 (by decide) sK_126 rfl ?_
  refine hB.iload_n d_Md_next_164 rfl ?_
  refine hB.iload_n d_Md_next_165 rfl ?_
  refine hB.bipush d_Md_next_166 (v := 112) rfl ?_
  refine hB.icmp_ne d_Md_next_168 (tgt := 183) rfl (fun q168 => ?_) (fun q168 => ?_)
  · refine hB.iconst d_Md_next_183 (v := 0) rfl ?_
    first
      | (refine h184 false ?_; have h9 : ¬ nI q = 112 := q168; simp [h9]; done)
      | (refine h184 false ?_; have h9 : ¬ 1 < k + 1 := by { intro q9; rw [h.1] at q176; exact nI_ge (a := 1) (b := k + 1) q9 (by omega) q176 }; simp [h9]; done)
      | (refine h184 true ?_; have h9 : 1 < k + 1 := by { rw [h.1] at q176; rcases Nat.lt_or_ge 1 (k + 1) with hl | hl; exact hl; exact absurd (nI_le (b := 1) hl (by decide)) q176 }; simp [q168, h9])
  · refine hB.aload_n d_Md_next_171 rfl ?_
    refine hB.getI (Or.inl fa_Md_73) d_Md_next_172 (by decide) sK_126 rfl ?_
    refine hB.iconst d_Md_next_175 (v := 1) rfl ?_
    refine hB.icmp_le d_Md_next_176 (tgt := 183) rfl (fun q176 => ?_) (fun q176 => ?_)
    · refine hB.iconst d_Md_next_183 (v := 0) rfl ?_
      first
        | (refine h184 false ?_; have h9 : ¬ nI q = 112 := q168; simp [h9]; done)
        | (refine h184 false ?_; have h9 : ¬ 1 < k + 1 := by { intro q9; rw [h.1] at q176; exact nI_ge (a := 1) (b := k + 1) q9 (by omega) q176 }; simp [h9]; done)
        | (refine h184 true ?_; have h9 : 1 < k + 1 := by { rw [h.1] at q176; rcases Nat.lt_or_ge 1 (k + 1) with hl | hl; exact hl; exact absurd (nI_le (b := 1) hl (by decide)) q176 }; simp [q168, h9])
    · refine hB.iconst d_Md_next_179 (v := 1) rfl ?_
      refine hB.goto d_Md_next_180 (tgt := 184) rfl ?_
      first
        | (refine h184 false ?_; have h9 : ¬ nI q = 112 := q168; simp [h9]; done)
        | (refine h184 false ?_; have h9 : ¬ 1 < k + 1 := by { intro q9; rw [h.1] at q176; exact nI_ge (a := 1) (b := k + 1) q9 (by omega) q176 }; simp [h9]; done)
        | (refine h184 true ?_; have h9 : 1 < k + 1 := by { rw [h.1] at q176; rcases Nat.lt_or_ge 1 (k + 1) with hl | hl; exact hl; exact absurd (nI_le (b := 1) hl (by decide)) q176 }; simp [q168, h9])
def qNm (c : qC) (x : Int32) : Option qC := if c.1 = 14 then (if pDg x then some (qNum c 15 (10 * (qE c).2.2.2.2.2 + (x - 48))) else qAf c x) else if c.1 = 15 then qAf c x else qNx c x
def qI (c : qC) : Prop := c.1 ≤ 15 ∧ (c.1 = 0 → c.2.1 = 0) ∧ (c.1 ≠ 0 → 1 ≤ c.2.1) ∧ (c.1 = 1 → c.2.1 < 7) ∧ ((c.1 = 2 ∨ c.1 = 3) → (qE c).2.2.2.1 = 32) ∧ ((2 ≤ c.1 ∧ c.1 ≤ 5) → (qE c).2.2.2.2.1 = 0 ∧ (qE c).2.2.2.2.2 = 0) ∧ ((c.1 = 6 ∨ c.1 = 14) → ¬ (qE c).2.2.2.2.2 < 0)
theorem k_mNext (l : Launch) (g : mG) (ad : Nat → Nat) (z : sT) (c : qC) (h : mdQ z c) (hI : qI c) (q : Nat) (hq : q < 65536) : sC l y_Md_next c_Md_next 4 (some .int) 3 g ad [.ref (ad 126), .int (nI c.1), .int (nI q)] z (fun r w => frM z w ∧ qP (qNm c (nI q)) r w) := by
  obtain ⟨s, k, els, p⟩ := c
  obtain ⟨i1, i2, i3, i4, i5, i6, i7⟩ := hI
  have i1' : s ≤ 15 := i1
  by_cases hs : s = 0
  · subst hs
    have hk : k = 0 := i2 rfl
    subst hk
    exact n_0 (k := 0) l g ad z h q hq
  · obtain ⟨k, rfl⟩ : ∃ j, k = j + 1 := ⟨k - 1, by have : 1 ≤ k := i3 hs; omega⟩
    have hs2 : s = 1 ∨ s = 2 ∨ s = 3 ∨ s = 4 ∨ s = 5 ∨ s = 6 ∨ s = 7 ∨ s = 8 ∨ s = 9 ∨ s = 10 ∨ s = 11 ∨ s = 12 ∨ s = 13 ∨ s = 14 ∨ s = 15 := by omega
    rcases hs2 with rfl | rfl | rfl | rfl | rfl | rfl | rfl | rfl | rfl | rfl | rfl | rfl | rfl | rfl | rfl
    · exact n_1 l g ad z h q hq (by have : k + 1 < 7 := i4 rfl; omega)
    · exact n_2 l g ad z h q hq (i5 (Or.inl rfl))
    · exact n_3 l g ad z h q hq (i5 (Or.inr rfl))
    · exact n_4 l g ad z h q hq (i6 ⟨Nat.le_of_ble_eq_true rfl, Nat.le_of_ble_eq_true rfl⟩).1 (i6 ⟨Nat.le_of_ble_eq_true rfl, Nat.le_of_ble_eq_true rfl⟩).2
    · exact n_5 l g ad z h q hq (i6 ⟨Nat.le_of_ble_eq_true rfl, Nat.le_of_ble_eq_true rfl⟩).2
    · exact n_6 l g ad z h q hq (i7 (Or.inl rfl))
    · exact n_7 l g ad z h q hq
    · exact n_8 l g ad z h q hq
    · exact n_9 l g ad z h q hq
    · exact n_10 l g ad z h q hq
    · exact n_11 l g ad z h q hq
    · exact n_12 l g ad z h q hq
    · exact n_13 l g ad z h q hq
    · exact n_14 l g ad z h q hq (i7 (Or.inr rfl))
    · exact n_15 l g ad z h q hq
