def stO (els : Nat → pE) (k : Nat) : List Nat := (List.range k).filter (fun j => decide ((els j).1 = 0))
def elA (z : sT) (b : Nat) (els : Nat → pE) (k : Nat) : Prop := ∀ j, j < k → ∀ i, i < 6 → z.1 (b + j) i = eF (els j) i 0
def ptA (z : sT) (pt k : Nat) (els : Nat → pE) : Prop := z.1 pt 2 = nI k ∧ z.1 pt 3 = nI (stO els k).length ∧ elA z (pb pt) els k ∧ ∀ s x, (stO els k)[s]? = some x → z.1 (pt + 2) s = nI x
def frP (z w : sT) (pt : Nat) : Prop := w.2 = z.2 ∧ (∀ a, a ≠ 1 → a ≠ pt → a ≠ pt + 2 → ¬ (pb pt ≤ a ∧ a < pb pt + 8) → w.1 a = z.1 a) ∧ w.1 1 1 = z.1 1 1
theorem stO_len (els : Nat → pE) (k : Nat) : (stO els k).length ≤ k := by
  have := List.length_filter_le (fun j => decide ((els j).1 = 0)) (List.range k)
  simpa [stO] using this
theorem stO_succ (els : Nat → pE) (k : Nat) (E : pE) : stO (uE els k E) (k + 1) = stO els k ++ (if E.1 = 0 then [k] else []) := by
  unfold stO
  rw [List.range_succ, List.filter_append]
  congr 1
  · apply List.filter_congr
    intro j hj
    have : ¬ j = k := by have := List.mem_range.mp hj; omega
    simp [uE, this]
  · by_cases h : E.1 = 0 <;> simp [uE, h]
theorem sQ_ne {z : sT} {e p a : Nat} {E : pE} (h1 : a ≠ e) (h2 : a ≠ 1) : (sQ z e p E).1 a = z.1 a := by
  funext b
  simp [sQ, sEl, sPl, sI, h1, h2]
theorem sQ_el {z : sT} {e p i : Nat} {E : pE} (hi : i < 6) : (sQ z e p E).1 e i = eF E i 0 := by
  rcases i with _ | _ | _ | _ | _ | _ | i
  · simp [sQ, sEl, eF]
  · simp [sQ, sEl, eF]
  · simp [sQ, sEl, eF]
  · simp [sQ, sEl, eF]
  · simp [sQ, sEl, eF]
  · simp [sQ, sEl, eF]
  · omega
theorem sQ_11 {z : sT} {e p : Nat} {E : pE} (he : 14 ≤ e) : (sQ z e p E).1 1 1 = z.1 1 1 := by
  have : ¬ 1 = e := by omega
  simp [sQ, sEl, sPl, sI, this]
theorem frP.q {z w : sT} {pt k p : Nat} {E : pE} (hp : pt = 8 ∨ pt = 11) (hk : k < 8) (h : frP z w pt) : frP z (sQ w (pb pt + k) p E) pt := by
  have hpb := pb_in hp
  refine ⟨h.1, fun a h1 h2 h3 h4 => ?_, ?_⟩
  · rw [sQ_ne (by omega) h1]
    exact h.2.1 a h1 h2 h3 h4
  · rw [sQ_11 (by omega)]
    exact h.2.2
theorem frP.i {z w : sT} {pt a b : Nat} {x : Int32} (hp : pt = 8 ∨ pt = 11) (h : frP z w pt) (ha : a = pt ∨ a = pt + 2) : frP z (sI w a b x) pt := by
  refine ⟨h.1, fun c h1 h2 h3 h4 => ?_, ?_⟩
  · rw [sI_row (by omega)]
    exact h.2.1 c h1 h2 h3 h4
  · rw [sI_row (by omega)]
    exact h.2.2
theorem frP.l {z w : sT} {pt q : Nat} (h : frP z w pt) : frP z (sPl w q) pt := by
  refine ⟨h.1, fun c h1 h2 h3 h4 => ?_, ?_⟩
  · show (sI w 1 2 (nI q)).1 c = _
    rw [sI_row h1]
    exact h.2.1 c h1 h2 h3 h4
  · have := h.2.2
    simpa [sPl, sI] using this
def sCt (w : sT) (pt k ns : Nat) : sT := if w.1 (pb pt + k) 0 = 0 then sI (sI (sI w (pt + 2) ns (nI k)) pt 3 (nI (ns + 1))) pt 2 (nI (k + 1)) else sI w pt 2 (nI (k + 1))
theorem sCt_fr {z w : sT} {pt k ns : Nat} (hp : pt = 8 ∨ pt = 11) (h : frP z w pt) : frP z (sCt w pt k ns) pt := by
  unfold sCt
  split
  · exact ((h.i hp (Or.inr rfl)).i hp (Or.inl rfl)).i hp (Or.inl rfl)
  · exact h.i hp (Or.inl rfl)
theorem sCt_ne {w : sT} {pt k ns a : Nat} (h1 : a ≠ pt) (h2 : a ≠ pt + 2) : (sCt w pt k ns).1 a = w.1 a := by
  unfold sCt
  split
  · rw [sI_row h1, sI_row h1, sI_row h2]
  · rw [sI_row h1]
theorem ptA.step {w : sT} {pt k p : Nat} {els : Nat → pE} {E : pE} (hp : pt = 8 ∨ pt = 11) (hk : k < 8) (h : ptA w pt k els) : ptA (sCt (sQ w (pb pt + k) p E) pt k (stO els k).length) pt (k + 1) (uE els k E) := by
  have hpb := pb_in hp
  have hpt : pt ≠ pb pt + k := by omega
  have hpt2 : pt + 2 ≠ pb pt + k := by omega
  have hp1 : pt ≠ 1 := by omega
  have hp2 : pt + 2 ≠ 1 := by omega
  have e0 : (sQ w (pb pt + k) p E).1 (pb pt + k) 0 = E.1 := sQ_at0
  obtain ⟨h1, h2, h3, h4⟩ := h
  have hel : elA (sCt (sQ w (pb pt + k) p E) pt k (stO els k).length) (pb pt) (uE els k E) (k + 1) := by
    intro j hj i hi
    rw [sCt_ne (by omega) (by omega)]
    by_cases hjk : j = k
    · subst hjk
      rw [sQ_el hi, uE_at]
    · rw [sQ_ne (by omega) (by omega), h3 j (by omega) i hi]
      simp [uE, hjk]
  refine ⟨?_, ?_, hel, ?_⟩
  · unfold sCt
    split <;> simp [sI]
  · rw [stO_succ]
    unfold sCt
    rw [e0]
    by_cases hE : E.1 = 0
    · rw [if_pos hE, if_pos hE]
      simp [sI]
    · rw [if_neg hE, if_neg hE, List.append_nil]
      have e3 : (sI (sQ w (pb pt + k) p E) pt 2 (nI (k + 1))).1 pt 3 = (sQ w (pb pt + k) p E).1 pt 3 := by simp [sI]
      rw [e3, sQ_ne hpt hp1]
      exact h2
  · rw [stO_succ]
    intro s x hs
    have hold : (sQ w (pb pt + k) p E).1 (pt + 2) = w.1 (pt + 2) := sQ_ne hpt2 hp2
    unfold sCt
    rw [e0]
    by_cases hE : E.1 = 0
    · rw [if_pos hE] at hs ⊢
      rw [sI_row (by omega), sI_row (by omega)]
      by_cases hl : s < (stO els k).length
      · rw [List.getElem?_append_left hl] at hs
        have hne : ¬ s = (stO els k).length := by omega
        have e4 : (sI (sQ w (pb pt + k) p E) (pt + 2) (stO els k).length (nI k)).1 (pt + 2) s = (sQ w (pb pt + k) p E).1 (pt + 2) s := by simp [sI, hne]
        rw [e4, hold]
        exact h4 s x hs
      · rw [List.getElem?_append_right (by omega)] at hs
        have hz : s - (stO els k).length < 1 := (List.getElem?_eq_some_iff.mp hs).1
        rw [show s - (stO els k).length = 0 by omega] at hs
        cases hs
        have hse : s = (stO els k).length := by omega
        subst hse
        simp [sI]
    · rw [if_neg hE] at hs ⊢
      rw [List.append_nil] at hs
      rw [sI_row (by omega), hold]
      exact h4 s x hs
theorem cEd_in {tx : Nat → Int32} {n p : Nat} (hp : p ≤ n) : (cEd tx n p).2.1 ≤ n := by
  have h1 : ∀ (q : Nat) (kd : Int32), q ≤ n → (cEn tx n q kd).2.1 ≤ n := by
    intro q kd hq
    unfold cEn
    split
    · rename_i h
      have : q < n := pA_lt (by rw [h]; decide)
      exact (cDs_in 3 0 (q + 1) (-1) (by omega)).2
    · exact hq
  unfold cEd
  split
  · rename_i h
    have : p < n := pA_lt (by rw [h]; decide)
    exact h1 _ _ (by omega)
  · exact h1 _ _ hp
theorem frP.tx {z w : sT} {pt : Nat} (hp : pt = 8 ∨ pt = 11) (h : frP z w pt) : w.1 2 = z.1 2 := by
  have hpb := pb_in hp
  exact h.2.1 2 (by omega) (by omega) (by omega) (by omega)
theorem frP.rd {z w : sT} {pt n p : Nat} (hp : pt = 8 ∨ pt = 11) (h : frP z w pt) (hz : rd0 z n) (h2 : w.1 1 2 = nI p) (hpn : p ≤ n) : rdA w n p :=
  ⟨by rw [h.2.2]; exact hz.1, h2, hz.2.1, hpn, fun i hi => by rw [h.tx hp]; exact hz.2.2 i hi⟩
theorem frP.rd0 {z w : sT} {pt n : Nat} (hp : pt = 8 ∨ pt = 11) (h : frP z w pt) (hz : rd0 z n) : rd0 w n :=
  ⟨by rw [h.2.2]; exact hz.1, hz.2.1, fun i hi => by rw [h.tx hp]; exact hz.2.2 i hi⟩
set_option maxRecDepth 100000 in
set_option maxHeartbeats 4000000 in
theorem k_Rd_readInto (l : Launch) (g : mG) (ad : Nat → Nat) (z : sT) (n pt : Nat) (hp : pt = 8 ∨ pt = 11) (hz : rd0 z n) : sC l y_Rd_readInto c_Rd_readInto 3 (some .boolean) 5 g ad [.ref (ad 1), .ref (ad pt)] z (fun r w => r = some (.int (bI (cRd (z.1 2) n).1)) ∧ frP z w pt ∧ w.1 1 2 = nI (cRd (z.1 2) n).2.1 ∧ (cRd (z.1 2) n).2.1 ≤ n ∧ ((cRd (z.1 2) n).1 = true → ptA w pt (cRd (z.1 2) n).2.2.1 (cRd (z.1 2) n).2.2.2.1 ∧ (cRd (z.1 2) n).2.2.1 ≤ 8 ∧ w.1 pt 4 = (cRd (z.1 2) n).2.2.2.2.1 ∧ w.1 pt 5 = (cRd (z.1 2) n).2.2.2.2.2)) := by
  refine sC.intro (own := R_Rd) rfl (by decide) (by decide) (by simp [Value.category]) (Nat.le_of_ble_eq_true rfl) (fun K hB hE => ?_)
  show K 0 [some (.ref (ad 1)), some (.ref (ad pt)), none] [] z
  have h50 : ∀ (k p : Nat) (els : Nat → pE) (w : sT), frP z w pt → w.1 1 2 = nI p → p ≤ n → ptA w pt k els → k ≤ 8 → cFi (z.1 2) n k p els = (cRd (z.1 2) n) → K 50 [some (.ref (ad 1)), some (.ref (ad pt)), some (.int (nI k))] [] w := by
    intro k p els w hfr hpl hpn hpt hk hR
    have hA := hfr.rd hp hz hpl hpn
    have etx := hfr.tx hp
    have hpb := pb_in hp
    refine hB.aload_n d_Rd_readInto_50 rfl ?_
    refine hB.callVN lk_Rd_42 cd_Pt_mayEnd (k_Pt_mayEnd l g ad w pt k hp hpt.1 hk) rfl (by omega) (sK_pt hp) d_Rd_readInto_51 rfl rfl (by decide) (by simp [Value.category]) ?_
    rintro _ w9 ⟨rfl, hw9⟩
    rw [hw9]
    have emy : (decide (0 < k) && (decide (w.1 (pb pt + (k - 1)) 0 = 0) && decide (w.1 (pb pt + (k - 1)) 2 = 0))) = cMy k els := by
      unfold cMy
      by_cases h0 : 0 < k
      · have a1 := hpt.2.2.1 (k - 1) (by omega) 0 (by omega)
        have a2 := hpt.2.2.1 (k - 1) (by omega) 2 (by omega)
        rw [a1, a2]; rfl
      · simp [h0]
    rw [emy]
    refine hB.if_eq d_Rd_readInto_54 (tgt := 80) rfl (fun q54 => ?_) (fun q54 => ?_)
    · have hmy := bI_0 q54
      have eR : cFi (z.1 2) n k p els = cF p := by unfold cFi; rw [hmy]; rfl
      rw [eR] at hR
      rw [← hR] at hE
      refine hB.iconst d_Rd_readInto_80 (v := 0) rfl ?_
      exact hE.1 _ _ _ _ _ d_Rd_readInto_81 rfl rfl (by
          have hin := cEd_in (tx := z.1 2) hpn
          first
            | exact ⟨rfl, hfr, hpl, hpn, fun q => by cases q⟩
            | exact ⟨rfl, ((hfr.l).i hp (Or.inl rfl)).i hp (Or.inl rfl), by rw [sI_row (by omega), sI_row (by omega)]; simp [sPl, sI, cF], hin, fun q => by cases q⟩
            | (refine ⟨rfl, ((hfr.l).i hp (Or.inl rfl)).i hp (Or.inl rfl), by rw [sI_row (by omega), sI_row (by omega), heq]; simp [sPl, sI], Nat.le_refl _, fun _ => ⟨⟨?_, ?_, ?_, ?_⟩, hk, by simp [sI], ?_⟩⟩
               · have := hpt.1
                 have h1 : ¬ pt = 1 := by omega
                 simpa [sPl, sI, h1] using this
               · have := hpt.2.1
                 have h1 : ¬ pt = 1 := by omega
                 simpa [sPl, sI, h1] using this
               · intro j hj i hi
                 rw [sI_row (by omega), sI_row (by omega)]
                 show (sI w 1 2 _).1 (pb pt + j) i = _
                 rw [sI_row (by omega)]
                 exact hpt.2.2.1 j hj i hi
               · intro s x hs
                 rw [sI_row (by omega), sI_row (by omega)]
                 show (sI w 1 2 _).1 (pt + 2) s = _
                 rw [sI_row (by omega)]
                 exact hpt.2.2.2 s x hs
               · rw [← hx9 hed]; simp [sI]))
    · have hmy := bI_1 q54
      refine hB.aload_n d_Rd_readInto_57 rfl ?_
      refine hB.aload_n d_Rd_readInto_58 rfl ?_
      refine hB.callV lk_Rd_45 cd_Rd_readEnd (k_Rd_readEnd l g ad w n p pt hp hA) rfl (by decide) sK_1 d_Rd_readInto_59 rfl rfl (by decide) (by simp [Value.category]) ?_
      rintro _ w9 ⟨rfl, x9, hw9, hx9⟩
      rw [etx] at hw9 hx9
      rw [hw9, etx]
      refine hB.if_eq d_Rd_readInto_62 (tgt := 80) rfl (fun q62 => ?_) (fun q62 => ?_)
      · have hed := bI_0 q62
        have eR : cFi (z.1 2) n k p els = cF (cEd (z.1 2) n p).2.1 := by unfold cFi; rw [hmy]; simp [hed]
        rw [eR] at hR
        rw [← hR] at hE
        refine hB.iconst d_Rd_readInto_80 (v := 0) rfl ?_
        exact hE.1 _ _ _ _ _ d_Rd_readInto_81 rfl rfl (by
          have hin := cEd_in (tx := z.1 2) hpn
          first
            | exact ⟨rfl, hfr, hpl, hpn, fun q => by cases q⟩
            | exact ⟨rfl, ((hfr.l).i hp (Or.inl rfl)).i hp (Or.inl rfl), by rw [sI_row (by omega), sI_row (by omega)]; simp [sPl, sI, cF], hin, fun q => by cases q⟩
            | (refine ⟨rfl, ((hfr.l).i hp (Or.inl rfl)).i hp (Or.inl rfl), by rw [sI_row (by omega), sI_row (by omega), heq]; simp [sPl, sI], Nat.le_refl _, fun _ => ⟨⟨?_, ?_, ?_, ?_⟩, hk, by simp [sI], ?_⟩⟩
               · have := hpt.1
                 have h1 : ¬ pt = 1 := by omega
                 simpa [sPl, sI, h1] using this
               · have := hpt.2.1
                 have h1 : ¬ pt = 1 := by omega
                 simpa [sPl, sI, h1] using this
               · intro j hj i hi
                 rw [sI_row (by omega), sI_row (by omega)]
                 show (sI w 1 2 _).1 (pb pt + j) i = _
                 rw [sI_row (by omega)]
                 exact hpt.2.2.1 j hj i hi
               · intro s x hs
                 rw [sI_row (by omega), sI_row (by omega)]
                 show (sI w 1 2 _).1 (pt + 2) s = _
                 rw [sI_row (by omega)]
                 exact hpt.2.2.2 s x hs
               · rw [← hx9 hed]; simp [sI]))
      · have hed := bI_1 q62
        refine hB.aload_n d_Rd_readInto_65 rfl ?_
        refine hB.getI (Or.inl fa_Rd_19) d_Rd_readInto_66 (by decide) sK_1 rfl ?_
        have e2 : (sI (sI (sPl w (cEd (z.1 2) n p).2.1) pt 4 (cEd (z.1 2) n p).2.2.1) pt 5 x9).1 1 2 = nI (cEd (z.1 2) n p).2.1 := by
          rw [sI_row (by omega), sI_row (by omega)]
          simp [sPl, sI]
        rw [e2]
        refine hB.aload_n d_Rd_readInto_69 rfl ?_
        refine hB.getI (Or.inl fa_Rd_15) d_Rd_readInto_70 (by decide) sK_1 rfl ?_
        have e3 : (sI (sI (sPl w (cEd (z.1 2) n p).2.1) pt 4 (cEd (z.1 2) n p).2.2.1) pt 5 x9).1 1 1 = nI n := by
          rw [sI_row (by omega), sI_row (by omega)]
          have := hA.1
          simpa [sPl, sI] using this
        rw [e3]
        refine hB.icmp_ne d_Rd_readInto_73 (tgt := 80) rfl (fun q73 => ?_) (fun q73 => ?_)
        · have hne : ¬ (cEd (z.1 2) n p).2.1 = n := fun q => q73 (by rw [q])
          have eR : cFi (z.1 2) n k p els = cF (cEd (z.1 2) n p).2.1 := by unfold cFi; rw [hmy]; simp [hne]
          rw [eR] at hR
          rw [← hR] at hE
          refine hB.iconst d_Rd_readInto_80 (v := 0) rfl ?_
          exact hE.1 _ _ _ _ _ d_Rd_readInto_81 rfl rfl (by
          have hin := cEd_in (tx := z.1 2) hpn
          first
            | exact ⟨rfl, hfr, hpl, hpn, fun q => by cases q⟩
            | exact ⟨rfl, ((hfr.l).i hp (Or.inl rfl)).i hp (Or.inl rfl), by rw [sI_row (by omega), sI_row (by omega)]; simp [sPl, sI, cF], hin, fun q => by cases q⟩
            | (refine ⟨rfl, ((hfr.l).i hp (Or.inl rfl)).i hp (Or.inl rfl), by rw [sI_row (by omega), sI_row (by omega), heq]; simp [sPl, sI], Nat.le_refl _, fun _ => ⟨⟨?_, ?_, ?_, ?_⟩, hk, by simp [sI], ?_⟩⟩
               · have := hpt.1
                 have h1 : ¬ pt = 1 := by omega
                 simpa [sPl, sI, h1] using this
               · have := hpt.2.1
                 have h1 : ¬ pt = 1 := by omega
                 simpa [sPl, sI, h1] using this
               · intro j hj i hi
                 rw [sI_row (by omega), sI_row (by omega)]
                 show (sI w 1 2 _).1 (pb pt + j) i = _
                 rw [sI_row (by omega)]
                 exact hpt.2.2.1 j hj i hi
               · intro s x hs
                 rw [sI_row (by omega), sI_row (by omega)]
                 show (sI w 1 2 _).1 (pt + 2) s = _
                 rw [sI_row (by omega)]
                 exact hpt.2.2.2 s x hs
               · rw [← hx9 hed]; simp [sI]))
        · have heq : (cEd (z.1 2) n p).2.1 = n := (nI_eq (by have := cEd_in (tx := z.1 2) hpn; have := hz.2.1; omega) (by have := hz.2.1; omega)).mp q73
          have eR : cFi (z.1 2) n k p els = (true, n, k, els, (cEd (z.1 2) n p).2.2) := by unfold cFi; rw [hmy]; simp [hed, heq]
          rw [eR] at hR
          rw [← hR] at hE
          refine hB.iconst d_Rd_readInto_76 (v := 1) rfl ?_
          refine hB.goto d_Rd_readInto_77 (tgt := 81) rfl ?_
          exact hE.1 _ _ _ _ _ d_Rd_readInto_81 rfl rfl (by
          have hin := cEd_in (tx := z.1 2) hpn
          first
            | exact ⟨rfl, hfr, hpl, hpn, fun q => by cases q⟩
            | exact ⟨rfl, ((hfr.l).i hp (Or.inl rfl)).i hp (Or.inl rfl), by rw [sI_row (by omega), sI_row (by omega)]; simp [sPl, sI, cF], hin, fun q => by cases q⟩
            | (refine ⟨rfl, ((hfr.l).i hp (Or.inl rfl)).i hp (Or.inl rfl), by rw [sI_row (by omega), sI_row (by omega), heq]; simp [sPl, sI], Nat.le_refl _, fun _ => ⟨⟨?_, ?_, ?_, ?_⟩, hk, by simp [sI], ?_⟩⟩
               · have := hpt.1
                 have h1 : ¬ pt = 1 := by omega
                 simpa [sPl, sI, h1] using this
               · have := hpt.2.1
                 have h1 : ¬ pt = 1 := by omega
                 simpa [sPl, sI, h1] using this
               · intro j hj i hi
                 rw [sI_row (by omega), sI_row (by omega)]
                 show (sI w 1 2 _).1 (pb pt + j) i = _
                 rw [sI_row (by omega)]
                 exact hpt.2.2.1 j hj i hi
               · intro s x hs
                 rw [sI_row (by omega), sI_row (by omega)]
                 show (sI w 1 2 _).1 (pt + 2) s = _
                 rw [sI_row (by omega)]
                 exact hpt.2.2.2 s x hs
               · rw [← hx9 hed]; simp [sI]))
  have h11 : ∀ (m k p : Nat) (els : Nat → pE) (w : sT), m + k = 8 → frP z w pt → w.1 1 2 = nI p → p ≤ n → ptA w pt k els → cLo (z.1 2) n m k p els = (cRd (z.1 2) n) → K 11 [some (.ref (ad 1)), some (.ref (ad pt)), some (.int (nI k))] [] w := by
    intro m
    induction m with
    | zero =>
      intro k p els w hk hfr hpl hpn hpt hR
      have hk8 : k = 8 := by omega
      subst hk8
      refine hB.iload_n d_Rd_readInto_11 rfl ?_
      refine hB.bipush d_Rd_readInto_12 (v := 8) rfl ?_
      refine hB.icmp_ge d_Rd_readInto_14 (tgt := 50) rfl (fun q14 => ?_) (fun q14 => absurd (Int32.le_refl _) q14)
      exact h50 8 p els w hfr hpl hpn hpt (by omega) hR
    | succ m ih =>
      intro k p els w hk hfr hpl hpn hpt hR
      have hA := hfr.rd hp hz hpl hpn
      have etx := hfr.tx hp
      have hpb := pb_in hp
      refine hB.iload_n d_Rd_readInto_11 rfl ?_
      refine hB.bipush d_Rd_readInto_12 (v := 8) rfl ?_
      refine hB.icmp_ge d_Rd_readInto_14 (tgt := 50) rfl (fun q14 => absurd q14 (nI_ge (b := 8) (by omega) (by decide))) (fun q14 => ?_)
      refine hB.aload_n d_Rd_readInto_17 rfl ?_
      refine hB.callV lk_Rd_27 cd_Rd_isElementAhead (k_Rd_isElementAhead l g ad w n p hA) rfl (by decide) sK_1 d_Rd_readInto_18 rfl rfl (by decide) (by simp [Value.category]) ?_
      rintro _ w9 ⟨rfl, hw9⟩
      rw [hw9, etx]
      refine hB.if_eq d_Rd_readInto_21 (tgt := 50) rfl (fun q21 => ?_) (fun q21 => ?_)
      · have hel := bI_0 q21
        have hel2 : ¬ (pA (z.1 2) n p = 33 ∨ pKd (pA (z.1 2) n p) = true) := by simpa using hel
        have eL : cLo (z.1 2) n (m + 1) k p els = cFi (z.1 2) n k p els := by
          show (if _ then _ else _) = _
          rw [if_neg hel2]
        rw [eL] at hR
        exact h50 k p els w hfr hpl hpn hpt (by omega) hR
      · have hel := bI_1 q21
        have hel2 : pA (z.1 2) n p = 33 ∨ pKd (pA (z.1 2) n p) = true := by simpa using hel
        have eL : cLo (z.1 2) n (m + 1) k p els = if (cEl (z.1 2) n k p).1 = true then cLo (z.1 2) n m (k + 1) (cEl (z.1 2) n k p).2.1 (uE els k (cEl (z.1 2) n k p).2.2) else cF (cEl (z.1 2) n k p).2.1 := by
          show (if _ then _ else _) = _
          rw [if_pos hel2]
        rw [eL] at hR
        refine hB.aload_n d_Rd_readInto_24 rfl ?_
        refine hB.aload_n d_Rd_readInto_25 rfl ?_
        refine hB.getC (Or.inr fa_Rd_31) d_Rd_readInto_26 (by omega) (sK_pt hp) rfl ?_
        refine hB.iload_n d_Rd_readInto_29 rfl ?_
        refine hB.aald5 d_Rd_readInto_30 (by omega) (sK_els hp) rfl (by omega) (by decide) ?_
        rw [sRf_el hp]
        refine hB.iload_n d_Rd_readInto_31 rfl ?_
        refine hB.callV lk_Rd_35 cd_Rd_readElement (by have h := k_Rd_readElement l g ad w n k (pb pt + k) p (hfr.rd0 hp hz) hpn (by omega) (by omega); rw [hA.self, etx] at h; exact h) rfl (by decide) sK_1 d_Rd_readInto_32 rfl rfl (by decide) (by simp [Value.category]) ?_
        rintro _ w9 ⟨rfl, E9, hw9, hE9⟩
        rw [hw9]
        refine hB.if_ne d_Rd_readInto_35 (tgt := 40) rfl (fun q35 => ?_) (fun q35 => ?_)
        · refine hB.aload_n d_Rd_readInto_40 rfl ?_
          refine hB.callVN lk_Rd_39 cd_Pt_countElement (k_Pt_countElement l g ad _ pt k (stO els k).length hp (by rw [sQ_ne (by omega) (by omega)]; exact hpt.1) (by omega) (by rw [sQ_ne (by omega) (by omega)]; exact hpt.2.1) (stO_len els k)) rfl (by omega) (sK_pt hp) d_Rd_readInto_41 rfl rfl (by decide) (by simp [Value.category]) ?_
          rintro _ w8 ⟨rfl, hw8⟩
          rw [hw8]
          show K 44 _ _ (sCt (sQ w (pb pt + k) (cEl (z.1 2) n k p).2.1 E9) pt k (stO els k).length)
          have hok := bI_1 q35
          rw [if_pos hok, ← hE9 hok] at hR
          have hst := hpt.step (p := (cEl (z.1 2) n k p).2.1) (E := E9) hp (by omega)
          have hfr2 : frP z (sCt (sQ w (pb pt + k) (cEl (z.1 2) n k p).2.1 E9) pt k (stO els k).length) pt := sCt_fr hp (hfr.q hp (by omega))
          refine hB.iinc d_Rd_readInto_44 rfl (v := nI (k + 1)) (nI_succ k).symm ?_
          refine hB.goto d_Rd_readInto_47 (tgt := 11) rfl ?_
          refine ih (k + 1) _ _ _ (by omega) hfr2 ?_ (cEl_in hpn) hst hR
          rw [sCt_ne (by omega) (by omega)]
          exact sQ_p (by omega)
        · have hok := bI_0 q35
          rw [hok] at hR
          simp only [Bool.false_eq_true, if_false] at hR
          rw [← hR] at hE
          refine hB.iconst d_Rd_readInto_38 (v := 0) rfl ?_
          exact hE.1 _ _ _ _ _ d_Rd_readInto_39 rfl rfl ⟨rfl, hfr.q hp (by omega), sQ_p (by omega), cEl_in hpn, fun q => by cases q⟩
  refine hB.aload_n d_Rd_readInto_0 rfl ?_
  refine hB.iconst d_Rd_readInto_1 (v := 0) rfl ?_
  refine hB.putI (Or.inl fa_Rd_19) d_Rd_readInto_2 (by decide) sK_1 rfl rfl rfl ?_
  refine hB.aload_n d_Rd_readInto_5 rfl ?_
  refine hB.callVN lk_Rd_22 cd_Pt_clear (k_Pt_clear l g ad _ pt hp) rfl (by omega) (sK_pt hp) d_Rd_readInto_6 rfl rfl (by decide) (by simp [Value.category]) ?_
  rintro _ w9 ⟨rfl, hw9⟩
  have hw8 := hw9.symm
  clear hw9
  subst hw8
  refine hB.iconst d_Rd_readInto_9 (v := 0) rfl ?_
  refine hB.istore_n d_Rd_readInto_10 (Nat.le_of_ble_eq_true rfl) ?_
  have hpb := pb_in hp
  have f0 : frP z (sI z 1 2 0) pt := ⟨rfl, fun a h1 _ _ _ => sI_row h1, by simp [sI]⟩
  refine h11 8 0 0 (fun _ => pE0) _ rfl ?_ ?_ (Nat.zero_le _) ?_ rfl
  · exact (((f0.i hp (Or.inl rfl)).i hp (Or.inl rfl)).i hp (Or.inl rfl)).i hp (Or.inl rfl)
  · rw [sI_row (by omega), sI_row (by omega), sI_row (by omega), sI_row (by omega)]
    simp [sI]; rfl
  · refine ⟨by simp [sI]; rfl, by simp [sI, stO]; rfl, fun j hj => absurd hj (Nat.not_lt_zero _), fun s x hs => by simp [stO] at hs⟩
