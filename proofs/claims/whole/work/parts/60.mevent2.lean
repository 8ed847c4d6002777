theorem fWi_1 {a b c : Int32} (h : fWi a b c = 1) : ¬ a < b ∧ ¬ c < a := by
  unfold fWi at h
  split at h
  · exact absurd h (by decide)
  · split at h
    · exact absurd h (by decide)
    · exact ⟨by assumption, by assumption⟩
theorem fWi_w {v : Int32} (h : fWi v (-100) 100 = 1) : wV v := by
  obtain ⟨a, b⟩ := fWi_1 h
  exact ⟨Int32.le_iff_toInt_le.mp (Int32.not_lt.mp a), Int32.le_iff_toInt_le.mp (Int32.not_lt.mp b)⟩
theorem at_mid {a b : List rR} {R : rR} : (a ++ R :: b)[a.length]? = some R := by
  rw [List.getElem?_append_right (Nat.le_refl _), Nat.sub_self]
  rfl
theorem x0_of {k : Nat} {els : Nat → pE} (h : wL k els) : (stO els k).getD 0 0 = 0 := by
  cases k with
  | zero => rfl
  | succ k =>
    unfold stO
    rw [List.range_succ_eq_map, List.filter_cons, if_pos (by rw [h.2 (by omega)]; rfl)]
    rfl
theorem arA.late {z0 z : sT} {rs : List rR} {mc : Int32} {S : aA} (hw : arA z0 rs mc S z) : arA z0 rs mc (S.1, S.2.1, S.2.2.1, S.2.2.2.1, S.2.2.2.2.1 + 1, S.2.2.2.2.2) (sI z 126 35 (z.1 126 35 + 1)) :=
  hw.num (fun q hq => sI_row hq) rfl (fun j hj => sI_ne (by omega)) (by rw [sI_ne (by decide)]; exact hw.2.2.2.2.2.2.1) (by rw [sI_eq, hw.2.2.2.2.2.2.2.1]) (by rw [sI_ne (by decide)]; exact hw.2.2.2.2.2.2.2.2)
theorem arA.bar {z0 z : sT} {rs : List rR} {mc : Int32} {S : aA} (hw : arA z0 rs mc S z) : arA z0 rs mc (S.1, S.2.1, S.2.2.1, S.2.2.2.1, S.2.2.2.2.1, S.2.2.2.2.2 + 1) (sI z 126 36 (z.1 126 36 + 1)) :=
  hw.num (fun q hq => sI_row hq) rfl (fun j hj => sI_ne (by omega)) (by rw [sI_ne (by decide)]; exact hw.2.2.2.2.2.2.1) (by rw [sI_ne (by decide)]; exact hw.2.2.2.2.2.2.2.1) (by rw [sI_eq, hw.2.2.2.2.2.2.2.2])
set_option maxRecDepth 100000 in
set_option maxHeartbeats 4000000 in
theorem k_mEvent1 (l : Launch) (g : mG) (ad : Nat → Nat) (z : sT) (S : gS) (E : Nat) (hA : mdA z S E) (hO : gOk S E) (hE9 : E < 520) (q : Nat) (hq : q < 65536) (ke va pa : Int32) (h1 : fWi (nI q) 65 70 = 1) (h2 : fWi ke 0 9 = 1) (h3 : fWi va (-100) 100 = 1) (h4 : fWi pa 0 1000 = 1) (hns : 0 < (gSl S).length) (hr0 : ((gPt S).2.1 0).2.2.2.2.1 = 0) : sC l y_Md_event c_Md_event 9 (some .int) 2 g ad [.ref (ad 126), .int (nI q), .int ke, .int va, .int pa] z (fun r9 w => r9 = some (.int (nI (gMs (gEv S (gC S (nI q) ke va pa))).length)) ∧ w.1 126 0 = 0 ∧ mdA w (gEv S (gC S (nI q) ke va pa)) (E + 1) ∧ frL z w) := by
  refine sC.intro (own := R_Md) rfl (by decide) (by decide) (by simp [Value.category]) (Nat.le_of_ble_eq_true rfl) (fun K hB hE => ?_)
  show K 0 [some (.ref (ad 126)), some (.int (nI q)), some (.int ke), some (.int va), some (.int pa), none, none, none, none] [] z
  have hv := fWi_w h3
  have c1 := fWi_1 h1
  have c2 := fWi_1 h2
  have c3 := fWi_1 h3
  have c4 := fWi_1 h4
  have hnu : (gFg S).2.1 = nI E := hA.2.2.2.2.1
  obtain ⟨-, hok9, hsm9⟩ := hO.ev (kd := nI q) (ke := ke) (pa := pa) hnu hv hns
  have hc0 : cnA (sM z E (nI q) ke va ((gFg S).1 + pa)) (gC S (nI q) ke va pa) E := cnA_0 hA hO hE9 hv
  have hA0 := arA_0 (kd := nI q) (ke := ke) (va := va) (ti := (gFg S).1 + pa) hA hO hE9
  have he18 : z.1 126 18 = nI E := hA.2.2.2.2.2.1
  have he19 : z.1 126 19 = (gFg S).1 := hA.2.2.2.2.2.2.1
  have hst : z.1 126 16 = nI (gSl S).length := hA.2.1.2.1
  have hr24 : (sM z E (nI q) ke va ((gFg S).1 + pa)).1 126 24 = nI (gRs S).length := by rw [sM_126 (by decide) (by decide) (by decide) (by decide) (by decide) (by decide)]; exact hA.2.2.1.1
  have hlr : (gRs S).length ≤ 24 := hO.2.2.2.2.2.1.1
  have hrk : ∀ Q ∈ gRs S, rOk (gC S (nI q) ke va pa) Q ∧ rEv Q E := hO.2.2.2.2.2.1.2
  have hb19 : b19 (gRs S) := fun Q hQ => (hrk Q hQ).2.2.1
  have hl8 : (gSl S).length ≤ 8 := len8 (C := (gC S (nI q) ke va pa)) hO.2.1
  have hok8 : okA (gC S (nI q) ke va pa) E ((gA S (gC S (nI q) ke va pa)).1, ((gA S (gC S (nI q) ke va pa)).2.1 ++ bgL (gC S (nI q) ke va pa) (decide ((gA S (gC S (nI q) ke va pa)).1.length + (gA S (gC S (nI q) ke va pa)).2.1.length < 24))), (gA S (gC S (nI q) ke va pa)).2.2.1 ++ bgM (gC S (nI q) ke va pa), (gA S (gC S (nI q) ke va pa)).2.2.2.1 + bgD (gC S (nI q) ke va pa) (decide ((gA S (gC S (nI q) ke va pa)).1.length + (gA S (gC S (nI q) ke va pa)).2.1.length < 24)), (gA S (gC S (nI q) ke va pa)).2.2.2.2.1, (gA S (gC S (nI q) ke va pa)).2.2.2.2.2) := okA_bg hok9 hnu hv hns
  have hsm8 : (gA S (gC S (nI q) ke va pa)).1.length + ((gA S (gC S (nI q) ke va pa)).2.1 ++ bgL (gC S (nI q) ke va pa) (decide ((gA S (gC S (nI q) ke va pa)).1.length + (gA S (gC S (nI q) ke va pa)).2.1.length < 24))).length ≤ 24 := by
    have h9 := hsm9.1
    rw [List.length_append]
    by_cases hr : (gA S (gC S (nI q) ke va pa)).1.length + (gA S (gC S (nI q) ke va pa)).2.1.length < 24
    · have := (bgL_len (C := (gC S (nI q) ke va pa)) (r := (decide ((gA S (gC S (nI q) ke va pa)).1.length + (gA S (gC S (nI q) ke va pa)).2.1.length < 24)))).1
      omega
    · have := (bgL_len (C := (gC S (nI q) ke va pa)) (r := (decide ((gA S (gC S (nI q) ke va pa)).1.length + (gA S (gC S (nI q) ke va pa)).2.1.length < 24)))).2 (decide_eq_false hr)
      omega
  have hbk : b19 (gA S (gC S (nI q) ke va pa)).1 := fun Q hQ => (hok8.1 Q hQ).2.2.1
  have hbp : b19 ((gA S (gC S (nI q) ke va pa)).2.1 ++ bgL (gC S (nI q) ke va pa) (decide ((gA S (gC S (nI q) ke va pa)).1.length + (gA S (gC S (nI q) ke va pa)).2.1.length < 24))) := fun Q hQ => (hok8.2.1 Q hQ).2.2.1
  have h314 : ∀ (b a : List rR) (v : sT), ((gA S (gC S (nI q) ke va pa)).2.1 ++ bgL (gC S (nI q) ke va pa) (decide ((gA S (gC S (nI q) ke va pa)).1.length + (gA S (gC S (nI q) ke va pa)).2.1.length < 24))) = a ++ b → arA (sM z E (nI q) ke va ((gFg S).1 + pa)) ((gA S (gC S (nI q) ke va pa)).1 ++ a) (gFg S).2.2.1 ((gA S (gC S (nI q) ke va pa)).1, ((gA S (gC S (nI q) ke va pa)).2.1 ++ bgL (gC S (nI q) ke va pa) (decide ((gA S (gC S (nI q) ke va pa)).1.length + (gA S (gC S (nI q) ke va pa)).2.1.length < 24))), (gA S (gC S (nI q) ke va pa)).2.2.1 ++ bgM (gC S (nI q) ke va pa), (gA S (gC S (nI q) ke va pa)).2.2.2.1 + bgD (gC S (nI q) ke va pa) (decide ((gA S (gC S (nI q) ke va pa)).1.length + (gA S (gC S (nI q) ke va pa)).2.1.length < 24)), (gA S (gC S (nI q) ke va pa)).2.2.2.2.1, (gA S (gC S (nI q) ke va pa)).2.2.2.2.2) v → K 314 [some (.ref (ad 126)), some (.int (nI q)), some (.int ke), some (.int va), some (.int pa), some (.int 1), some (.int (nI E)), some (.int (nI ((gA S (gC S (nI q) ke va pa)).1.length + (gA S (gC S (nI q) ke va pa)).2.1.length))), some (.int (nI a.length))] [] v := by
    intro b
    induction b with
    | nil =>
      intro a v hab hv9
      have e25 : v.1 126 25 = nI (gA S (gC S (nI q) ke va pa)).1.length := hv9.2.2.1.1
      have e26 : v.1 126 26 = nI ((gA S (gC S (nI q) ke va pa)).2.1 ++ bgL (gC S (nI q) ke va pa) (decide ((gA S (gC S (nI q) ke va pa)).1.length + (gA S (gC S (nI q) ke va pa)).2.1.length < 24))).length := hv9.2.2.2.1.1
      have e30 := hv9.2.2.2.2.1.1
      rw [List.append_nil] at hab
      refine hB.iload d_Md_event_314 rfl ?_
      refine hB.aload_n d_Md_event_316 rfl ?_
      refine hB.getI (Or.inl fa_Md_166) d_Md_event_317 (by decide) sK_126 rfl ?_
      rw [e26]
      refine hB.icmp_ge d_Md_event_320 (tgt := 345) rfl (fun q320 => ?_) (fun q320 => absurd (nI_le (by rw [hab]; exact Nat.le_refl _) (by rw [← hab]; omega)) q320)
      refine hB.aload_n d_Md_event_345 rfl ?_
      refine hB.aload_n d_Md_event_346 rfl ?_
      refine hB.getI (Or.inl fa_Md_152) d_Md_event_347 (by decide) sK_126 rfl ?_
      refine hB.aload_n d_Md_event_350 rfl ?_
      refine hB.getI (Or.inl fa_Md_166) d_Md_event_351 (by decide) sK_126 rfl ?_
      refine hB.iadd d_Md_event_354 ?_
      rw [e25, e26, nI_add]
      refine hB.putI (Or.inl fa_Md_123) d_Md_event_355 (by decide) sK_126 rfl rfl rfl ?_
      refine hB.aload_n d_Md_event_358 rfl ?_
      refine hB.getI (Or.inl fa_Md_126) d_Md_event_359 (by decide) sK_126 rfl ?_
      rw [sI_ne (by decide), e30]
      exact hE.1 _ _ _ _ _ d_Md_event_362 rfl rfl ⟨rfl, hA.ev (by rw [← hab] at hv9; exact hv9)⟩
    | cons Q b ih =>
      intro a v hab hv9
      have e25 : v.1 126 25 = nI (gA S (gC S (nI q) ke va pa)).1.length := hv9.2.2.1.1
      have e26 : v.1 126 26 = nI ((gA S (gC S (nI q) ke va pa)).2.1 ++ bgL (gC S (nI q) ke va pa) (decide ((gA S (gC S (nI q) ke va pa)).1.length + (gA S (gC S (nI q) ke va pa)).2.1.length < 24))).length := hv9.2.2.2.1.1
      have hQi : ((gA S (gC S (nI q) ke va pa)).2.1 ++ bgL (gC S (nI q) ke va pa) (decide ((gA S (gC S (nI q) ke va pa)).1.length + (gA S (gC S (nI q) ke va pa)).2.1.length < 24)))[a.length]? = some Q := by rw [hab]; exact at_mid
      have hQ19 := hbp.at hQi
      have hai := ix_lt hQi
      have hal : ((gA S (gC S (nI q) ke va pa)).1 ++ a).length = (gA S (gC S (nI q) ke va pa)).1.length + a.length := List.length_append
      refine hB.iload d_Md_event_314 rfl ?_
      refine hB.aload_n d_Md_event_316 rfl ?_
      refine hB.getI (Or.inl fa_Md_166) d_Md_event_317 (by decide) sK_126 rfl ?_
      rw [e26]
      refine hB.icmp_ge d_Md_event_320 (tgt := 345) rfl (fun q320 => absurd q320 (nI_ge hai (by omega))) (fun q320 => ?_)
      refine hB.aload_n d_Md_event_323 rfl ?_
      refine hB.bipush d_Md_event_324 (v := 50) rfl ?_
      refine hB.iload d_Md_event_326 rfl ?_
      refine hB.iadd d_Md_event_328 ?_
      refine hB.aload_n d_Md_event_329 rfl ?_
      refine hB.getI (Or.inl fa_Md_152) d_Md_event_330 (by decide) sK_126 rfl ?_
      refine hB.iload d_Md_event_333 rfl ?_
      refine hB.iadd d_Md_event_335 ?_
      rw [show (50 : Int32) + nI a.length = nI (50 + a.length) from nI_add 50 _, e25, nI_add]
      refine hB.callV lk_Md_155 cd_Md_copy (k_mCopy l g ad v (50 + a.length) ((gA S (gC S (nI q) ke va pa)).1.length + a.length) Q (by omega) (by omega) (by omega) (hv9.2.2.2.1.2 a.length Q hQi) (by omega)) rfl (by decide) sK_126 d_Md_event_336 rfl rfl (by decide) (by simp [Value.category]) ?_
      rintro _ v2 ⟨rfl, hQ, hf⟩
      refine hB.iinc d_Md_event_339 rfl (v := nI (a ++ [Q]).length) (by rw [List.length_append]; exact (nI_succ _).symm) ?_
      refine hB.goto d_Md_event_342 (tgt := 314) rfl ?_
      exact ih (a ++ [Q]) v2 (by rw [hab, List.append_assoc]; rfl) (by rw [← List.append_assoc]; exact hv9.row hal.symm (by omega) ⟨fun P hP => (List.mem_append.mp hP).elim (hbk P) (fun hP => hbp P (by rw [hab]; exact List.mem_append_left _ hP)), hbk, hbp⟩ hf hQ)
  have h285 : ∀ (b a : List rR) (v : sT), (gA S (gC S (nI q) ke va pa)).1 = a ++ b → arA (sM z E (nI q) ke va ((gFg S).1 + pa)) a (gFg S).2.2.1 ((gA S (gC S (nI q) ke va pa)).1, ((gA S (gC S (nI q) ke va pa)).2.1 ++ bgL (gC S (nI q) ke va pa) (decide ((gA S (gC S (nI q) ke va pa)).1.length + (gA S (gC S (nI q) ke va pa)).2.1.length < 24))), (gA S (gC S (nI q) ke va pa)).2.2.1 ++ bgM (gC S (nI q) ke va pa), (gA S (gC S (nI q) ke va pa)).2.2.2.1 + bgD (gC S (nI q) ke va pa) (decide ((gA S (gC S (nI q) ke va pa)).1.length + (gA S (gC S (nI q) ke va pa)).2.1.length < 24)), (gA S (gC S (nI q) ke va pa)).2.2.2.2.1, (gA S (gC S (nI q) ke va pa)).2.2.2.2.2) v → K 285 [some (.ref (ad 126)), some (.int (nI q)), some (.int ke), some (.int va), some (.int pa), some (.int 1), some (.int (nI E)), some (.int (nI ((gA S (gC S (nI q) ke va pa)).1.length + (gA S (gC S (nI q) ke va pa)).2.1.length))), some (.int (nI a.length))] [] v := by
    intro b
    induction b with
    | nil =>
      intro a v hab hv9
      have e25 : v.1 126 25 = nI (gA S (gC S (nI q) ke va pa)).1.length := hv9.2.2.1.1
      rw [List.append_nil] at hab
      refine hB.iload d_Md_event_285 rfl ?_
      refine hB.aload_n d_Md_event_287 rfl ?_
      refine hB.getI (Or.inl fa_Md_152) d_Md_event_288 (by decide) sK_126 rfl ?_
      rw [e25]
      refine hB.icmp_ge d_Md_event_291 (tgt := 311) rfl (fun q291 => ?_) (fun q291 => absurd (nI_le (by rw [hab]; exact Nat.le_refl _) (by rw [← hab]; omega)) q291)
      refine hB.iconst d_Md_event_311 (v := 0) rfl ?_
      refine hB.istore d_Md_event_312 (Nat.le_of_ble_eq_true rfl) ?_
      exact h314 _ [] v rfl (by rw [List.append_nil, hab]; rw [hab] at hv9; exact hv9)
    | cons Q b ih =>
      intro a v hab hv9
      have e25 : v.1 126 25 = nI (gA S (gC S (nI q) ke va pa)).1.length := hv9.2.2.1.1
      have hQi : (gA S (gC S (nI q) ke va pa)).1[a.length]? = some Q := by rw [hab]; exact at_mid
      have hQ19 := hbk.at hQi
      have hai := ix_lt hQi
      refine hB.iload d_Md_event_285 rfl ?_
      refine hB.aload_n d_Md_event_287 rfl ?_
      refine hB.getI (Or.inl fa_Md_152) d_Md_event_288 (by decide) sK_126 rfl ?_
      rw [e25]
      refine hB.icmp_ge d_Md_event_291 (tgt := 311) rfl (fun q291 => absurd q291 (nI_ge hai (by omega))) (fun q291 => ?_)
      refine hB.aload_n d_Md_event_294 rfl ?_
      refine hB.bipush d_Md_event_295 (v := 25) rfl ?_
      refine hB.iload d_Md_event_297 rfl ?_
      refine hB.iadd d_Md_event_299 ?_
      refine hB.iload d_Md_event_300 rfl ?_
      rw [show (25 : Int32) + nI a.length = nI (25 + a.length) from nI_add 25 _]
      refine hB.callV lk_Md_155 cd_Md_copy (k_mCopy l g ad v (25 + a.length) a.length Q (by omega) (by omega) (by omega) (hv9.2.2.1.2 a.length Q hQi) (by omega)) rfl (by decide) sK_126 d_Md_event_302 rfl rfl (by decide) (by simp [Value.category]) ?_
      rintro _ v2 ⟨rfl, hQ, hf⟩
      refine hB.iinc d_Md_event_305 rfl (v := nI (a ++ [Q]).length) (by rw [List.length_append]; exact (nI_succ _).symm) ?_
      refine hB.goto d_Md_event_308 (tgt := 285) rfl ?_
      exact ih (a ++ [Q]) v2 (by rw [hab, List.append_assoc]; rfl) (hv9.row rfl (by omega) ⟨fun P hP => hbk P (by rw [hab]; exact List.mem_append_left _ hP), hbk, hbp⟩ hf hQ)
  have h274 : ∀ (w : sT) (i : Int32), arA (sM z E (nI q) ke va ((gFg S).1 + pa)) (gRs S) (gFg S).2.2.1 (gA S (gC S (nI q) ke va pa)) w → K 274 [some (.ref (ad 126)), some (.int (nI q)), some (.int ke), some (.int va), some (.int pa), some (.int 1), some (.int (nI E)), some (.int (nI ((gA S (gC S (nI q) ke va pa)).1.length + (gA S (gC S (nI q) ke va pa)).2.1.length))), some (.int i)] [] w := by
    intro w i hw
    have hc9 : cnA w (gC S (nI q) ke va pa) E := hc0.fr hw.1
    refine hB.aload_n d_Md_event_274 rfl ?_
    refine hB.iload d_Md_event_275 rfl ?_
    refine hB.iload d_Md_event_277 rfl ?_
    refine hB.callV lk_Md_177 cd_Md_start (k_mStart l g ad w (gC S (nI q) ke va pa) E (sM z E (nI q) ke va ((gFg S).1 + pa)) (gRs S) (gFg S).2.2.1 (gA S (gC S (nI q) ke va pa)).1 (gA S (gC S (nI q) ke va pa)).2.1 (gA S (gC S (nI q) ke va pa)).2.2.1 (gA S (gC S (nI q) ke va pa)).2.2.2.1 (gA S (gC S (nI q) ke va pa)).2.2.2.2.1 (gA S (gC S (nI q) ke va pa)).2.2.2.2.2 hc9 hw (hok9.bd hlr hb19) (by have h9 := hsm9.1; omega) (by have h9 := hsm9.2; omega) hns (x0_of hO.2.2.1) hr0) rfl (by decide) sK_126 d_Md_event_279 rfl rfl (by decide) (by simp [Value.category]) ?_
    rintro _ w4 ⟨rfl, hA4⟩
    refine hB.iconst d_Md_event_282 (v := 0) rfl ?_
    refine hB.istore d_Md_event_283 (Nat.le_of_ble_eq_true rfl) ?_
    exact h285 _ [] w4 rfl hA4.nil
  have h174 : ∀ (rem a : List rR) (S9 : aA) (T : Nat) (w : sT), arA (sM z E (nI q) ke va ((gFg S).1 + pa)) (gRs S) (gFg S).2.2.1 S9 w → okA (gC S (nI q) ke va pa) E S9 → smA S9 rem.length → T = S9.1.length + (rem.length + S9.2.1.length) → gRs S = a ++ rem → aLook (gC S (nI q) ke va pa) S9 rem = (gA S (gC S (nI q) ke va pa)) → K 174 [some (.ref (ad 126)), some (.int (nI q)), some (.int ke), some (.int va), some (.int pa), some (.int 1), some (.int (nI E)), some (.int (nI T)), some (.int (nI a.length))] [] w := by
    intro rem
    induction rem with
    | nil =>
      intro a S9 T w hw hok hsm hT hab hlk
      have hS9 : S9 = (gA S (gC S (nI q) ke va pa)) := hlk
      subst hS9
      have hT2 : T = ((gA S (gC S (nI q) ke va pa)).1.length + (gA S (gC S (nI q) ke va pa)).2.1.length) := by rw [hT]; show _ + (0 + _) = _; omega
      subst hT2
      have e24 : w.1 126 24 = nI (gRs S).length := by rw [hw.1.2.2 24 (by decide)]; exact hr24
      rw [List.append_nil] at hab
      refine hB.iload d_Md_event_174 rfl ?_
      refine hB.aload_n d_Md_event_176 rfl ?_
      refine hB.getI (Or.inl fa_Md_123) d_Md_event_177 (by decide) sK_126 rfl ?_
      rw [e24]
      refine hB.icmp_ge d_Md_event_180 (tgt := 274) rfl (fun q180 => ?_) (fun q180 => absurd (nI_le (by rw [hab]; exact Nat.le_refl _) (by rw [← hab]; omega)) q180)
      exact h274 w _ hw
    | cons R rem ih =>
      intro a S9 T w hw hok hsm hT hab hlk
      have e24 : w.1 126 24 = nI (gRs S).length := by rw [hw.1.2.2 24 (by decide)]; exact hr24
      have hi : (gRs S)[a.length]? = some R := by rw [hab]; exact at_mid
      have hil := ix_lt hi
      obtain ⟨hrok, hrev⟩ := hrk R (List.mem_of_getElem? hi)
      have hc9 : cnA w (gC S (nI q) ke va pa) E := hc0.fr hw.1
      have hmd : mdR w a.length R := hw.2.1 _ R hi
      have hbd : bdA (gRs S) S9 := hok.bd hlr hb19
      obtain ⟨r1, r19, r3, r4⟩ := id hrev
      obtain ⟨e0, he0, ht0⟩ := r3 0 (by omega)
      have ht1 : w.1 141 (24 * a.length) = nI e0 := (hmd.2.2.1 0 (by omega)).trans ht0
      have ht2 : w.1 138 e0 = R.2.2.2.2.1 := (hmd.2.2.2.1 e0 (by omega) ht0).2
      have h18 := rOk_18 (C := (gC S (nI q) ke va pa)) hO.2.1 hrok
      have hx := hc9.2.2.1 _ _ (aX_at hrok)
      have hy := hc9.2.2.1 _ _ (aY_at hrok)
      have hxy := stO_mono (aX_at hrok) (aY_at hrok) (Nat.lt_succ_self _)
      have hyK : aY (gC S (nI q) ke va pa) R < xK (gC S (nI q) ke va pa) := stO_in (aY_at hrok)
      have hK8 : xK (gC S (nI q) ke va pa) ≤ 8 := hO.2.1
      have hT2 : T = S9.1.length + (rem.length + S9.2.1.length) + 1 := by rw [hT]; show _ + (rem.length + 1 + _) = _; omega
      subst hT2
      clear hT
      have h268 : ∀ (w2 : sT) (T2 : Nat), arA (sM z E (nI q) ke va ((gFg S).1 + pa)) (gRs S) (gFg S).2.2.1 (aOne (gC S (nI q) ke va pa) S9 R rem.length) w2 → T2 = (aOne (gC S (nI q) ke va pa) S9 R rem.length).1.length + (rem.length + (aOne (gC S (nI q) ke va pa) S9 R rem.length).2.1.length) → K 268 [some (.ref (ad 126)), some (.int (nI q)), some (.int ke), some (.int va), some (.int pa), some (.int 1), some (.int (nI E)), some (.int (nI T2)), some (.int (nI a.length))] [] w2 := by
        intro w2 T2 hw2 hT2
        refine hB.iinc d_Md_event_268 rfl (v := nI (a ++ [R]).length) (by rw [List.length_append]; exact (nI_succ _).symm) ?_
        refine hB.goto d_Md_event_271 (tgt := 174) rfl ?_
        exact ih (a ++ [R]) _ T2 w2 hw2 (okA_one hK8 hok hrok hrev hnu hv) (smA_one hsm) hT2 (by rw [hab, List.append_assoc]; rfl) hlk
      refine hB.iload d_Md_event_174 rfl ?_
      refine hB.aload_n d_Md_event_176 rfl ?_
      refine hB.getI (Or.inl fa_Md_123) d_Md_event_177 (by decide) sK_126 rfl ?_
      rw [e24]
      refine hB.icmp_ge d_Md_event_180 (tgt := 274) rfl (fun q180 => absurd q180 (nI_ge hil (by omega))) (fun q180 => ?_)
      refine hB.aload_n d_Md_event_183 rfl ?_
      refine hB.getI (Or.inl fa_Md_120) d_Md_event_184 (by decide) sK_126 rfl ?_
      refine hB.aload_n d_Md_event_187 rfl ?_
      refine hB.getC (Or.inl fa_Md_49) d_Md_event_188 (by decide) sK_126 rfl ?_
      refine hB.aload_n d_Md_event_191 rfl ?_
      refine hB.getC (Or.inl fa_Md_58) d_Md_event_192 (by decide) sK_126 rfl ?_
      refine hB.bipush d_Md_event_195 (v := 24) rfl ?_
      refine hB.iload d_Md_event_197 rfl ?_
      refine hB.imul d_Md_event_199 ?_
      refine hB.iald d_Md_event_200 (by decide) rfl (pk_mul 24 a.length) (by omega) (by decide) ?_
      refine hB.iald d_Md_event_201 (by decide) rfl ht1 (by omega) (by decide) ?_
      refine hB.isub d_Md_event_202 ?_
      refine hB.aload_n d_Md_event_203 rfl ?_
      refine hB.getI (Or.inl fa_Md_114) d_Md_event_204 (by decide) sK_126 rfl ?_
      rw [ht2, hc9.2.2.2.2.2.2.1, hc9.2.2.2.2.2.1]
      refine hB.icmp_le d_Md_event_207 (tgt := 226) rfl (fun q207 => ?_) (fun q207 => ?_)
      · have hlt : aLt (gC S (nI q) ke va pa) R = false := decide_eq_false (Int32.not_lt.mpr q207)
        refine hB.aload_n d_Md_event_226 rfl ?_
        refine hB.iload d_Md_event_227 rfl ?_
        refine hB.iload d_Md_event_229 rfl ?_
        refine hB.callV lk_Md_169 cd_Md_isBarred (k_mBarred l g ad w (gC S (nI q) ke va pa) E hc9.1 a.length R (by omega) hmd r1 r19 r3 r4 (aX (gC S (nI q) ke va pa) R) (aY (gC S (nI q) ke va pa) R) hx hy hxy (by omega) h18.2 (fun e _ he => hc9.2.2.2.1 e (by omega))) rfl (by decide) sK_126 d_Md_event_231 rfl rfl (by decide) (by simp [Value.category]) ?_
        rintro _ w9 ⟨rfl, hw9⟩
        have hw8 := hw9.symm
        clear hw9
        subst hw8
        refine hB.if_eq d_Md_event_234 (tgt := 253) rfl (fun q234 => ?_) (fun q234 => ?_)
        · have hbr : aBr (gC S (nI q) ke va pa) R = false := bI_0 q234
          refine hB.iload d_Md_event_253 rfl ?_
          refine hB.aload_n d_Md_event_255 rfl ?_
          refine hB.iload d_Md_event_256 rfl ?_
          refine hB.iload d_Md_event_258 rfl ?_
          refine hB.iload d_Md_event_260 rfl ?_
          refine hB.callV lk_Md_173 cd_Md_proceed (k_mProceed l g ad w (gC S (nI q) ke va pa) E a.length rem.length (sM z E (nI q) ke va ((gFg S).1 + pa)) (gRs S) (gFg S).2.2.1 S9.1 S9.2.1 S9.2.2.1 S9.2.2.2.1 S9.2.2.2.2.1 S9.2.2.2.2.2 R hc9 hw hi hbd hrok hrev hsm hlt hbr) rfl (by decide) sK_126 d_Md_event_262 rfl rfl (by decide) (by simp [Value.category]) ?_
          rintro _ w2 ⟨x9, rfl, hx9, hA2⟩
          refine hB.iadd d_Md_event_265 ?_
          rw [hx9]
          refine hB.istore d_Md_event_266 (Nat.le_of_ble_eq_true rfl) ?_
          first
            | (refine h268 _ _ hA2 rfl; done)
            | (have hw3 := hw.late; rw [← e9] at hw3; refine h268 _ _ hw3 ?_; rw [e9]; done)
            | (have hw3 := hw.bar; rw [← e9] at hw3; refine h268 _ _ hw3 ?_; rw [e9])
        · have hbr : aBr (gC S (nI q) ke va pa) R = true := bI_1 q234
          have e9 : aOne (gC S (nI q) ke va pa) S9 R rem.length = (S9.1, S9.2.1, S9.2.2.1, S9.2.2.2.1, S9.2.2.2.2.1, S9.2.2.2.2.2 + 1) := one_br hlt hbr
          refine hB.aload_n d_Md_event_237 rfl ?_
          refine hB.dup d_Md_event_238 rfl ?_
          refine hB.getI (Or.inl fa_Md_138) d_Md_event_239 (by decide) sK_126 rfl ?_
          refine hB.iconst d_Md_event_242 (v := 1) rfl ?_
          refine hB.iadd d_Md_event_243 ?_
          refine hB.putI (Or.inl fa_Md_138) d_Md_event_244 (by decide) sK_126 rfl rfl rfl ?_
          refine hB.iinc d_Md_event_247 rfl (v := nI (S9.1.length + (rem.length + S9.2.1.length))) (pk_m1 _) ?_
          refine hB.goto d_Md_event_250 (tgt := 268) rfl ?_
          first
            | (refine h268 _ _ hA2 rfl; done)
            | (have hw3 := hw.late; rw [← e9] at hw3; refine h268 _ _ hw3 ?_; rw [e9]; done)
            | (have hw3 := hw.bar; rw [← e9] at hw3; refine h268 _ _ hw3 ?_; rw [e9])
      · have hlt : aLt (gC S (nI q) ke va pa) R = true := decide_eq_true (Int32.not_le.mp q207)
        have e9 : aOne (gC S (nI q) ke va pa) S9 R rem.length = (S9.1, S9.2.1, S9.2.2.1, S9.2.2.2.1, S9.2.2.2.2.1 + 1, S9.2.2.2.2.2) := one_lt hlt
        refine hB.aload_n d_Md_event_210 rfl ?_
        refine hB.dup d_Md_event_211 rfl ?_
        refine hB.getI (Or.inl fa_Md_135) d_Md_event_212 (by decide) sK_126 rfl ?_
        refine hB.iconst d_Md_event_215 (v := 1) rfl ?_
        refine hB.iadd d_Md_event_216 ?_
        refine hB.putI (Or.inl fa_Md_135) d_Md_event_217 (by decide) sK_126 rfl rfl rfl ?_
        refine hB.iinc d_Md_event_220 rfl (v := nI (S9.1.length + (rem.length + S9.2.1.length))) (pk_m1 _) ?_
        refine hB.goto d_Md_event_223 (tgt := 268) rfl ?_
        first
          | (refine h268 _ _ hA2 rfl; done)
          | (have hw3 := hw.late; rw [← e9] at hw3; refine h268 _ _ hw3 ?_; rw [e9]; done)
          | (have hw3 := hw.bar; rw [← e9] at hw3; refine h268 _ _ hw3 ?_; rw [e9])
  have h165 : K 165 [some (.ref (ad 126)), some (.int (nI q)), some (.int ke), some (.int va), some (.int pa), some (.int 1), some (.int (nI E)), none, none] [] (sM z E (nI q) ke va ((gFg S).1 + pa)) := by
    refine hB.aload_n d_Md_event_165 rfl ?_
    refine hB.getI (Or.inl fa_Md_123) d_Md_event_166 (by decide) sK_126 rfl ?_
    rw [hr24]
    refine hB.istore d_Md_event_169 (Nat.le_of_ble_eq_true rfl) ?_
    refine hB.iconst d_Md_event_171 (v := 0) rfl ?_
    refine hB.istore d_Md_event_172 (Nat.le_of_ble_eq_true rfl) ?_
    exact h174 (gRs S) [] _ _ _ hA0 ⟨fun Q hQ => (by cases hQ), fun Q hQ => (by cases hQ), fun Q hQ => (by cases hQ)⟩ ⟨by show 0 + ((gRs S).length + 0) ≤ 24; omega, by show 0 + (gRs S).length ≤ 24; omega⟩ (by show _ = 0 + ((gRs S).length + 0); omega) rfl rfl
  refine hB.iload_n d_Md_event_0 rfl ?_
  refine hB.bipush d_Md_event_1 (v := 65) rfl ?_
  refine hB.icmp_lt d_Md_event_3 (tgt := 51) rfl (fun q3 => absurd q3 c1.1) (fun q3 => ?_)
  refine hB.iload_n d_Md_event_6 rfl ?_
  refine hB.bipush d_Md_event_7 (v := 70) rfl ?_
  refine hB.icmp_gt d_Md_event_9 (tgt := 51) rfl (fun q9 => absurd q9 c1.2) (fun q9 => ?_)
  refine hB.iload_n d_Md_event_12 rfl ?_
  refine hB.if_lt d_Md_event_13 (tgt := 51) rfl (fun q13 => absurd q13 c2.1) (fun q13 => ?_)
  refine hB.iload_n d_Md_event_16 rfl ?_
  refine hB.bipush d_Md_event_17 (v := 9) rfl ?_
  refine hB.icmp_gt d_Md_event_19 (tgt := 51) rfl (fun q19 => absurd q19 c2.2) (fun q19 => ?_)
  refine hB.iload_n d_Md_event_22 rfl ?_
  refine hB.bipush d_Md_event_23 (v := -100) rfl ?_
  refine hB.icmp_lt d_Md_event_25 (tgt := 51) rfl (fun q25 => absurd q25 c3.1) (fun q25 => ?_)
  refine hB.iload_n d_Md_event_28 rfl ?_
  refine hB.bipush d_Md_event_29 (v := 100) rfl ?_
  refine hB.icmp_gt d_Md_event_31 (tgt := 51) rfl (fun q31 => absurd q31 c3.2) (fun q31 => ?_)
  refine hB.iload d_Md_event_34 rfl ?_
  refine hB.if_lt d_Md_event_36 (tgt := 51) rfl (fun q36 => absurd q36 c4.1) (fun q36 => ?_)
  refine hB.iload d_Md_event_39 rfl ?_
  refine hB.sipush d_Md_event_41 (v := 1000) rfl ?_
  refine hB.icmp_gt d_Md_event_44 (tgt := 51) rfl (fun q44 => absurd q44 c4.2) (fun q44 => ?_)
  refine hB.iconst d_Md_event_47 (v := 1) rfl ?_
  refine hB.goto d_Md_event_48 (tgt := 52) rfl ?_
  refine hB.istore d_Md_event_52 (Nat.le_of_ble_eq_true rfl) ?_
  refine hB.aload_n d_Md_event_54 rfl ?_
  refine hB.aload_n d_Md_event_55 rfl ?_
  refine hB.getI (Or.inl fa_Md_108) d_Md_event_56 (by decide) sK_126 rfl ?_
  rw [hst]
  refine hB.if_ne d_Md_event_59 (tgt := 66) rfl (fun q59 => ?_) (fun q59 => absurd q59 (nI_ne0 hns (by omega)))
  refine hB.iload d_Md_event_66 rfl ?_
  refine hB.if_ne d_Md_event_68 (tgt := 75) rfl (fun q68 => ?_) (fun q68 => absurd q68 (by decide))
  refine hB.iconst d_Md_event_75 (v := 0) rfl ?_
  refine hB.putI (Or.inl fa_Md_67) d_Md_event_76 (by decide) sK_126 rfl rfl rfl ?_
  refine hB.aload_n d_Md_event_79 rfl ?_
  refine hB.getI (Or.inl fa_Md_67) d_Md_event_80 (by decide) sK_126 rfl ?_
  rw [sI_eq]
  refine hB.if_le d_Md_event_83 (tgt := 88) rfl (fun q83 => ?_) (fun q83 => absurd (by decide) q83)
  refine hB.aload_n d_Md_event_88 rfl ?_
  refine hB.getI (Or.inl fa_Md_117) d_Md_event_89 (by decide) sK_126 rfl ?_
  rw [sI_ne (by decide), he18]
  refine hB.istore d_Md_event_92 (Nat.le_of_ble_eq_true rfl) ?_
  refine hB.aload_n d_Md_event_94 rfl ?_
  refine hB.dup d_Md_event_95 rfl ?_
  refine hB.getI (Or.inl fa_Md_117) d_Md_event_96 (by decide) sK_126 rfl ?_
  refine hB.iconst d_Md_event_99 (v := 1) rfl ?_
  refine hB.iadd d_Md_event_100 ?_
  rw [sI_ne (by decide), he18, ← nI_succ]
  refine hB.putI (Or.inl fa_Md_117) d_Md_event_101 (by decide) sK_126 rfl rfl rfl ?_
  refine hB.aload_n d_Md_event_104 rfl ?_
  refine hB.dup d_Md_event_105 rfl ?_
  refine hB.getI (Or.inl fa_Md_120) d_Md_event_106 (by decide) sK_126 rfl ?_
  refine hB.iload d_Md_event_109 rfl ?_
  refine hB.iadd d_Md_event_111 ?_
  rw [sI_ne (by decide), sI_ne (by decide), he19]
  refine hB.putI (Or.inl fa_Md_120) d_Md_event_112 (by decide) sK_126 rfl rfl rfl ?_
  refine hB.aload_n d_Md_event_115 rfl ?_
  refine hB.getC (Or.inl fa_Md_40) d_Md_event_116 (by decide) sK_126 rfl ?_
  refine hB.iload d_Md_event_119 rfl ?_
  refine hB.iload_n d_Md_event_121 rfl ?_
  refine hB.cast d_Md_event_122 (by decide) rfl rfl (by omega) (by decide) (vp_char hq) ?_
  refine hB.aload_n d_Md_event_123 rfl ?_
  refine hB.getC (Or.inl fa_Md_43) d_Md_event_124 (by decide) sK_126 rfl ?_
  refine hB.iload d_Md_event_127 rfl ?_
  refine hB.iload_n d_Md_event_129 rfl ?_
  refine hB.iast d_Md_event_130 (by decide) rfl rfl (by omega) (by decide) ?_
  refine hB.aload_n d_Md_event_131 rfl ?_
  refine hB.getC (Or.inl fa_Md_46) d_Md_event_132 (by decide) sK_126 rfl ?_
  refine hB.iload d_Md_event_135 rfl ?_
  refine hB.iload_n d_Md_event_137 rfl ?_
  refine hB.iast d_Md_event_138 (by decide) rfl rfl (by omega) (by decide) ?_
  refine hB.aload_n d_Md_event_139 rfl ?_
  refine hB.getC (Or.inl fa_Md_49) d_Md_event_140 (by decide) sK_126 rfl ?_
  refine hB.iload d_Md_event_143 rfl ?_
  refine hB.aload_n d_Md_event_145 rfl ?_
  refine hB.getI (Or.inl fa_Md_120) d_Md_event_146 (by decide) sK_126 rfl ?_
  rw [sI_row (by decide), sI_row (by decide), sI_row (by decide), sI_eq]
  refine hB.iast d_Md_event_149 (by decide) rfl rfl (by omega) (by decide) ?_
  refine hB.aload_n d_Md_event_150 rfl ?_
  refine hB.iconst d_Md_event_151 (v := 0) rfl ?_
  refine hB.putI (Or.inl fa_Md_126) d_Md_event_152 (by decide) sK_126 rfl rfl rfl ?_
  refine hB.aload_n d_Md_event_155 rfl ?_
  refine hB.iconst d_Md_event_156 (v := 0) rfl ?_
  refine hB.putI (Or.inl fa_Md_152) d_Md_event_157 (by decide) sK_126 rfl rfl rfl ?_
  refine hB.aload_n d_Md_event_160 rfl ?_
  refine hB.iconst d_Md_event_161 (v := 0) rfl ?_
  refine hB.putI (Or.inl fa_Md_166) d_Md_event_162 (by decide) sK_126 rfl rfl rfl ?_
  exact h165
set_option maxRecDepth 100000 in
set_option maxHeartbeats 4000000 in
theorem k_mEvent0 (l : Launch) (g : mG) (ad : Nat → Nat) (z : sT) (S : gS) (E : Nat) (hA : mdA z S E) (hns : (gSl S).length = 0) (q : Nat) (ke va pa : Int32) : sC l y_Md_event c_Md_event 9 (some .int) 2 g ad [.ref (ad 126), .int (nI q), .int ke, .int va, .int pa] z (fun r9 w => r9 = some (.int 0) ∧ w = sI z 126 0 1) := by
  refine sC.intro (own := R_Md) rfl (by decide) (by decide) (by simp [Value.category]) (Nat.le_of_ble_eq_true rfl) (fun K hB hE => ?_)
  show K 0 [some (.ref (ad 126)), some (.int (nI q)), some (.int ke), some (.int va), some (.int pa), none, none, none, none] [] z
  have hst : z.1 126 16 = 0 := by rw [hA.2.1.2.1, hns]; rfl
  have h54 : ∀ x : Int32, K 54 [some (.ref (ad 126)), some (.int (nI q)), some (.int ke), some (.int va), some (.int pa), some (.int x), none, none, none] [] z := by
    intro x
    refine hB.aload_n d_Md_event_54 rfl ?_
    refine hB.aload_n d_Md_event_55 rfl ?_
    refine hB.getI (Or.inl fa_Md_108) d_Md_event_56 (by decide) sK_126 rfl ?_
    rw [hst]
    refine hB.if_ne d_Md_event_59 (tgt := 66) rfl (fun q59 => absurd rfl q59) (fun q59 => ?_)
    refine hB.iconst d_Md_event_62 (v := 1) rfl ?_
    refine hB.goto d_Md_event_63 (tgt := 76) rfl ?_
    refine hB.putI (Or.inl fa_Md_67) d_Md_event_76 (by decide) sK_126 rfl rfl rfl ?_
    refine hB.aload_n d_Md_event_79 rfl ?_
    refine hB.getI (Or.inl fa_Md_67) d_Md_event_80 (by decide) sK_126 rfl ?_
    rw [sI_eq]
    refine hB.if_le d_Md_event_83 (tgt := 88) rfl (fun q83 => absurd q83 (by decide)) (fun q83 => ?_)
    refine hB.iconst d_Md_event_86 (v := 0) rfl ?_
    exact hE.1 _ _ _ _ _ d_Md_event_87 rfl rfl ⟨rfl, rfl⟩
  refine hB.iload_n d_Md_event_0 rfl ?_
  refine hB.bipush d_Md_event_1 (v := 65) rfl ?_
  refine hB.icmp_lt d_Md_event_3 (tgt := 51) rfl (fun q3 => ?_) (fun q3 => ?_)
  · refine hB.iconst d_Md_event_51 (v := 0) rfl ?_
    refine hB.istore d_Md_event_52 (Nat.le_of_ble_eq_true rfl) ?_
    exact h54 _
  · refine hB.iload_n d_Md_event_6 rfl ?_
    refine hB.bipush d_Md_event_7 (v := 70) rfl ?_
    refine hB.icmp_gt d_Md_event_9 (tgt := 51) rfl (fun q9 => ?_) (fun q9 => ?_)
    · refine hB.iconst d_Md_event_51 (v := 0) rfl ?_
      refine hB.istore d_Md_event_52 (Nat.le_of_ble_eq_true rfl) ?_
      exact h54 _
    · refine hB.iload_n d_Md_event_12 rfl ?_
      refine hB.if_lt d_Md_event_13 (tgt := 51) rfl (fun q13 => ?_) (fun q13 => ?_)
      · refine hB.iconst d_Md_event_51 (v := 0) rfl ?_
        refine hB.istore d_Md_event_52 (Nat.le_of_ble_eq_true rfl) ?_
        exact h54 _
      · refine hB.iload_n d_Md_event_16 rfl ?_
        refine hB.bipush d_Md_event_17 (v := 9) rfl ?_
        refine hB.icmp_gt d_Md_event_19 (tgt := 51) rfl (fun q19 => ?_) (fun q19 => ?_)
        · refine hB.iconst d_Md_event_51 (v := 0) rfl ?_
          refine hB.istore d_Md_event_52 (Nat.le_of_ble_eq_true rfl) ?_
          exact h54 _
        · refine hB.iload_n d_Md_event_22 rfl ?_
          refine hB.bipush d_Md_event_23 (v := -100) rfl ?_
          refine hB.icmp_lt d_Md_event_25 (tgt := 51) rfl (fun q25 => ?_) (fun q25 => ?_)
          · refine hB.iconst d_Md_event_51 (v := 0) rfl ?_
            refine hB.istore d_Md_event_52 (Nat.le_of_ble_eq_true rfl) ?_
            exact h54 _
          · refine hB.iload_n d_Md_event_28 rfl ?_
            refine hB.bipush d_Md_event_29 (v := 100) rfl ?_
            refine hB.icmp_gt d_Md_event_31 (tgt := 51) rfl (fun q31 => ?_) (fun q31 => ?_)
            · refine hB.iconst d_Md_event_51 (v := 0) rfl ?_
              refine hB.istore d_Md_event_52 (Nat.le_of_ble_eq_true rfl) ?_
              exact h54 _
            · refine hB.iload d_Md_event_34 rfl ?_
              refine hB.if_lt d_Md_event_36 (tgt := 51) rfl (fun q36 => ?_) (fun q36 => ?_)
              · refine hB.iconst d_Md_event_51 (v := 0) rfl ?_
                refine hB.istore d_Md_event_52 (Nat.le_of_ble_eq_true rfl) ?_
                exact h54 _
              · refine hB.iload d_Md_event_39 rfl ?_
                refine hB.sipush d_Md_event_41 (v := 1000) rfl ?_
                refine hB.icmp_gt d_Md_event_44 (tgt := 51) rfl (fun q44 => ?_) (fun q44 => ?_)
                · refine hB.iconst d_Md_event_51 (v := 0) rfl ?_
                  refine hB.istore d_Md_event_52 (Nat.le_of_ble_eq_true rfl) ?_
                  exact h54 _
                · refine hB.iconst d_Md_event_47 (v := 1) rfl ?_
                  refine hB.goto d_Md_event_48 (tgt := 52) rfl ?_
                  refine hB.istore d_Md_event_52 (Nat.le_of_ble_eq_true rfl) ?_
                  exact h54 _
set_option maxRecDepth 100000 in
set_option maxHeartbeats 4000000 in
theorem k_mEvent2 (l : Launch) (g : mG) (ad : Nat → Nat) (z : sT) (S : gS) (E : Nat) (hA : mdA z S E) (hns : 0 < (gSl S).length) (hl8 : (gSl S).length ≤ 8) (q : Nat) (ke va pa : Int32) (hbad : (¬ (fWi (nI q) 65 70 = 1 ∧ fWi ke 0 9 = 1 ∧ fWi va (-100) 100 = 1 ∧ fWi pa 0 1000 = 1))) : sC l y_Md_event c_Md_event 9 (some .int) 2 g ad [.ref (ad 126), .int (nI q), .int ke, .int va, .int pa] z (fun r9 w => r9 = some (.int 0) ∧ w = sI z 126 0 2) := by
  refine sC.intro (own := R_Md) rfl (by decide) (by decide) (by simp [Value.category]) (Nat.le_of_ble_eq_true rfl) (fun K hB hE => ?_)
  show K 0 [some (.ref (ad 126)), some (.int (nI q)), some (.int ke), some (.int va), some (.int pa), none, none, none, none] [] z
  have hst : z.1 126 16 = nI (gSl S).length := hA.2.1.2.1
  have h51 : K 51 [some (.ref (ad 126)), some (.int (nI q)), some (.int ke), some (.int va), some (.int pa), none, none, none, none] [] z := by
    refine hB.iconst d_Md_event_51 (v := 0) rfl ?_
    refine hB.istore d_Md_event_52 (Nat.le_of_ble_eq_true rfl) ?_
    refine hB.aload_n d_Md_event_54 rfl ?_
    refine hB.aload_n d_Md_event_55 rfl ?_
    refine hB.getI (Or.inl fa_Md_108) d_Md_event_56 (by decide) sK_126 rfl ?_
    rw [hst]
    refine hB.if_ne d_Md_event_59 (tgt := 66) rfl (fun q59 => ?_) (fun q59 => absurd q59 (nI_ne0 hns (by omega)))
    refine hB.iload d_Md_event_66 rfl ?_
    refine hB.if_ne d_Md_event_68 (tgt := 75) rfl (fun q68 => absurd rfl q68) (fun q68 => ?_)
    refine hB.iconst d_Md_event_71 (v := 2) rfl ?_
    refine hB.goto d_Md_event_72 (tgt := 76) rfl ?_
    refine hB.putI (Or.inl fa_Md_67) d_Md_event_76 (by decide) sK_126 rfl rfl rfl ?_
    refine hB.aload_n d_Md_event_79 rfl ?_
    refine hB.getI (Or.inl fa_Md_67) d_Md_event_80 (by decide) sK_126 rfl ?_
    rw [sI_eq]
    refine hB.if_le d_Md_event_83 (tgt := 88) rfl (fun q83 => absurd q83 (by decide)) (fun q83 => ?_)
    refine hB.iconst d_Md_event_86 (v := 0) rfl ?_
    exact hE.1 _ _ _ _ _ d_Md_event_87 rfl rfl ⟨rfl, rfl⟩
  refine hB.iload_n d_Md_event_0 rfl ?_
  refine hB.bipush d_Md_event_1 (v := 65) rfl ?_
  refine hB.icmp_lt d_Md_event_3 (tgt := 51) rfl (fun q3 => ?_) (fun q3 => ?_)
  · exact h51
  · refine hB.iload_n d_Md_event_6 rfl ?_
    refine hB.bipush d_Md_event_7 (v := 70) rfl ?_
    refine hB.icmp_gt d_Md_event_9 (tgt := 51) rfl (fun q9 => ?_) (fun q9 => ?_)
    · exact h51
    · refine hB.iload_n d_Md_event_12 rfl ?_
      refine hB.if_lt d_Md_event_13 (tgt := 51) rfl (fun q13 => ?_) (fun q13 => ?_)
      · exact h51
      · refine hB.iload_n d_Md_event_16 rfl ?_
        refine hB.bipush d_Md_event_17 (v := 9) rfl ?_
        refine hB.icmp_gt d_Md_event_19 (tgt := 51) rfl (fun q19 => ?_) (fun q19 => ?_)
        · exact h51
        · refine hB.iload_n d_Md_event_22 rfl ?_
          refine hB.bipush d_Md_event_23 (v := -100) rfl ?_
          refine hB.icmp_lt d_Md_event_25 (tgt := 51) rfl (fun q25 => ?_) (fun q25 => ?_)
          · exact h51
          · refine hB.iload_n d_Md_event_28 rfl ?_
            refine hB.bipush d_Md_event_29 (v := 100) rfl ?_
            refine hB.icmp_gt d_Md_event_31 (tgt := 51) rfl (fun q31 => ?_) (fun q31 => ?_)
            · exact h51
            · refine hB.iload d_Md_event_34 rfl ?_
              refine hB.if_lt d_Md_event_36 (tgt := 51) rfl (fun q36 => ?_) (fun q36 => ?_)
              · exact h51
              · refine hB.iload d_Md_event_39 rfl ?_
                refine hB.sipush d_Md_event_41 (v := 1000) rfl ?_
                refine hB.icmp_gt d_Md_event_44 (tgt := 51) rfl (fun q44 => ?_) (fun q44 => ?_)
                · exact h51
                · exact absurd ⟨by unfold fWi; rw [if_neg q3, if_neg q9], by unfold fWi; rw [if_neg q13, if_neg q19], by unfold fWi; rw [if_neg q25, if_neg q31], by unfold fWi; rw [if_neg q36, if_neg q44]⟩ hbad
