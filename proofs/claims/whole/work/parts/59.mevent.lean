def sM (z : sT) (E : Nat) (kd ke va ti : Int32) : sT := sI (sI (sI (sI (sI (sI (sI (sI (sI (sI z 126 0 0) 126 18 (nI (E + 1))) 126 19 ti) 135 E kd) 136 E ke) 137 E va) 138 E ti) 126 30 0) 126 25 0) 126 26 0
theorem sM_row {z : sT} {E : Nat} {kd ke va ti : Int32} {a : Nat} (h : a ≠ 126) (h2 : a < 135 ∨ 138 < a) : (sM z E kd ke va ti).1 a = z.1 a := by
  unfold sM
  rw [sI_row h, sI_row h, sI_row h, sI_row (by omega), sI_row (by omega), sI_row (by omega), sI_row (by omega), sI_row h, sI_row h, sI_row h]
theorem sM_135 {z : sT} {E e : Nat} {kd ke va ti : Int32} : (sM z E kd ke va ti).1 135 e = if e = E then kd else z.1 135 e := by
  unfold sM
  rw [sI_row (by decide), sI_row (by decide), sI_row (by decide), sI_row (by decide), sI_row (by decide), sI_row (by decide)]
  by_cases h : e = E
  · rw [if_pos h, h, sI_eq]
  · rw [if_neg h, sI_ne h, sI_row (by decide), sI_row (by decide), sI_row (by decide)]
theorem sM_136 {z : sT} {E e : Nat} {kd ke va ti : Int32} : (sM z E kd ke va ti).1 136 e = if e = E then ke else z.1 136 e := by
  unfold sM
  rw [sI_row (by decide), sI_row (by decide), sI_row (by decide), sI_row (by decide), sI_row (by decide)]
  by_cases h : e = E
  · rw [if_pos h, h, sI_eq]
  · rw [if_neg h, sI_ne h, sI_row (by decide), sI_row (by decide), sI_row (by decide), sI_row (by decide)]
theorem sM_137 {z : sT} {E e : Nat} {kd ke va ti : Int32} : (sM z E kd ke va ti).1 137 e = if e = E then va else z.1 137 e := by
  unfold sM
  rw [sI_row (by decide), sI_row (by decide), sI_row (by decide), sI_row (by decide)]
  by_cases h : e = E
  · rw [if_pos h, h, sI_eq]
  · rw [if_neg h, sI_ne h, sI_row (by decide), sI_row (by decide), sI_row (by decide), sI_row (by decide), sI_row (by decide)]
theorem sM_138 {z : sT} {E e : Nat} {kd ke va ti : Int32} : (sM z E kd ke va ti).1 138 e = if e = E then ti else z.1 138 e := by
  unfold sM
  rw [sI_row (by decide), sI_row (by decide), sI_row (by decide)]
  by_cases h : e = E
  · rw [if_pos h, h, sI_eq]
  · rw [if_neg h, sI_ne h, sI_row (by decide), sI_row (by decide), sI_row (by decide), sI_row (by decide), sI_row (by decide), sI_row (by decide)]
theorem sM_126 {z : sT} {E j : Nat} {kd ke va ti : Int32} (h0 : j ≠ 0) (h1 : j ≠ 18) (h2 : j ≠ 19) (h3 : j ≠ 30) (h4 : j ≠ 25) (h5 : j ≠ 26) : (sM z E kd ke va ti).1 126 j = z.1 126 j := by
  unfold sM
  rw [sI_ne h5, sI_ne h4, sI_ne h3, sI_row (by decide), sI_row (by decide), sI_row (by decide), sI_row (by decide), sI_ne h2, sI_ne h1, sI_ne h0]
theorem sM_n {z : sT} {E : Nat} {kd ke va ti : Int32} : (sM z E kd ke va ti).1 126 0 = 0 ∧ (sM z E kd ke va ti).1 126 18 = nI (E + 1) ∧ (sM z E kd ke va ti).1 126 19 = ti ∧ (sM z E kd ke va ti).1 126 30 = 0 ∧ (sM z E kd ke va ti).1 126 25 = 0 ∧ (sM z E kd ke va ti).1 126 26 = 0 := by
  refine ⟨?_, ?_, ?_, ?_, ?_, ?_⟩ <;> simp [sM, sI]
theorem mdR.ev {z : sT} {i E : Nat} {R : rR} {kd ke va ti : Int32} (h : mdR z i R) (hR : rEv R E) (hE : E < 520) : mdR (sM z E kd ke va ti) i R := by
  obtain ⟨h1, h2, h3, h4, h5⟩ := h
  obtain ⟨r1, r2, r3, r4⟩ := hR
  refine ⟨by rw [sM_row (by decide) (by decide)]; exact h1, by rw [sM_row (by decide) (by decide)]; exact h2, fun m hm => by rw [sM_row (by decide) (by decide)]; exact h3 m hm, fun e he hq => ?_, fun e he hq => ?_⟩
  · obtain ⟨e0, a, b⟩ := r3 0 (by omega)
    rw [b] at hq
    have : e0 = e := (nI_eq (by omega) (by omega)).mp hq
    subst this
    rw [sM_136, sM_138, if_neg (by omega), if_neg (by omega)]
    exact h4 e0 he b
  · obtain ⟨e0, a, b⟩ := r3 (R.2.1 - 1) (by omega)
    rw [b] at hq
    have : e0 = e := (nI_eq (by omega) (by omega)).mp hq
    subst this
    rw [sM_137, if_neg (by omega)]
    exact h5 e0 he b
theorem cnA_0 {z : sT} {S : gS} {E : Nat} {kd ke va pa : Int32} (hA : mdA z S E) (hO : gOk S E) (hE : E < 520) (hv : wV va) : cnA (sM z E kd ke va ((gFg S).1 + pa)) (gC S kd ke va pa) E := by
  obtain ⟨-, ⟨p1, p2, p3, p4, p5, p6⟩, -, -, f1, -⟩ := hA
  obtain ⟨-, o2, o3, -⟩ := hO
  refine ⟨⟨hE, by rw [sM_135, if_pos rfl]; rfl, by rw [sM_136, if_pos rfl]; rfl, by rw [sM_137, if_pos rfl]; rfl, by rw [sM_138, if_pos rfl]; rfl, by rw [sM_126 (by decide) (by decide) (by decide) (by decide) (by decide) (by decide)]; exact p5, hv⟩, by rw [sM_126 (by decide) (by decide) (by decide) (by decide) (by decide) (by decide)]; exact p2, fun s x hs => by rw [sM_row (by decide) (by decide)]; exact p3 s x hs, fun j hj => ⟨?_, (o3.1 j hj).2.2.2.2⟩, o2, by rw [sM_126 (by decide) (by decide) (by decide) (by decide) (by decide) (by decide)]; exact p6, sM_n.2.2.1, f1⟩
  unfold mdE
  rw [sM_row (by decide) (by decide), sM_row (by decide) (by decide), sM_row (by decide) (by decide), sM_row (by decide) (by decide), sM_row (by decide) (by decide), sM_row (by decide) (by decide)]
  exact p4 j hj
theorem arA_0 {z : sT} {S : gS} {E : Nat} {kd ke va ti : Int32} (hA : mdA z S E) (hO : gOk S E) (hE : E < 520) : arA (sM z E kd ke va ti) (gRs S) (gFg S).2.2.1 ([], [], [], (gFg S).2.2.2.1, (gFg S).2.2.2.2.1, (gFg S).2.2.2.2.2) (sM z E kd ke va ti) := by
  obtain ⟨-, -, ⟨r1, r2⟩, -, f1, f2, f3, f4, f5, f6, f7⟩ := hA
  obtain ⟨-, -, -, -, -, ⟨o1, o2⟩, -⟩ := hO
  refine ⟨frA.refl _, fun i R hi => (r2 i R hi).ev (o2 R (List.mem_of_getElem? hi)).2 hE, ⟨sM_n.2.2.2.2.1, fun i R hi => by simp at hi⟩, ⟨sM_n.2.2.2.2.2, fun i R hi => by simp at hi⟩, ⟨sM_n.2.2.2.1, fun i R hi => by simp at hi⟩, ?_, ?_, ?_, ?_⟩
  · rw [sM_126 (by decide) (by decide) (by decide) (by decide) (by decide) (by decide), f4]
    exact (Int32.add_zero _).symm
  · rw [sM_126 (by decide) (by decide) (by decide) (by decide) (by decide) (by decide)]; exact f5
  · rw [sM_126 (by decide) (by decide) (by decide) (by decide) (by decide) (by decide)]; exact f6
  · rw [sM_126 (by decide) (by decide) (by decide) (by decide) (by decide) (by decide)]; exact f7
theorem okA_look {C : eC} {n : Nat} (h8 : xK C ≤ 8) (hn : xNu C = nI n) (hv : wV (xVa C)) : ∀ (rem : List rR) (S : aA), okA C n S → (∀ Q ∈ rem, rOk C Q ∧ rEv Q n) → okA C n (aLook C S rem)
  | [], S, hS, _ => hS
  | R :: rem, S, hS, h => okA_look h8 hn hv rem _ (okA_one h8 hS (h R (List.mem_cons_self ..)).1 (h R (List.mem_cons_self ..)).2 hn hv) (fun Q hQ => h Q (List.mem_cons_of_mem _ hQ))
theorem smA_look {C : eC} : ∀ (rem : List rR) (S : aA), smA S rem.length → smA (aLook C S rem) 0
  | [], S, hS => hS
  | R :: rem, S, hS => smA_look rem _ (smA_one hS)
theorem rOk_nw {C : eC} (h : 1 < (xSl C).length) : rOk C (aNew C) := ⟨h, by show 1 ≤ 12 + 0; decide⟩
theorem bgL_in {C : eC} {r : Bool} {Q : rR} (h : Q ∈ bgL C r) : Q = aNew C ∧ ¬ (xSl C).length = 1 ∧ r = true := by
  unfold bgL at h
  split at h
  · rename_i hc
    simp only [Bool.and_eq_true, Bool.not_eq_true', decide_eq_false_iff_not] at hc
    exact ⟨List.mem_singleton.mp h, hc.2.1, hc.2.2⟩
  · cases h
theorem bgM_in {C : eC} {Q : rR} (h : Q ∈ bgM C) : Q = aNew C ∧ (xSl C).length = 1 := by
  unfold bgM at h
  split at h
  · rename_i hc
    simp only [Bool.and_eq_true, decide_eq_true_eq] at hc
    exact ⟨List.mem_singleton.mp h, hc.2⟩
  · cases h
theorem bgL_len {C : eC} {r : Bool} : (bgL C r).length ≤ 1 ∧ (r = false → (bgL C r).length = 0) := by
  unfold bgL
  split
  · rename_i hc
    simp only [Bool.and_eq_true] at hc
    refine ⟨Nat.le_refl _, fun q => ?_⟩
    rw [q] at hc
    exact absurd hc.2.2 (by decide)
  · exact ⟨Nat.zero_le _, fun _ => rfl⟩
theorem bgM_len {C : eC} : (bgM C).length ≤ 1 ∧ (¬ (xSl C).length = 1 → (bgM C).length = 0) := by
  unfold bgM
  split
  · rename_i hc
    simp only [Bool.and_eq_true, decide_eq_true_eq] at hc
    exact ⟨Nat.le_refl _, fun q => absurd hc.2 q⟩
  · exact ⟨Nat.zero_le _, fun _ => rfl⟩
theorem okA_bg {C : eC} {n : Nat} {S : aA} {r : Bool} {t : Int32 × Int32 × Int32} (h : okA C n S) (hn : xNu C = nI n) (hv : wV (xVa C)) (hpos : 0 < (xSl C).length) : okA C n (S.1, S.2.1 ++ bgL C r, S.2.2.1 ++ bgM C, t) := by
  refine ⟨h.1, fun Q hQ => ?_, fun Q hQ => ?_⟩
  · rcases List.mem_append.mp hQ with q | q
    · exact h.2.1 Q q
    · obtain ⟨q1, q2, -⟩ := bgL_in q
      rw [q1]
      exact ⟨rOk_nw (by omega), rEv_nw hn hv⟩
  · rcases List.mem_append.mp hQ with q | q
    · exact h.2.2 Q q
    · rw [(bgM_in q).1]
      exact rEv_nw hn hv
theorem arA.nil {z0 z : sT} {rs : List rR} {mc : Int32} {S : aA} (h : arA z0 rs mc S z) : arA z0 [] mc S z := ⟨h.1, fun i R hi => by simp at hi, h.2.2⟩
theorem arA.row {z0 z w : sT} {l : List rR} {mc : Int32} {S : aA} {Q : rR} {a : Nat} (h : arA z0 l mc S z) (ha : a = l.length) (h24 : l.length < 25) (hb : b19 l ∧ b19 S.1 ∧ b19 S.2.1) (hf : frR z w a) (hQ : mdR w a Q) : arA z0 (l ++ [Q]) mc S w := by
  subst ha
  obtain ⟨h1, h2, ⟨h3, h4⟩, ⟨h5, h6⟩, ⟨h7, h8⟩, h9, h10, h11, h12⟩ := h
  have e126 : w.1 126 = z.1 126 := hf.2.1 126 (by decide) (by decide) (by decide)
  refine ⟨h1.trans hf.frA, fun i R hi => ?_, ⟨by rw [e126]; exact h3, fun i R hi => ?_⟩, ⟨by rw [e126]; exact h5, fun i R hi => ?_⟩, ⟨by rw [e126]; exact h7, fun i R hi => ?_⟩, by rw [e126]; exact h9, by rw [e126]; exact h10, by rw [e126]; exact h11, by rw [e126]; exact h12⟩
  · rcases at_add hi with ⟨hl, q⟩ | ⟨q, q2⟩
    · have h19 := hb.1.at q
      exact (h2 i R q).fr hf (by omega) (by omega)
    · subst q; subst q2
      exact hQ
  · have h19 := hb.2.1.at hi
    exact (h4 i R hi).fr hf (by omega) (by omega)
  · have h19 := hb.2.2.at hi
    exact (h6 i R hi).fr hf (by omega) (by omega)
  · exact (h8 i R hi).row (hf.2.1 142 (by decide) (by decide) (by decide)) (hf.2.1 143 (by decide) (by decide) (by decide))
theorem gOk.ev {S : gS} {E : Nat} {kd ke va pa : Int32} (hO : gOk S E) (hnu : (gFg S).2.1 = nI E) (hv : wV va) (hpos : 0 < (gSl S).length) : gOk (gEv S (gC S kd ke va pa)) (E + 1) ∧ okA (gC S kd ke va pa) E (gA S (gC S kd ke va pa)) ∧ smA (gA S (gC S kd ke va pa)) 0 := by
  obtain ⟨o1, o2, o3, o4, o5, ⟨o6, o7⟩, o8, o9⟩ := hO
  generalize hC : gC S kd ke va pa = C
  have eK : xK C ≤ 8 := by rw [← hC]; exact o2
  have eN : xNu C = nI E := by rw [← hC]; exact hnu
  have eV : wV (xVa C) := by rw [← hC]; exact hv
  have eL : xSl C = gSl S := by rw [← hC]; rfl
  have hok : ∀ Q ∈ gRs S, rOk C Q ∧ rEv Q E := fun Q hQ => by
    obtain ⟨a, b⟩ := o7 Q hQ
    refine ⟨?_, b⟩
    unfold rOk
    rw [eL]
    exact a
  have hk : okA C E (gA S C) := okA_look eK eN eV _ _ ⟨fun Q hQ => (by cases hQ), fun Q hQ => (by cases hQ), fun Q hQ => (by cases hQ)⟩ hok
  have hs : smA (gA S C) 0 := smA_look _ _ ⟨by show 0 + ((gRs S).length + 0) ≤ 24; omega, by show 0 + (gRs S).length ≤ 24; omega⟩
  have hk2 := okA_bg (r := rm24 (gL S C)) (t := (gA S C).2.2.2) hk eN eV (by rw [eL]; exact hpos)
  refine ⟨⟨o1, o2, o3, o4, fun q => ?_, ⟨?_, fun Q hQ => ?_⟩, ?_, fun Q hQ => ?_⟩, hk, hs⟩
  · have q2 : (gPt S).1 = 0 := q
    unfold gSl at hpos
    rw [q2] at hpos
    exact absurd hpos (by show ¬ 0 < 0; omega)
  · show (gL S C ++ bgL C (rm24 (gL S C))).length ≤ 24
    rw [List.length_append]
    have h1 : (gL S C).length ≤ 24 := by
      unfold gL
      rw [List.length_append]
      have := hs.1
      omega
    by_cases hr : (gL S C).length < 24
    · have := (bgL_len (C := C) (r := rm24 (gL S C))).1
      omega
    · have := (bgL_len (C := C) (r := rm24 (gL S C))).2 (decide_eq_false hr)
      omega
  · have hQ2 : Q ∈ gL S C ++ bgL C (rm24 (gL S C)) := hQ
    have hQ3 : rOk C Q ∧ rEv Q (E + 1) := by
      unfold gL at hQ2
      rcases List.mem_append.mp hQ2 with q | q
      · rcases List.mem_append.mp q with q | q
        · exact hk.1 Q q
        · exact hk.2.1 Q q
      · exact hk2.2.1 Q (List.mem_append_right _ q)
    obtain ⟨a, b⟩ := hQ3
    unfold rOk at a
    rw [eL] at a
    exact ⟨a, b⟩
  · show ((gA S C).2.2.1 ++ bgM C).length ≤ 24
    rw [List.length_append]
    by_cases h1 : (xSl C).length = 1
    · rw [gA_ms (fun Q hQ => (hok Q hQ).1) h1]
      have := (bgM_len (C := C)).1
      show 0 + _ ≤ 24
      omega
    · have := (bgM_len (C := C)).2 h1
      have h3 := hs.2
      omega
  · have hQ2 : Q ∈ (gA S C).2.2.1 ++ bgM C := hQ
    exact hk2.2.2 Q hQ2
theorem mdA.ev {z v : sT} {S : gS} {E : Nat} {kd ke va pa : Int32} (hA : mdA z S E) (hv : arA (sM z E kd ke va ((gFg S).1 + pa)) ((gA S (gC S kd ke va pa)).1 ++ ((gA S (gC S kd ke va pa)).2.1 ++ bgL (gC S kd ke va pa) (decide ((gA S (gC S kd ke va pa)).1.length + (gA S (gC S kd ke va pa)).2.1.length < 24)))) (gFg S).2.2.1 ((gA S (gC S kd ke va pa)).1, (gA S (gC S kd ke va pa)).2.1 ++ bgL (gC S kd ke va pa) (decide ((gA S (gC S kd ke va pa)).1.length + (gA S (gC S kd ke va pa)).2.1.length < 24)), (gA S (gC S kd ke va pa)).2.2.1 ++ bgM (gC S kd ke va pa), (gA S (gC S kd ke va pa)).2.2.2.1 + bgD (gC S kd ke va pa) (decide ((gA S (gC S kd ke va pa)).1.length + (gA S (gC S kd ke va pa)).2.1.length < 24)), (gA S (gC S kd ke va pa)).2.2.2.2.1, (gA S (gC S kd ke va pa)).2.2.2.2.2) v) :
    (sI v 126 24 (nI ((gA S (gC S kd ke va pa)).1.length + ((gA S (gC S kd ke va pa)).2.1 ++ bgL (gC S kd ke va pa) (decide ((gA S (gC S kd ke va pa)).1.length + (gA S (gC S kd ke va pa)).2.1.length < 24))).length))).1 126 0 = 0 ∧ mdA (sI v 126 24 (nI ((gA S (gC S kd ke va pa)).1.length + ((gA S (gC S kd ke va pa)).2.1 ++ bgL (gC S kd ke va pa) (decide ((gA S (gC S kd ke va pa)).1.length + (gA S (gC S kd ke va pa)).2.1.length < 24))).length))) (gEv S (gC S kd ke va pa)) (E + 1) ∧ frL z (sI v 126 24 (nI ((gA S (gC S kd ke va pa)).1.length + ((gA S (gC S kd ke va pa)).2.1 ++ bgL (gC S kd ke va pa) (decide ((gA S (gC S kd ke va pa)).1.length + (gA S (gC S kd ke va pa)).2.1.length < 24))).length))) := by
  have hti : xTi (gC S kd ke va pa) = (gFg S).1 + pa := rfl
  have hpt : (gPt (gEv S (gC S kd ke va pa))) = gPt S := rfl
  have hrm : rm24 (gL S (gC S kd ke va pa)) = decide ((gA S (gC S kd ke va pa)).1.length + (gA S (gC S kd ke va pa)).2.1.length < 24) := by
    unfold rm24 gL
    rw [List.length_append]
  have hgl : gRs (gEv S (gC S kd ke va pa)) = (gA S (gC S kd ke va pa)).1 ++ ((gA S (gC S kd ke va pa)).2.1 ++ bgL (gC S kd ke va pa) (decide ((gA S (gC S kd ke va pa)).1.length + (gA S (gC S kd ke va pa)).2.1.length < 24))) := by
    show gL S (gC S kd ke va pa) ++ bgL (gC S kd ke va pa) (rm24 (gL S (gC S kd ke va pa))) = _
    rw [hrm]
    unfold gL
    rw [List.append_assoc]
  obtain ⟨⟨t1, t2, t3⟩, ⟨p1, p2, p3, p4, p5, p6⟩, ⟨r1, r2⟩, ⟨m1, m2⟩, f1, f2, f3, f4, f5, f6, f7⟩ := hA
  obtain ⟨h1, h2, -, -, ⟨h7, h8⟩, h9, h10, h11, h12⟩ := hv
  have hlen : (gA S (gC S kd ke va pa)).1.length + ((gA S (gC S kd ke va pa)).2.1 ++ bgL (gC S kd ke va pa) (decide ((gA S (gC S kd ke va pa)).1.length + (gA S (gC S kd ke va pa)).2.1.length < 24))).length = (gRs (gEv S (gC S kd ke va pa))).length := by
    rw [hgl, List.length_append (as := (gA S (gC S kd ke va pa)).1)]
  rw [hlen]
  rw [← hgl] at h2
  generalize hN : nI (gRs (gEv S (gC S kd ke va pa))).length = N
  have row : ∀ c, c ≠ 126 → (c < 135 ∨ 143 < c) → (sI v 126 24 N).1 c = z.1 c := fun c c1 c2 => by
    rw [sI_row c1, h1.2.1 c c1 (by omega), sM_row c1 (by omega)]
  have fld : ∀ j, j < 25 → j ≠ 24 → j ≠ 0 → j ≠ 18 → j ≠ 19 → (sI v 126 24 N).1 126 j = z.1 126 j := fun j a1 a2 a3 a4 a5 => by
    rw [sI_ne a2, h1.2.2 j a1, sM_126 a3 a4 a5 (by omega) (by omega) (by omega)]
  refine ⟨by rw [sI_ne (by decide), h1.2.2 0 (by decide)]; exact sM_n.1, ⟨⟨by rw [fld _ (by decide) (by decide) (by decide) (by decide) (by decide)]; exact t1, fun i hi => by rw [row _ (by decide) (by decide)]; exact t2 i hi, by rw [fld _ (by decide) (by decide) (by decide) (by decide) (by decide)]; exact t3⟩, ⟨by rw [fld _ (by decide) (by decide) (by decide) (by decide) (by decide)]; exact p1, by rw [fld _ (by decide) (by decide) (by decide) (by decide) (by decide)]; exact p2, fun s x hs => by rw [row _ (by decide) (by decide)]; exact p3 s x hs, fun j hj => ?_, by rw [fld _ (by decide) (by decide) (by decide) (by decide) (by decide)]; exact p5, by rw [fld _ (by decide) (by decide) (by decide) (by decide) (by decide)]; exact p6⟩, ⟨?_, fun i R hi => (h2 i R hi).row (fun c c1 _ => sI_row (by omega))⟩, ⟨?_, fun i R hi => (h8 i R hi).row (sI_row (by decide)) (sI_row (by decide))⟩, ?_, ?_, ?_, ?_, ?_, ?_, ?_⟩, ?_, fun a ha => row a (by omega) (by omega)⟩
  · unfold mdE
    rw [row _ (by decide) (by decide), row _ (by decide) (by decide), row _ (by decide) (by decide), row _ (by decide) (by decide), row _ (by decide) (by decide), row _ (by decide) (by decide)]
    exact p4 j hj
  · rw [sI_eq]
    exact hN.symm
  · rw [sI_ne (by decide)]; exact h7
  · show (gFg S).2.1 + 1 = _
    rw [f1, ← nI_succ]
  · rw [sI_ne (by decide), h1.2.2 18 (by decide)]; exact sM_n.2.1
  · rw [sI_ne (by decide), h1.2.2 19 (by decide)]; exact sM_n.2.2.1
  · rw [sI_ne (by decide)]; exact h9
  · rw [sI_ne (by decide), h10]
    show _ = (gA S (gC S kd ke va pa)).2.2.2.1 + bgD (gC S kd ke va pa) (rm24 (gL S (gC S kd ke va pa)))
    rw [hrm]
  · rw [sI_ne (by decide)]; exact h11
  · rw [sI_ne (by decide)]; exact h12
  · exact h1.1
