def frA (z w : sT) : Prop := w.2 = z.2 ∧ (∀ c, c ≠ 126 → (c < 139 ∨ 143 < c) → w.1 c = z.1 c) ∧ (∀ j, j < 25 → w.1 126 j = z.1 126 j)
theorem frA.refl (z : sT) : frA z z := ⟨rfl, fun _ _ _ => rfl, fun _ _ => rfl⟩
theorem frA.trans {z w v : sT} (h : frA z w) (h2 : frA w v) : frA z v := ⟨h2.1.trans h.1, fun c c1 c2 => (h2.2.1 c c1 c2).trans (h.2.1 c c1 c2), fun j hj => (h2.2.2 j hj).trans (h.2.2 j hj)⟩
theorem frA.set {z : sT} {j : Nat} {v : Int32} (hj : 25 ≤ j) : frA z (sI z 126 j v) := ⟨rfl, fun c c1 _ => sI_row c1, fun i hi => sI_ne (by omega)⟩
theorem frR.frA {z w : sT} {b : Nat} (h : frR z w b) : frA z w := ⟨h.1, fun c _ c2 => h.2.1 c (by omega) (by omega) (by omega), fun j _ => by rw [h.2.1 126 (by decide) (by decide) (by decide)]⟩
theorem frD.frA {z w : sT} {m : Nat} (h : frD z w m) : frA z w := ⟨h.1, fun c c1 c2 => h.2.1 c c1 (by omega) (by omega), fun j hj => h.2.2.1 j (by omega) (by omega)⟩
theorem mdR.row {z w : sT} {i : Nat} {R : rR} (h : mdR z i R) (hf : ∀ c, 136 ≤ c → c ≤ 141 → w.1 c = z.1 c) : mdR w i R := by
  unfold mdR
  rw [hf 139 (by decide) (by decide), hf 140 (by decide) (by decide), hf 141 (by decide) (by decide), hf 136 (by decide) (by decide), hf 137 (by decide) (by decide), hf 138 (by decide) (by decide)]
  exact h
theorem mdM.row {z w : sT} {i : Nat} {R : rR} (h : mdM z i R) (h1 : w.1 142 = z.1 142) (h2 : w.1 143 = z.1 143) : mdM w i R := by
  unfold mdM
  rw [h1, h2]
  exact h
def cnA (z : sT) (C : eC) (n : Nat) : Prop := evM z C n ∧ z.1 126 16 = nI (xSl C).length ∧ (∀ s x, (xSl C)[s]? = some x → z.1 134 s = nI x) ∧ (∀ j, j < xK C → mdE z j (xEl C j) ∧ wN (xEl C j).2.2.2.2.2) ∧ xK C ≤ 8 ∧ z.1 126 14 = xWn C ∧ z.1 126 19 = xTi C ∧ xNu C = nI n
theorem cnA.fr {z w : sT} {C : eC} {n : Nat} (h : cnA z C n) (hf : frA z w) : cnA w C n := by
  obtain ⟨⟨e1, e2, e3, e4, e5, e6, e7⟩, h2, h3, h4, h5, h6, h7, h8⟩ := h
  have r : ∀ c, 127 ≤ c → c < 139 → w.1 c = z.1 c := fun c c1 c2 => hf.2.1 c (by omega) (Or.inl c2)
  refine ⟨⟨e1, by rw [r 135 (by decide) (by decide)]; exact e2, by rw [r 136 (by decide) (by decide)]; exact e3, by rw [r 137 (by decide) (by decide)]; exact e4, by rw [r 138 (by decide) (by decide)]; exact e5, by rw [hf.2.2 12 (by decide)]; exact e6, e7⟩, by rw [hf.2.2 16 (by decide)]; exact h2, fun s x hs => by rw [r 134 (by decide) (by decide)]; exact h3 s x hs, fun j hj => ⟨?_, (h4 j hj).2⟩, h5, by rw [hf.2.2 14 (by decide)]; exact h6, by rw [hf.2.2 19 (by decide)]; exact h7, h8⟩
  unfold mdE
  rw [r 128 (by decide) (by decide), r 129 (by decide) (by decide), r 130 (by decide) (by decide), r 131 (by decide) (by decide), r 132 (by decide) (by decide), r 133 (by decide) (by decide)]
  exact (h4 j hj).1
def b19 (l : List rR) : Prop := ∀ Q ∈ l, Q.2.1 ≤ 19
theorem b19.add {l : List rR} {Q : rR} (h : b19 l) (hQ : Q.2.1 ≤ 19) : b19 (l ++ [Q]) := by
  intro P hP
  rcases List.mem_append.mp hP with q | q
  · exact h P q
  · rw [List.mem_singleton.mp q]; exact hQ
theorem b19.at {l : List rR} {i : Nat} {Q : rR} (h : b19 l) (hQ : l[i]? = some Q) : Q.2.1 ≤ 19 := h Q (List.mem_of_getElem? hQ)
theorem at_add {l : List rR} {i : Nat} {Q P : rR} (h : (l ++ [Q])[i]? = some P) : (i < l.length ∧ l[i]? = some P) ∨ (i = l.length ∧ P = Q) := by
  by_cases hl : i < l.length
  · rw [List.getElem?_append_left hl] at h
    exact Or.inl ⟨hl, h⟩
  · rw [List.getElem?_append_right (by omega)] at h
    have hz : i - l.length < 1 := (List.getElem?_eq_some_iff.mp h).1
    rw [show i - l.length = 0 by omega] at h
    cases h
    exact Or.inr ⟨by omega, rfl⟩
def arA (z0 : sT) (rs : List rR) (mc : Int32) (S : aA) (z : sT) : Prop := frA z0 z ∧ (∀ i R, rs[i]? = some R → mdR z i R) ∧ (z.1 126 25 = nI S.1.length ∧ ∀ i R, S.1[i]? = some R → mdR z (25 + i) R) ∧ (z.1 126 26 = nI S.2.1.length ∧ ∀ i R, S.2.1[i]? = some R → mdR z (50 + i) R) ∧ (z.1 126 30 = nI S.2.2.1.length ∧ ∀ i R, S.2.2.1[i]? = some R → mdM z i R) ∧ z.1 126 33 = mc + nI S.2.2.1.length ∧ z.1 126 34 = S.2.2.2.1 ∧ z.1 126 35 = S.2.2.2.2.1 ∧ z.1 126 36 = S.2.2.2.2.2
def bdA (rs : List rR) (S : aA) : Prop := rs.length ≤ 24 ∧ b19 rs ∧ b19 S.1 ∧ b19 S.2.1 ∧ b19 S.2.2.1
theorem ix_lt {l : List rR} {i : Nat} {Q : rR} (h : l[i]? = some Q) : i < l.length := (List.getElem?_eq_some_iff.mp h).1
theorem arA.keep {z0 z w v : sT} {rs : List rR} {mc : Int32} {k p m : List rR} {t : Int32 × Int32 × Int32} {Q : rR} (h : arA z0 rs mc (k, p, m, t) z) (hb : bdA rs (k, p, m, t)) (hk : k.length ≤ 24) (hf : frR z w (25 + k.length)) (hQ : mdR w (25 + k.length) Q) (hv : v = sI w 126 25 (nI (k.length + 1))) : arA z0 rs mc (k ++ [Q], p, m, t) v := by
  subst hv
  obtain ⟨h1, h2, ⟨h3, h4⟩, ⟨h5, h6⟩, ⟨h7, h8⟩, h9, h10, h11, h12⟩ := h
  obtain ⟨b1, b2, b3, b4, b5⟩ := hb
  have e126 : ∀ j, j ≠ 25 → (sI w 126 25 (nI (k.length + 1))).1 126 j = z.1 126 j := fun j hj => by rw [sI_ne hj, hf.2.1 126 (by decide) (by decide) (by decide)]
  have er : ∀ c, c ≠ 126 → (sI w 126 25 (nI (k.length + 1))).1 c = w.1 c := fun c hc => sI_row hc
  refine ⟨(h1.trans hf.frA).trans (frA.set (by decide)), fun i R hi => ?_, ⟨by rw [sI_eq]; simp, fun i R hi => ?_⟩, ⟨by rw [e126 _ (by decide)]; exact h5, fun i R hi => ?_⟩, ⟨by rw [e126 _ (by decide)]; exact h7, fun i R hi => ?_⟩, by rw [e126 _ (by decide)]; exact h9, by rw [e126 _ (by decide)]; exact h10, by rw [e126 _ (by decide)]; exact h11, by rw [e126 _ (by decide)]; exact h12⟩
  · have hl := ix_lt hi
    have h19 := b2.at hi
    exact ((h2 i R hi).fr hf (by omega) (by omega)).row (fun c c1 _ => er c (by omega))
  · rcases at_add hi with ⟨hl, q⟩ | ⟨q, q2⟩
    · have h19 := b3.at q
      exact ((h4 i R q).fr hf (by omega) (by omega)).row (fun c c1 _ => er c (by omega))
    · subst q; subst q2
      exact hQ.row (fun c c1 _ => er c (by omega))
  · have h19 := b4.at hi
    exact ((h6 i R hi).fr hf (by omega) (by omega)).row (fun c c1 _ => er c (by omega))
  · exact (h8 i R hi).row (by rw [er _ (by decide), hf.2.1 142 (by decide) (by decide) (by decide)]) (by rw [er _ (by decide), hf.2.1 143 (by decide) (by decide) (by decide)])
theorem arA.behind {z0 z w v : sT} {rs : List rR} {mc : Int32} {k p m : List rR} {t : Int32 × Int32 × Int32} {Q : rR} (h : arA z0 rs mc (k, p, m, t) z) (hb : bdA rs (k, p, m, t)) (hk : k.length ≤ 24) (hf : frR z w (50 + p.length)) (hQ : mdR w (50 + p.length) Q) (hv : v = sI w 126 26 (nI (p.length + 1))) : arA z0 rs mc (k, p ++ [Q], m, t) v := by
  subst hv
  obtain ⟨h1, h2, ⟨h3, h4⟩, ⟨h5, h6⟩, ⟨h7, h8⟩, h9, h10, h11, h12⟩ := h
  obtain ⟨b1, b2, b3, b4, b5⟩ := hb
  have e126 : ∀ j, j ≠ 26 → (sI w 126 26 (nI (p.length + 1))).1 126 j = z.1 126 j := fun j hj => by rw [sI_ne hj, hf.2.1 126 (by decide) (by decide) (by decide)]
  have er : ∀ c, c ≠ 126 → (sI w 126 26 (nI (p.length + 1))).1 c = w.1 c := fun c hc => sI_row hc
  refine ⟨(h1.trans hf.frA).trans (frA.set (by decide)), fun i R hi => ?_, ⟨by rw [e126 _ (by decide)]; exact h3, fun i R hi => ?_⟩, ⟨by rw [sI_eq]; simp, fun i R hi => ?_⟩, ⟨by rw [e126 _ (by decide)]; exact h7, fun i R hi => ?_⟩, by rw [e126 _ (by decide)]; exact h9, by rw [e126 _ (by decide)]; exact h10, by rw [e126 _ (by decide)]; exact h11, by rw [e126 _ (by decide)]; exact h12⟩
  · have hl := ix_lt hi
    have h19 := b2.at hi
    exact ((h2 i R hi).fr hf (by omega) (by omega)).row (fun c c1 _ => er c (by omega))
  · have h19 := b3.at hi
    have hl := ix_lt hi
    have hl2 : i < k.length := hl
    exact ((h4 i R hi).fr hf (by omega) (by omega)).row (fun c c1 _ => er c (by omega))
  · rcases at_add hi with ⟨hl, q⟩ | ⟨q, q2⟩
    · have h19 := b4.at q
      exact ((h6 i R q).fr hf (by omega) (by omega)).row (fun c c1 _ => er c (by omega))
    · subst q; subst q2
      exact hQ.row (fun c c1 _ => er c (by omega))
  · exact (h8 i R hi).row (by rw [er _ (by decide), hf.2.1 142 (by decide) (by decide) (by decide)]) (by rw [er _ (by decide), hf.2.1 143 (by decide) (by decide) (by decide)])
theorem arA.match {z0 z w : sT} {rs : List rR} {mc : Int32} {k p m : List rR} {t : Int32 × Int32 × Int32} {Q : rR} (h : arA z0 rs mc (k, p, m, t) z) (hb : bdA rs (k, p, m, t)) (hf : frD z w m.length) (hQ : mdM w m.length Q) : arA z0 rs mc (k, p, m ++ [Q], t) w := by
  obtain ⟨h1, h2, ⟨h3, h4⟩, ⟨h5, h6⟩, ⟨h7, h8⟩, h9, h10, h11, h12⟩ := h
  obtain ⟨b1, b2, b3, b4, b5⟩ := hb
  have e126 : ∀ j, j ≠ 30 → j ≠ 33 → w.1 126 j = z.1 126 j := hf.2.2.1
  have er : ∀ c, 136 ≤ c → c ≤ 141 → w.1 c = z.1 c := fun c c1 c2 => hf.2.1 c (by omega) (by omega) (by omega)
  refine ⟨h1.trans hf.frA, fun i R hi => (h2 i R hi).row er, ⟨by rw [e126 _ (by decide) (by decide)]; exact h3, fun i R hi => (h4 i R hi).row er⟩, ⟨by rw [e126 _ (by decide) (by decide)]; exact h5, fun i R hi => (h6 i R hi).row er⟩, ⟨by rw [hf.2.2.2.1]; simp, fun i R hi => ?_⟩, ?_, by rw [e126 _ (by decide) (by decide)]; exact h10, by rw [e126 _ (by decide) (by decide)]; exact h11, by rw [e126 _ (by decide) (by decide)]; exact h12⟩
  · rcases at_add hi with ⟨hl, q⟩ | ⟨q, q2⟩
    · have h19 := b5.at q
      exact (h8 i R q).fr hf (by omega) (by omega)
    · subst q; subst q2
      exact hQ
  · rw [hf.2.2.2.2.1, h9]
    show mc + nI m.length + 1 = mc + nI (m ++ [Q]).length
    rw [List.length_append, List.length_singleton, nI_succ, Int32.add_assoc]
theorem arA.num {z0 z : sT} {rs : List rR} {mc : Int32} {k p m : List rR} {a b c a2 b2 c2 : Int32} (h : arA z0 rs mc (k, p, m, a, b, c) z) {v : sT} (hv : ∀ q, q ≠ 126 → v.1 q = z.1 q) (hv2 : v.2 = z.2) (h126 : ∀ j, j < 34 → v.1 126 j = z.1 126 j) (e1 : v.1 126 34 = a2) (e2 : v.1 126 35 = b2) (e3 : v.1 126 36 = c2) : arA z0 rs mc (k, p, m, a2, b2, c2) v := by
  obtain ⟨h1, h2, ⟨h3, h4⟩, ⟨h5, h6⟩, ⟨h7, h8⟩, h9, h10, h11, h12⟩ := h
  have er : ∀ c, 136 ≤ c → c ≤ 141 → v.1 c = z.1 c := fun c c1 c2 => hv c (by omega)
  exact ⟨h1.trans ⟨hv2, fun c c1 _ => hv c c1, fun j hj => h126 j (by omega)⟩, fun i R hi => (h2 i R hi).row er, ⟨(h126 25 (by decide)).trans h3, fun i R hi => (h4 i R hi).row er⟩, ⟨(h126 26 (by decide)).trans h5, fun i R hi => (h6 i R hi).row er⟩, ⟨(h126 30 (by decide)).trans h7, fun i R hi => (h8 i R hi).row (hv 142 (by decide)) (hv 143 (by decide))⟩, (h126 33 (by decide)).trans h9, e1, e2, e3⟩
theorem len8 {C : eC} (h : xK C ≤ 8) : (xSl C).length ≤ 8 := by
  have h1 : (xSl C).length ≤ (List.range (xK C)).length := List.length_filter_le _ _
  rw [List.length_range] at h1
  omega
theorem rOk_18 {C : eC} {R : rR} (h8 : xK C ≤ 8) (h : rOk C R) : R.2.1 ≤ 18 ∧ R.1 + 1 < 8 := by
  have h1 := h.1
  have h2 := h.2
  have h3 := len8 h8
  omega
theorem rEv.up {R : rR} {a b : Nat} (h : rEv R a) (hab : a ≤ b) : rEv R b := by
  obtain ⟨h1, h2, h3, h4⟩ := h
  refine ⟨h1, h2, fun m hm => ?_, h4⟩
  obtain ⟨e, he, q⟩ := h3 m hm
  exact ⟨e, by omega, q⟩
theorem rEv_tk {C : eC} {R : rR} {n s : Nat} (h8 : xK C ≤ 8) (hok : rOk C R) (h : rEv R n) (hn : xNu C = nI n) (hv : wV (xVa C)) : rEv (aTk C R s) (n + 1) := by
  have h18 := rOk_18 h8 hok
  obtain ⟨h1, h2, h3, h4⟩ := h
  refine ⟨by show 1 ≤ R.2.1 + 1; omega, by show R.2.1 + 1 ≤ 19; omega, fun m hm => ?_, hv.1, hv.2⟩
  have hm2 : m < R.2.1 + 1 := hm
  show ∃ e, e < n + 1 ∧ upd R.2.2.1 R.2.1 (xNu C) m = nI e
  unfold upd
  by_cases q : m = R.2.1
  · rw [if_pos q]
    exact ⟨n, by omega, hn⟩
  · rw [if_neg q]
    obtain ⟨e, he, q⟩ := h3 m (by omega)
    exact ⟨e, by omega, q⟩
theorem rEv_nw {C : eC} {n : Nat} (hn : xNu C = nI n) (hv : wV (xVa C)) : rEv (aNew C) (n + 1) := ⟨Nat.le_refl 1, by show 1 ≤ 19; decide, fun m _ => ⟨n, by omega, hn⟩, hv.1, hv.2⟩
def okA (C : eC) (n : Nat) (S : aA) : Prop := (∀ Q ∈ S.1, rOk C Q ∧ rEv Q (n + 1)) ∧ (∀ Q ∈ S.2.1, rOk C Q ∧ rEv Q (n + 1)) ∧ (∀ Q ∈ S.2.2.1, rEv Q (n + 1))
theorem aKp_ev {C : eC} {R : rR} {n : Nat} (h8 : xK C ≤ 8) (hok : rOk C R) (h : rEv R n) (hn : xNu C = nI n) (hv : wV (xVa C)) : ∀ Q ∈ (aKp C R).toList, rEv Q (n + 1) := by
  intro Q hQ
  have ht : ∀ s, rEv (aTk C R s) (n + 1) := fun s => rEv_tk h8 hok h hn hv
  unfold aKp at hQ
  cases hl : aLt C R <;> rw [hl] at hQ
  · cases hb : aBr C R <;> rw [hb] at hQ
    · cases hs : aSt C R <;> rw [hs] at hQ
      · cases hg : aGo C R <;> rw [hg] at hQ
        · simp at hQ; rw [hQ]; exact h.up (by omega)
        · cases hc : aCm C R <;> rw [hc] at hQ
          · simp at hQ
            rw [hQ]
            exact ht _
          · simp at hQ
      · simp at hQ
        rw [hQ]
        exact ht _
    · simp at hQ
  · simp at hQ
theorem aPt_ev {C : eC} {R : rR} {n : Nat} {b : Bool} (h8 : xK C ≤ 8) (hok : rOk C R) (h : rEv R n) (hn : xNu C = nI n) (hv : wV (xVa C)) : ∀ Q ∈ (aPt C b R).toList, rEv Q (n + 1) := by
  intro Q hQ
  unfold aPt at hQ
  cases hl : aLt C R <;> rw [hl] at hQ
  · cases hb : aBr C R <;> rw [hb] at hQ
    · cases hs : (aAp C R && b) <;> rw [hs] at hQ
      · simp at hQ
      · simp at hQ
        rw [hQ]
        exact rEv_tk h8 hok h hn hv
    · simp at hQ
  · simp at hQ
theorem aMt_ev {C : eC} {R : rR} {n : Nat} (h8 : xK C ≤ 8) (hok : rOk C R) (h : rEv R n) (hn : xNu C = nI n) (hv : wV (xVa C)) : ∀ Q ∈ (aMt C R).toList, rEv Q (n + 1) := by
  intro Q hQ
  unfold aMt at hQ
  cases hl : aLt C R <;> rw [hl] at hQ
  · cases hb : aBr C R <;> rw [hb] at hQ
    · cases hs : aCm C R <;> rw [hs] at hQ
      · simp at hQ
      · simp at hQ
        rw [hQ]
        exact rEv_tk h8 hok h hn hv
    · simp at hQ
  · simp at hQ
theorem okA_one {C : eC} {S : aA} {R : rR} {m n : Nat} (h8 : xK C ≤ 8) (hS : okA C n S) (hok : rOk C R) (h : rEv R n) (hn : xNu C = nI n) (hv : wV (xVa C)) : okA C n (aOne C S R m) := by
  refine ⟨fun Q hQ => ?_, fun Q hQ => ?_, fun Q hQ => ?_⟩
  · rcases List.mem_append.mp hQ with q | q
    · exact hS.1 Q q
    · exact ⟨aKp_ok hok Q q, aKp_ev h8 hok h hn hv Q q⟩
  · rcases List.mem_append.mp hQ with q | q
    · exact hS.2.1 Q q
    · exact ⟨aPt_ok hok Q q, aPt_ev h8 hok h hn hv Q q⟩
  · rcases List.mem_append.mp hQ with q | q
    · exact hS.2.2 Q q
    · exact aMt_ev h8 hok h hn hv Q q
def smA (S : aA) (m : Nat) : Prop := S.1.length + (m + S.2.1.length) ≤ 24 ∧ S.2.2.1.length + m ≤ 24
theorem toL {α : Type} {x : α} : (some x).toList = [x] := rfl
theorem smA_one {C : eC} {S : aA} {R : rR} {m : Nat} (h : smA S (m + 1)) : smA (aOne C S R m) m := by
  obtain ⟨h1, h2⟩ := h
  have k1 := toList_le (o := aKp C R)
  have k3 := toList_le (o := aMt C R)
  refine ⟨?_, ?_⟩
  · show (S.1 ++ (aKp C R).toList).length + (m + (S.2.1 ++ (aPt C (decide (S.1.length + (m + S.2.1.length) + 1 < 24)) R).toList).length) ≤ 24
    rw [List.length_append, List.length_append]
    by_cases hr : S.1.length + (m + S.2.1.length) + 1 < 24
    · have k2 := toList_le (o := aPt C (decide (S.1.length + (m + S.2.1.length) + 1 < 24)) R)
      omega
    · have e : (aPt C (decide (S.1.length + (m + S.2.1.length) + 1 < 24)) R) = none := by
        rw [decide_eq_false hr]
        unfold aPt
        rw [Bool.and_false]
        cases aLt C R <;> cases aBr C R <;> rfl
      rw [e]
      show _ + (m + (S.2.1.length + 0)) ≤ 24
      omega
  · show (S.2.2.1 ++ (aMt C R).toList).length + m ≤ 24
    rw [List.length_append]
    omega
theorem okA.bd {C : eC} {n : Nat} {S : aA} {rs : List rR} (h : okA C n S) (h24 : rs.length ≤ 24) (hb : b19 rs) : bdA rs S := ⟨h24, hb, fun Q hQ => (h.1 Q hQ).2.2.1, fun Q hQ => (h.2.1 Q hQ).2.2.1, fun Q hQ => (h.2.2 Q hQ).2.1⟩
