def xNm : List String := ["java/lang/RuntimeException", "java/lang/Exception"]
theorem xNm_fit : ∀ q ∈ xNm, Bundle.fit q = true := by decide +kernel
theorem xAt_of {own : String} {ic : Nat} {X : String} {names : List String} (h : (Bundle.ownAtoms own ic X names).all (fun w => (decide (w ∈ lw_tbl) && goodWord w) || decide (w ∈ xOth)) = true) : xAt own ic X names := by
  intro w hw
  have h1 := List.all_eq_true.mp h w hw
  simp only [Bool.or_eq_true, Bool.and_eq_true, decide_eq_true_eq] at h1
  rcases h1 with h1 | h1
  · exact Or.inl (List.mem_filter.mpr h1)
  · exact Or.inr h1
def X_IAE : String := "java/lang/IllegalArgumentException"
theorem xf_IAE : Bundle.fit X_IAE = true := by decide +kernel
theorem xa_IAE : xAt R_Pw 65 X_IAE xNm := xAt_of (by decide +kernel)
theorem xk_IAE : Cond.classLink R_Pw 61 X_IAE ∈ mWS := List.mem_filter.mpr (by decide +kernel)
theorem xi_IAE : Cond.initialized X_IAE ∈ mWS := List.mem_filter.mpr (by decide +kernel)
def X_ISE : String := "java/lang/IllegalStateException"
theorem xf_ISE : Bundle.fit X_ISE = true := by decide +kernel
theorem xa_ISE : xAt R_Pw 78 X_ISE xNm := xAt_of (by decide +kernel)
theorem xk_ISE : Cond.classLink R_Pw 74 X_ISE ∈ mWS := List.mem_filter.mpr (by decide +kernel)
theorem xi_ISE : Cond.initialized X_ISE ∈ mWS := List.mem_filter.mpr (by decide +kernel)
def X_IOB : String := "java/lang/IndexOutOfBoundsException"
theorem xf_IOB : Bundle.fit X_IOB = true := by decide +kernel
theorem xa_IOB : xAt R_Pw 130 X_IOB xNm := xAt_of (by decide +kernel)
theorem xk_IOB : Cond.classLink R_Pw 126 X_IOB ∈ mWS := List.mem_filter.mpr (by decide +kernel)
theorem xi_IOB : Cond.initialized X_IOB ∈ mWS := List.mem_filter.mpr (by decide +kernel)
def xC (l : Launch) (y : MethodName) (cc : ByteArray) (nL : Nat) (ret : Option FieldType) (n : Nat) (g : mG) (ad : Nat → Nat) (av : List Value) (z : sT) (X : String) (Post : sT → Prop) : Prop :=
  sJn ad → ∀ h : mHp, sH ad g z h → xFr l y cc nL ret n g av h X (fun h' => ∃ w : sT, Post w ∧ sH ad g w h')
def xKE (K : sJt) (cc : ByteArray) (nL : Nat) (X : String) (Post : sT → Prop) : Prop :=
  ∀ (pc ik is ic : Nat) (text : String) (L : List (Option Value)) (z : sT), decode cc pc = .ok (.new ik, 3) → decode cc (pc + 3) = .ok (.dup, 1) → decode cc (pc + 4) = .ok (.ldc is, 2) → decode cc (pc + 6) = .ok (.invokespecial ic, 3) → decode cc (pc + 9) = .ok (.athrow, 1) →
    L.length = nL → Cond.classLink R_Pw ik X ∈ mWS → Cond.initialized X ∈ mWS → xAt R_Pw ic X xNm → (is, text) ∈ xStr → Post z → K pc L [] z
theorem xC.intro {l : Launch} {y : MethodName} {cc : ByteArray} {nL : Nat} {ret : Option FieldType} {g : mG} {ad : Nat → Nat} {av : List Value} {z : sT} {X : String} {Post : sT → Prop} (htl : l.stackTraces = false) (hX : Bundle.fit X = true) (ho : y.cls = R_Pw) (hy : plainName y.cls = true) (hav : ∀ v ∈ av, v.category = 1) (hn : av.length ≤ nL)
    (body : ∀ K : sJt, sB l K cc R_Pw nL (mRm 6 1 6) g ad → xKE K cc nL X Post → K 0 (av.map some ++ List.replicate (nL - av.length) none) [] z) : xC l y cc nL ret 6 g ad av z X Post := by
  intro hj h hh
  refine xFr.intro htl hX xNm_fit ho hy hav hn (fun J hJ hE => ?_)
  refine body (fun pc L st z => ∀ h : mHp, sH ad g z h → J pc L st h 0 0) ⟨J, 0, 0, rfl, hJ, hj, Nat.zero_le _, Nat.zero_le _⟩ ?_ h hh
  intro pc ik is ic text L z2 d0 d3 d4 d6 d9 hLn hk hi hat hs hp h2 hh2
  exact hE pc ik is ic text L h2 0 0 d0 d3 d4 d6 d9 hLn hk hi hat hs ⟨z2, hp, hh2⟩ (Nat.le_refl _) (Nat.le_refl _) (by decide) (by decide)
