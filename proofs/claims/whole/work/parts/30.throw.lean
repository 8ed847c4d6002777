section XR
variable {p : Program} {l : Launch} {e : Env} {R : Room} {s : State} {m : MethodId} {args : Array Value} {below : List Frame} {meth : Method} {c : Code} {T : State} {locs : List Loc} {cells slots : Nat}
theorem xRe (X : Stand p l e R s m args below meth c T locs cells slots) (hc : cells + 1 ≤ R.cells) (hs : slots + 6 ≤ R.slots) :
    Stand p l e { frames := R.frames, locals := R.locals, cells := 1, slots := 6 } ((T.setVm s.vm).setFrames (.invoking m args :: below)) m args below meth c T [] 0 0 := by
  obtain ⟨g0, hg⟩ := Option.isSome_iff_exists.mp X.here.top
  obtain ⟨r, hr⟩ := State.topJava?_eq_some.mp hg
  have hcu : (T.setVm s.vm).cur < (T.setVm s.vm).threads.size := State.cur_lt_of_frames (s := T) hr
  obtain ⟨t, ht, -⟩ := State.frames_cons hr
  have hfr : ((T.setVm s.vm).setFrames (.invoking m args :: below)).frames = .invoking m args :: below := State.frames_setFrames _ hcu
  have hlo : ((T.setVm s.vm).setFrames (.invoking m args :: below)).localsInUse = s.localsInUse := by
    unfold State.localsInUse
    rw [hfr, X.frames]
    rfl
  have hli : e.platform.stackLimits ((T.setVm s.vm).setFrames (.invoking m args :: below)).me = e.platform.stackLimits s.me := (State.stackLimits_setFrames _ _ _).trans X.limits
  have hby : ((T.setVm s.vm).setFrames (.invoking m args :: below)).me.stackBytes = s.me.stackBytes := (State.stackBytes_setFrames _ _).trans X.bytes
  refine ⟨X.admits, X.cas, X.clock, hfr, ?_, X.hears, X.method, X.code, X.here, X.tail, X.warmed, ?_, ?_, ?_⟩
  · have h0 := X.room
    have h1 := X.heapSize
    have h2 := X.used
    have h3 := X.book
    simp only [State.hasRoom, Bool.and_eq_true, decide_eq_true_eq] at h0 ⊢
    rw [hlo, hfr, hli, hby]
    rw [X.frames] at h0
    obtain ⟨⟨⟨⟨a1, a2⟩, a3⟩, a4⟩, a5⟩ := h0
    refine ⟨⟨⟨⟨a1, a2⟩, ?_⟩, ?_⟩, h3⟩
    · show T.heap.size + 1 ≤ _
      omega
    · show T.slotsUsed + 6 ≤ _
      omega
  · exact X.limits.trans hli.symm
  · exact X.bytes.trans hby.symm
  · have hd : T.heap.toList.drop T.heap.size = [] := List.drop_eq_nil_of_le (by simp)
    refine ⟨?_, Nat.le_refl _, Nat.le_refl _, ?_, ?_, fun a x hx => ⟨x, hx, rfl, rfl, fun _ _ => rfl⟩⟩
    · have e1 : (T.setVm s.vm).setFrames T.frames = T.setVm s.vm := State.setFrames_self (s := T.setVm s.vm) ht
      show T.setVm s.vm = { ((T.setVm s.vm).setFrames (.invoking m args :: below)).setFrames T.frames with heap := T.heap, slotsUsed := T.slotsUsed }
      rw [State.setFrames_setFrames, e1]
      rfl
    · show T.slotsUsed = T.slotsUsed + ((T.heap.toList.drop T.heap.size).map (·.slots.size)).sum
      rw [hd]; rfl
    · show ((T.heap.toList.drop T.heap.size).map (·.slots.size)).sum ≤ 0
      rw [hd]; exact Nat.le_refl _
end XR
def xS (n d : String) (A : Nat → Prop) (U : State) (H : Heap) : Prop := ∃ (c i a : Nat) (k : Class) (f : Field) (cell : Cell) (v : Value), U.vm.findClass Bundle.tN = some c ∧ U.fieldFound? Bundle.tN n d = some (c, k, i, f) ∧ f.isStatic = true ∧ k.statics = some a ∧ H[a]? = some cell ∧ cell.vm.isStatics = true ∧ cell.cls = c ∧ f.slot < cell.slots.size ∧ k.staticTypes[f.slot]? = some f.type ∧ cell.slots[f.slot]? = some v ∧ (v = .null ∨ ∃ t, v = .ref t) ∧ ¬ A a
theorem xS.moved {n d : String} {A : Nat → Prop} {u U : State} {H : Heap} (hvm : u.vm.Alike U.vm) (h : xS n d A u H) : xS n d A U H := by
  obtain ⟨c, i, a, k, f, cell, v, h1, h2, h3, h4, h5, h6, h7, h8, h9, h10⟩ := h
  obtain ⟨k2, hf2, hk2⟩ := State.fieldFound?_setVm hvm h2
  exact ⟨c, i, a, k2, f, cell, v, by rw [hvm.findClass]; exact h1, hf2, h3, by rw [hk2]; exact h4, h5, h6, h7, h8, by rw [hk2]; exact h9, h10⟩
theorem xS.kept {n d : String} {A : Nat → Prop} {U : State} {H H1 : Heap} (h : xS n d A U H) (hq : ∀ a : Nat, a < H.size → ¬ A a → H1[a]? = H[a]?) : xS n d A U H1 := by
  obtain ⟨c, i, a, k, f, cell, v, h1, h2, h3, h4, h5, h6, h7, h8, h9, h10, h11, h12⟩ := h
  exact ⟨c, i, a, k, f, cell, v, h1, h2, h3, h4, by rw [hq a (Array.getElem?_eq_some_iff.mp h5).1 h12]; exact h5, h6, h7, h8, h9, h10, h11, h12⟩
theorem xS.narrow {n d : String} {A B : Nat → Prop} {U : State} {H : Heap} (h : xS n d A U H) (hAB : ∀ q, q < H.size → B q → A q) : xS n d B U H := by
  obtain ⟨c, i, a, k, f, cell, v, h1, h2, h3, h4, h5, h6, h7, h8, h9, h10, h11, h12⟩ := h
  exact ⟨c, i, a, k, f, cell, v, h1, h2, h3, h4, h5, h6, h7, h8, h9, h10, h11, fun q => h12 (hAB a (Array.getElem?_eq_some_iff.mp h5).1 q)⟩
theorem xS.lays {n d : String} {A : Nat → Prop} {U : State} {args : Array Value} (h : xS n d A U U.heap) : (Cond.laysStatic Bundle.tN n d).before args U = true := by
  obtain ⟨c, i, a, k, f, cell, v, h1, h2, h3, h4, h5, h6, h7, h8, h9, h10, h11, h12⟩ := h
  exact Cond.laysStatic_of h1 h2 h3 h4 h5 h6 h7 h8 h9
theorem xS.isRef {n d : String} {A : Nat → Prop} {U : State} {args : Array Value} (h : xS n d A U U.heap) : (Cond.isRef (.static Bundle.tN n d)).before args U = true := by
  obtain ⟨c, i, a, k, f, cell, v, h1, h2, h3, h4, h5, h6, h7, h8, h9, h10, h11, h12⟩ := h
  have ev : (Term.static Bundle.tN n d).eval args U none [] U = some v := by
    simp [Term.eval, State.fieldNamed?, h2, h3, h4, h5, h6, h10]
  simp only [Cond.before, Cond.holds, Cond.value, ev]
  rcases h11 with q | ⟨t, q⟩ <;> subst q <;> rfl
theorem xS.of {n d : String} {A : Nat → Prop} {U : State} {args : Array Value} (hl : (Cond.laysStatic Bundle.tN n d).before args U = true) (hr : (Cond.isRef (.static Bundle.tN n d)).before args U = true) (hA : ∀ a : Nat, a < U.heap.size → ¬ A a) : xS n d A U U.heap := by
  obtain ⟨c, k, i, f, a, cell, hc, hi, hst, ha, hcell, hs, hcls, hlt, hty⟩ := Cond.laysStatic_spec hl
  have hv : cell.slots[f.slot]? = some cell.slots[f.slot] := Array.getElem?_eq_getElem hlt
  have ev : (Term.static Bundle.tN n d).eval args U none [] U = some cell.slots[f.slot] := by
    simp [Term.eval, State.fieldNamed?, hi, hst, ha, hcell, hs, hv]
  simp only [Cond.before, Cond.holds, Cond.value, ev] at hr
  refine ⟨c, i, a, k, f, cell, cell.slots[f.slot], hc, hi, hst, ha, hcell, hs, hcls, hlt, hty, hv, ?_, hA a (Array.getElem?_eq_some_iff.mp hcell).1⟩
  cases hq : cell.slots[f.slot] <;> simp [hq] at hr ⊢
def xStr : List (Nat × String) := [(63, "the text is no pattern"), (76, "no pattern is loaded"), (86, "no such event"), (128, "no such match"), (138, "no such match, or no such event of it"), (144, "no such run"), (155, "what is not 0 .. 3"), (169, "k is not 0 .. 7")]
def xDc : List MethodName := [Bundle.initS "java/lang/RuntimeException", Bundle.initS "java/lang/Exception", Bundle.initS Bundle.tN]
def xCs : List String := ["java/lang/IllegalArgumentException", "java/lang/IllegalStateException", "java/lang/IndexOutOfBoundsException"]
def xNc : List (String × String) := [("java/lang/IllegalArgumentException", "java/lang/IllegalStateException"), ("java/lang/IllegalArgumentException", "java/lang/IndexOutOfBoundsException")]
def xV (U : State) : Prop := (∀ q ∈ xStr, (Cond.stringRef R_Pw q.1 q.2).before #[] U = true) ∧ (∀ q ∈ xDc, (Cond.declares q).before #[] U = true) ∧ (∀ q ∈ xCs, (Cond.castable q q).before #[] U = true) ∧ (∀ q ∈ xNc, ∃ ca cb, U.vm.findClass q.1 = some ca ∧ U.vm.findClass q.2 = some cb ∧ U.vm.assignable ca cb = false)
def xT (A : Nat → Prop) (U : State) (H : Heap) : Prop := xS "UNASSIGNED_STACK" Bundle.steD A U H ∧ xS "SUPPRESSED_SENTINEL" Bundle.listD A U H ∧ xV U
theorem xV.warm {u U : State} (hW : u.WarmedH U.vm) (h : xV u) : xV U := by
  obtain ⟨h1, h2, h3, h4⟩ := h
  refine ⟨fun q hq => Cond.stringRef_warmed hW (h1 q hq), fun q hq => ?_, fun q hq => ?_, fun q hq => ?_⟩
  · have := Cond.declares_setVm (args := #[]) hW.alike q
    rw [h2 q hq] at this
    exact this
  · have := Cond.castable_setVm (args := #[]) hW.alike q q
    rw [h3 q hq] at this
    exact this
  · obtain ⟨ca, cb, a1, a2, a3⟩ := h4 q hq
    exact ⟨ca, cb, by rw [hW.alike.findClass]; exact a1, by rw [hW.alike.findClass]; exact a2, by rw [hW.alike.assignable]; exact a3⟩
theorem xT.warm {A : Nat → Prop} {u U : State} {H : Heap} (hW : u.WarmedH U.vm) (h : xT A u H) : xT A U H :=
  ⟨h.1.moved hW.alike, h.2.1.moved hW.alike, h.2.2.warm hW⟩
theorem xT.kept {A : Nat → Prop} {U : State} {H H1 : Heap} (h : xT A U H) (hq : ∀ a : Nat, a < H.size → ¬ A a → H1[a]? = H[a]?) : xT A U H1 := ⟨h.1.kept hq, h.2.1.kept hq, h.2.2⟩
theorem xT.narrow {A B : Nat → Prop} {U : State} {H : Heap} (h : xT A U H) (hAB : ∀ q, q < H.size → B q → A q) : xT B U H := ⟨h.1.narrow hAB, h.2.1.narrow hAB, h.2.2⟩
def xOth : List Cond := [Cond.laysStatic Bundle.tN "UNASSIGNED_STACK" Bundle.steD, Cond.laysStatic Bundle.tN "SUPPRESSED_SENTINEL" Bundle.listD, Cond.isRef (.static Bundle.tN "UNASSIGNED_STACK" Bundle.steD), Cond.isRef (.static Bundle.tN "SUPPRESSED_SENTINEL" Bundle.listD)] ++ (xDc.map Cond.declares ++ xCs.map (fun q => Cond.castable q q))
theorem xT.oth {A : Nat → Prop} {U : State} {args : Array Value} (h : xT A U U.heap) : ∀ w ∈ xOth, w.before args U = true := by
  intro w hw
  rcases List.mem_append.mp hw with q | q
  · simp only [List.mem_cons, List.mem_nil_iff, or_false] at q
    rcases q with rfl | rfl | rfl | rfl
    · exact h.1.lays
    · exact h.2.1.lays
    · exact h.1.isRef
    · exact h.2.1.isRef
  · rcases List.mem_append.mp q with q | q
    · obtain ⟨x, hx, rfl⟩ := List.mem_map.mp q
      exact h.2.2.2.1 x hx
    · obtain ⟨x, hx, rfl⟩ := List.mem_map.mp q
      exact h.2.2.2.2.1 x hx
def xPc (g : mG) (h : mHp) (sz : Nat) (av : List Value) : Array Value → State → Prop := va_Pc av (fun U => U.heap.size = sz ∧ mP g (fun _ => True) h U.heap ∧ mK g U ∧ xT (mA h sz) U U.heap)
def xQ (g : mG) (h : mHp) (sz : Nat) (X : String) (P : mHp → Prop) : Array Value → State → Outcome → State → Prop := fun _ st oc t =>
  (∃ (x : Nat) (h' : mHp) (ce : Cell), oc = .threw x ∧ P h' ∧ mP g (mA h sz) h' t.heap ∧ t.heap[x]? = some ce ∧ ce.vm = .none ∧ st.vm.findClass X = some ce.cls) ∧ va_F (mA h sz) st t
def xFr (l : Launch) (y : MethodName) (cc : ByteArray) (nL : Nat) (ret : Option FieldType) (n : Nat) (g : mG) (av : List Value) (h : mHp) (X : String) (P : mHp → Prop) : Prop :=
  ∀ sz : Nat, MetFree l y (headSpec (.code y cc nL ret :: mWS) (mRm n 1 6)) (xPc g h sz av) (fun _ _ _ _ _ => True) (fun a st o t => xQ g h sz X P a st o t ∧ ∃ L, FrameEndT st o t L 1 6 ∧ ∀ q ∈ L, mA h sz q.base)
def xAt (own : String) (ic : Nat) (X : String) (names : List String) : Prop := ∀ w ∈ Bundle.ownAtoms own ic X names, w ∈ mWS ∨ w ∈ xOth
def xE (J : mJt) (cc : ByteArray) (nL : Nat) (R : Room) (X : String) (names : List String) (P : mHp → Prop) : Prop :=
  ∀ (pc ik is ic : Nat) (text : String) (L : List (Option Value)) (h : mHp) (cs sl : Nat), decode cc pc = .ok (.new ik, 3) → decode cc (pc + 3) = .ok (.dup, 1) → decode cc (pc + 4) = .ok (.ldc is, 2) → decode cc (pc + 6) = .ok (.invokespecial ic, 3) → decode cc (pc + 9) = .ok (.athrow, 1) →
    L.length = nL → Cond.classLink R_Pw ik X ∈ mWS → Cond.initialized X ∈ mWS → xAt R_Pw ic X names → (is, text) ∈ xStr → P h → cs + 1 ≤ R.cells → sl + 6 ≤ R.slots → names.length + 3 < R.frames → 13 * (names.length + 1) + 43 ≤ R.locals → J pc L [] h cs sl
theorem xFr.intro {l : Launch} {y : MethodName} {cc : ByteArray} {nL : Nat} {ret : Option FieldType} {n : Nat} {g : mG} {av : List Value} {h : mHp} {X : String} {names : List String} {P : mHp → Prop} (htl : l.stackTraces = false) (hX : Bundle.fit X = true) (hnm : ∀ q ∈ names, Bundle.fit q = true) (ho : y.cls = R_Pw) (hy : plainName y.cls = true) (hav : ∀ v ∈ av, v.category = 1) (hn : av.length ≤ nL)
    (body : ∀ J : mJt, mB l J cc R_Pw nL false (mRm n 1 6) g → xE J cc nL (mRm n 1 6) X names P → J 0 (av.map some ++ List.replicate (nL - av.length) none) [] h 0 0) : xFr l y cc nL ret n g av h X P := by
  intro sz
  refine MetFree.of_bodyS (code := cc) (maxLocals := nL) (ret := ret) hy ?_ ?_
  · intro args s m hp hm
    obtain ⟨meth, c, h1, h2, h3, h4, h5, h6, -, -⟩ := Cond.code_spec hm (atoms_spec (ws := .code y cc nL ret :: mWS) hp _ List.mem_cons_self)
    exact ⟨meth, c, h1, h2, h3, h4, h5, h6⟩
  intro p e s m args below meth c s₁ B hml hv _
  obtain ⟨rfl, hsz, hP, hK, hT⟩ := hv
  subst hsz
  have hx := B.exec
  have hb := B.bytes
  have hlk := B.notSynchronized
  have X0 := Stand.of_body B
  have hts := atoms_spec (ws := .code y cc nL ret :: mWS) B.pre
  have hown : s.vm.findClass R_Pw = some m.cls := by rw [← ho]; exact findClass_of_methodNamed B.named
  have hout : ∀ x ∈ c.exceptionTable.toList, ∀ q : Nat, covers x q = false := by
    obtain ⟨meth2, c2, h1, h2, -, -, -, -, h7, -⟩ := Cond.code_spec B.named (hts _ List.mem_cons_self)
    cases h1.symm.trans B.method
    cases h2.symm.trans X0.code
    intro x hx2
    have : c.exceptionTable.toList = [] := by simpa [Array.isEmpty] using h7
    rw [this] at hx2
    cases hx2
  have hA : ∀ q, s.heap.size ≤ q → mA h s.heap.size q := fun q z => Or.inr z
  have hP0 : mP g (mA h s.heap.size) h s.heap := fun a x hx => ⟨(hP a x hx).1, Or.inl ⟨x, hx⟩⟩
  have hs0 : s₁.heap = s.heap := by rw [B.state]; rfl
  have main := body (mJ p l e (mRm n 1 6) s m av.toArray below meth c g (mA h s.heap.size) (fun t => t.status = .running ∧ ∃ o, Ended t below o ∧ (xQ g h s.heap.size X P av.toArray s o t ∧ ∃ L, FrameEndT s o t L 1 6 ∧ ∀ q ∈ L, mA h s.heap.size q.base)))
    ⟨p, e, s, m, av.toArray, below, meth, c, _, _, rfl, hx, hb, hml, hown, fun w hw => hts w (List.mem_cons_of_mem _ hw), hK, fun q => absurd q (by decide), hA⟩ ?_
  · have h9 := main s.heap [] _ hP0 va_S.rf (mL_entry hav hn) s₁ hs0 X0
    rw [← lg_entry_eq] at h9
    obtain ⟨t, a1, b1, o, b2, b3⟩ := h9
    exact ⟨t, o, a1, b1, b2, b3⟩
  · intro pc ik is ic text L h2 cs sl d0 d3 d4 d6 d9 hLn hk hini hat hstr hp hc hs hfr hlo H locs ls hPH hS hl T hTH XT
    have htr : e.platform.stackTraces = false := by
      have h0 : e.platform.stackTraces = l.stackTraces := by rw [XT.admits.platform]
      rw [h0]; exact htl
    have Y := xRe XT hc hs
    obtain ⟨u, hu⟩ : ∃ u, u = (T.setVm s.vm).setFrames (.invoking m av.toArray :: below) := ⟨_, rfl⟩
    rw [← hu] at Y
    have hvm : u.vm = s.vm := by rw [hu]; rfl
    have hhp : u.heap = H := by rw [hu]; exact hTH
    have hWu : s.WarmedH u.vm := by rw [hvm]; exact State.WarmedH.refl s
    have wd : ∀ w ∈ mWS, w.before av.toArray u = true := fun w hw => word_at hWu (mWS_good w hw) (hts w (List.mem_cons_of_mem _ hw))
    have hT2 : xT (mA h s.heap.size) u u.heap := by rw [hhp]; exact (hT.kept hS.2.1).warm hWu
    have hatoms : ∀ w ∈ Bundle.ownAtoms R_Pw ic X names, w.before av.toArray u = true := by
      intro w hw
      rcases hat w hw with q | q
      · exact wd w q
      · exact hT2.oth w q
    have hown2 : u.vm.findClass R_Pw = some m.cls := by rw [hvm]; exact hown
    have hins : (Cond.instantiable X 6).before av.toArray u = true := hatoms _ (by simp [Bundle.ownAtoms])
    obtain ⟨vm1, cX, kX, hfX, hkX, -, -, X1, st1⟩ := Y.newCold hx (own := R_Pw) (C := X) (index := ik) (n := 6) hown2 (wd _ hk) hins (wd _ hini) (g := F0 m pc ls []) rfl (by rw [hb]; exact d0) (Nat.le_refl _) (Nat.le_refl _)
    have hstr2 : (Cond.stringRef R_Pw is text).before av.toArray u = true := hT2.2.2.1 _ hstr
    obtain ⟨k9, cf9, i9, sa, -, -, -, -, -, hev⟩ := Cond.stringRef_spec hown2 hstr2
    have W1 : W p l e { frames := (mRm n 1 6).frames, locals := (mRm n 1 6).locals, cells := 1, slots := 6 } u m av.toArray below meth c ((T.setVm vm1).pushCell { cls := cX, slots := kX.instanceTypes.map defaultValue, vm := .none }).heap [] (0 + 1) (0 + 6) (fun t => t.status = .running ∧ Ended t below (.threw T.heap.size) ∧ u.WarmedH t.vm ∧ u.sameButNew ({ t with vm := u.vm } : State) [] (0 + 1) (0 + 6) ∧ ∃ ce, t.heap[T.heap.size]? = some ce ∧ Bundle.OwnCell av.toArray u X T.heap.size (.ref sa) ce) (F0 m (pc + 3) ls [.ref T.heap.size]) := by
      refine lv_dup hx hb d3 rfl ?_
      intro T2 hT3 X2
      have hcell : T2.heap[T.heap.size]? = some (freshCell cX kX) := by rw [hT3]; exact State.heap_pushCell_size _ _
      have st2 := X2.ldcString hx hown2 hstr2 hev (g := F0 m (pc + 4) ls [.ref T.heap.size, .ref T.heap.size]) rfl (by rw [hb]; exact d4)
      obtain ⟨U, su, r1, r2, r3, r4, r5⟩ := X2.ctorThrowS hx htr (own := R_Pw) (cls := X) (names := names) (ic := ic) hown2 hX hnm hatoms (fun x hx => nomatch hx) hfX hkX hcell (by rw [hhp, ← hTH]; exact Nat.le_refl _) (msg := .ref sa) rfl
        (g := F0 m (pc + 6) ls [.ref sa, .ref T.heap.size, .ref T.heap.size]) rfl (hl.1.trans (hLn.trans hml.symm)) rfl rfl (rest := []) rfl (by rw [hb]; exact d6) (by rw [hb]; exact d9) (fun x hx => hout x hx _) hfr (by show 2 * 0 + (1 + 0) + _ ≤ (mRm n 1 6).locals; omega) hlk
      exact ⟨U, st2 _ su, r1, r2, r3, r4, r5⟩
    obtain ⟨U, su, r1, r2, r3, r4, ce, r5, r6⟩ := W1 _ rfl X1
    have k1 : H.size ≤ U.heap.size := by
      have := r4.2.1
      rw [hhp] at this
      exact this
    have k2 : ∀ q : Nat, q < H.size → U.heap[q]? = H[q]? := by
      intro q hq
      have hq2 : q < u.heap.size := by rw [hhp]; exact hq
      obtain ⟨c9, a1, a2, a3, a4⟩ := r4.2.2.2.2.2 q _ (Array.getElem?_eq_getElem hq2)
      have a1' : U.heap[q]? = some c9 := a1
      rw [a1']
      have hcell : H[q]? = some u.heap[q] := by rw [← hhp]; exact Array.getElem?_eq_getElem hq2
      rw [hcell]
      have hsl : c9.slots = (u.heap[q]).slots := by
        apply Array.ext_getElem?
        intro i
        exact a4 i (fun z => nomatch z)
      rw [a2, hsl]
    refine ⟨U, st1 _ su, r1, .threw T.heap.size, r2, ⟨⟨⟨T.heap.size, h2, ce, rfl, hp, ?_, r5, r6.vm, ?_⟩, ?_⟩, locs, ⟨⟨_, rfl⟩, State.WarmedH.trans hWu r3, ?_⟩, hS.2.2⟩⟩
    · intro a e9 he
      obtain ⟨p1, p2⟩ := hPH a e9 he
      exact ⟨p1.kept (k2 _ p1.lt), p2⟩
    · rw [← hvm]; exact r6.cls
    · exact ⟨Nat.le_trans hS.1 k1, fun q hq hnA => by rw [k2 q (Nat.lt_of_lt_of_le hq hS.1)]; exact hS.2.1 q hq hnA⟩
    · have h3 : (T.setVm s.vm).sameButNew ({ U with vm := s.vm } : State) [] (0 + 1) (0 + 6) := by
        obtain ⟨e1, e2⟩ := r4
        subst hu
        rw [State.setFrames_setFrames] at e1
        exact ⟨e1, e2⟩
      have h4 := XT.same.trans h3
      rw [List.append_nil] at h4
      exact h4.mono hc hs
