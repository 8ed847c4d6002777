theorem xPc_blind {g : mG} {h : mHp} {sz : Nat} {av : List Value} : FrameBlind (xPc g h sz av) := by
  intro a U f mk q
  obtain ⟨q0, q1, q2, q3, q4⟩ := q
  exact ⟨q0, q1, q2, mK.same (u := U) (U := U.calling f mk a) rfl q3, xT.warm (u := U) (U := U.calling f mk a) (State.WarmedH.refl U) q4⟩
theorem xBack {l : Launch} {R : Room} {p : Program} {e : Env} {below : List Frame} {s : State} {args : Array Value} {y : MethodName} {cy : ByteArray} {nY : Nat} {ry : Option FieldType} {n : Nat} {g : mG} {av : List Value} {h : mHp} {sz : Nat} {X : String} {P : mHp → Prop} (hX : xFr l y cy nY ry n g av h X P) (hrm : n + 1 ≤ R.frames ∧ 8 + (nY + 11) + 32 * n ≤ R.locals) (hws : ∀ w ∈ Cond.code y cy nY ry :: mWS, ∀ (a' : Array Value) (U : State), s.WarmedH U.vm → w.before a' U = true) (hin : Cond.initialized y.cls ∈ mWS) :
    BackT l R p e below s args y 3 8 (fun A a => A.cells + 1 ≤ R.cells ∧ A.slots + 6 ≤ R.slots ∧ xPc g h sz av a A.U) (fun A a x B => ∃ (f : JFrame) (mk : MethodId) (t : State) (L : List Loc), B.U.heap = t.heap ∧ B.U.vm = t.vm ∧ xQ g h sz X P a (A.U.calling f mk a) (.threw x) t ∧ B.locs = A.locs ++ L ∧ (∀ q ∈ L, mA h sz q.base) ∧ B.cells = A.cells + 1 ∧ B.slots = A.slots + 6) := by
  refine BackT.of_free (S := headSpec (.code y cy nY ry :: mWS) (mRm n 1 6)) (P := xPc g h sz av) (K := fun _ _ _ _ _ => True) (bytes := cy) (maxL := nY) (ret := ry) (E := fun _ _ _ _ L k n => k = 1 ∧ n = 6 ∧ ∀ q ∈ L, mA h sz q.base) (hX sz) hrm.1 hrm.2 ?_ ?_ (fun _ _ _ _ _ _ _ _ _ => trivial) ?_ ?_
  · intro m meth c A a X hp
    exact ⟨atoms_intro fun w hw => hws w hw _ _ X.warmed, hws _ List.mem_cons_self _ _ X.warmed, hws _ (List.mem_cons_of_mem _ hin) _ _ X.warmed, hp.1, hp.2.1⟩
  · intro m meth c A a f mk X hp
    exact xPc_blind _ _ _ _ hp.2.2
  · intro a st o t ⟨hq, L, hF, hL⟩
    exact ⟨L, 1, 6, hF, rfl, rfl, hL⟩
  · intro m meth c A a f mk v t L k n X hp hq hF ⟨e1, e2, hL⟩
    subst e1; subst e2
    exact ⟨f, mk, t, L, rfl, rfl, hq.1, rfl, hL, rfl, rfl⟩
def mBT (l : Launch) (J : mJt) (cc : ByteArray) (own : String) (nL : Nat) (R : Room) (g : mG) : Prop :=
  ∃ (p : Program) (e : Env) (s : State) (m : MethodId) (args : Array Value) (below : List Frame) (meth : Method) (c : Code) (A : Nat → Prop) (Q : State → Prop),
    (J = mJ p l e R s m args below meth c g A Q ∧ p.tables.exec = Jvm.exec ∧ c.code = cc ∧ c.maxLocals = nL ∧ s.vm.findClass own = some m.cls ∧ (∀ w ∈ mWS, w.before args s = true) ∧ mK g s ∧ (∀ q, s.heap.size ≤ q → A q)) ∧ xT A s s.heap
def mBX (l : Launch) (J : mJt) (cc : ByteArray) (own : String) (nL : Nat) (hh : List (Nat × Nat × Nat × Nat)) (R : Room) (g : mG) : Prop :=
  ∃ (p : Program) (e : Env) (s : State) (m : MethodId) (args : Array Value) (below : List Frame) (meth : Method) (c : Code) (A : Nat → Prop) (Q : State → Prop),
    (J = mJ p l e R s m args below meth c g A Q ∧ p.tables.exec = Jvm.exec ∧ c.code = cc ∧ c.maxLocals = nL ∧ s.vm.findClass own = some m.cls ∧ (∀ w ∈ mWS, w.before args s = true) ∧ mK g s ∧ (∀ q, s.heap.size ≤ q → A q)) ∧ xT A s s.heap ∧ c.exceptionTable.toList.map (fun h => (h.startPc, h.endPc, h.handlerPc, h.catchType)) = hh
section XB
variable {l : Launch} {J : mJt} {cc : ByteArray} {own : String} {nL : Nat} {hh : List (Nat × Nat × Nat × Nat)} {R : Room} {g : mG} {pc : Nat} {L : List (Option Value)} {st : List Value} {h : mHp} {cs sl : Nat}
variable {y : MethodName} {cy : ByteArray} {nY : Nat} {ry : Option FieldType} {n idx : Nat} {Post : Option Value → mHp → Prop} {rest As : List Value}
theorem mBT.b (hJ : mBT l J cc own nL R g) : mB l J cc own nL false R g := by
  obtain ⟨p, e, s, m, args, below, meth, c, A, Q, ⟨h1, h2, h3, h4, h5, h6, h7, h8⟩, -⟩ := hJ
  exact ⟨p, e, s, m, args, below, meth, c, A, Q, h1, h2, h3, h4, h5, h6, h7, fun q => absurd q (by decide), h8⟩
theorem mBX.b (hJ : mBX l J cc own nL hh R g) : mB l J cc own nL false R g := by
  obtain ⟨p, e, s, m, args, below, meth, c, A, Q, ⟨h1, h2, h3, h4, h5, h6, h7, h8⟩, -⟩ := hJ
  exact ⟨p, e, s, m, args, below, meth, c, A, Q, h1, h2, h3, h4, h5, h6, h7, fun q => absurd q (by decide), h8⟩
theorem mBX.callX (hJ : mBX l J cc own nL hh R g) {b ci : Nat} {fs : List Value} {T : u_T} {N : Nat} {X : String} {P : mHp → Prop} (lk : mLkV own idx y As.length) (hcd : mCd y cy nY ry) (hX : xFr l y cy nY ry n g (.ref b :: As) h X P) (hci : vwCl[ci]? = some (y.cls, T, N)) (hbb : h b = some (mO ci fs)) (hd : decode cc pc = .ok (.invokevirtual idx, 3)) (hst : st = As.reverse ++ .ref b :: rest) (hLn : L.length = nL) (hrm : n + 1 ≤ R.frames ∧ 8 + (nY + 11) + 32 * n ≤ R.locals) (hw : (rest.map fun v => v.category).sum ≤ 8) (hf : cs + 1 ≤ R.cells ∧ sl + 6 ≤ R.slots)
    {pre post : List (Nat × Nat × Nat × Nat)} {a1 a2 hp ct : Nat} (hhh : hh = pre ++ (a1, a2, hp, ct) :: post) (hin : a1 ≤ pc ∧ pc < a2) (h0 : ct ≠ 0) (hcl : Cond.classLink own ct X ∈ mWS) (hXs : X ∈ xCs) (hpass : ∀ q ∈ pre, q.2.2.2 ≠ 0 ∧ ∃ nm, Cond.classLink own q.2.2.2 nm ∈ mWS ∧ (X, nm) ∈ xNc)
    (K : ∀ (a : Nat) (h2 : mHp), P h2 → J hp L [.ref a] h2 (cs + 1) (sl + 6)) : J pc L st h cs sl := by
  obtain ⟨p, e, s, m, args, below, meth, c, A, Q, ⟨rfl, hx, hb, hml, hown, hts, hK, hA⟩, hxT, hex⟩ := hJ
  intro H locs ls hP hS hl
  subst hst
  intro T0 hT0 X0
  have hAA : ∀ q, mA h H.size q → A q := fun q hq => by
    rcases hq with ⟨x, hx⟩ | hq
    · exact (hP q x hx).2
    · exact hA q (Nat.le_trans hS.1 hq)
  have hK9 := xBack (R := R) (p := p) (e := e) (below := below) (s := s) (args := args) (sz := H.size) hX hrm (mWarm hts hcd) lk.1.2.2
  obtain ⟨mk, methM, hnamed, hmethM, hstM, habM⟩ := Cond.instanceMethod_spec (hts _ lk.2.2.1)
  obtain ⟨methM', cM, hmethM', -, -, -, -, -, -, hsigM⟩ := Cond.code_spec hnamed (hts _ hcd)
  cases hmethM.symm.trans hmethM'
  obtain ⟨c2, r2, m2, q1, q2, q3, q4, kP, hkP, hkPi⟩ := Cond.selects_spec (hts _ lk.2.2.2)
  obtain ⟨cellB, hcB, hoB, hclB⟩ := va_recv (q0 := 0) hK.1 (hP.one hbb) hci rfl
  cases hclB.symm.trans q1
  cases (State.methodFound?_of_named hnamed lk.1.1).symm.trans q2
  cases hnamed.symm.trans q3
  have hselP : selectMethod e.platform s.vm cellB.cls mk = .method mk := by rw [Launch.admits_selectMethod X0.admits]; exact q4
  obtain ⟨vm₁, X₁, hstep₁⟩ := X0.invokevirtual hx hown (hts _ lk.2.1) hnamed hmethM hstM hkP hkPi lk.1.1 (a := b) (cell := cellB) (by rw [hT0]; exact hcB) (fun z h => by rw [h] at hoB; cases hoB) hselP hmethM habM hkP hkPi (g := F0 m pc ls (As.reverse ++ .ref b :: rest)) rfl (argsL := As) (rest := rest) (lk.1.len _ hsigM) rfl (by rw [hb]; exact hd)
  obtain ⟨x, ⟨U', l2, c2', s2⟩, X', ⟨f, mk2, t, L2, e1, e2, hq, hl2, hL2, hc2, hs2⟩, hsteps⟩ := hK9 m meth c ⟨T0.setVm vm₁, locs, cs, sl⟩ { F0 m pc ls (As.reverse ++ .ref b :: rest) with stack := rest } (.invokevirtual idx) mk (.ref b :: As).toArray X₁ rfl (hl.1.trans (hLn.trans hml.symm)) (by rw [hb]; exact hd) (lv_room hw) (X₁.named hnamed) ⟨hf.1, hf.2, rfl, (by show T0.heap.size = _; rw [hT0]), (by show mP g (fun _ => True) h T0.heap; rw [hT0]; exact hP.weaken (fun _ _ => trivial)), hK.warm X₁.warmed, (by show xT (mA h H.size) (T0.setVm vm₁) T0.heap; rw [hT0]; exact ((hxT.kept hS.2.1).warm X₁.warmed).narrow (fun q _ hq => hAA q hq))⟩
  dsimp only [Pt.U, Pt.locs, Pt.cells, Pt.slots] at X' e1 e2 hl2 hc2 hs2 hsteps
  subst hl2; subst hc2; subst hs2
  obtain ⟨⟨x', h2, ce, ho, hp2, hP2, hce, hcv, hcc⟩, hz, hk⟩ := hq
  cases ho
  have hcs : s.vm.findClass X = some ce.cls := by
    rw [← X₁.warmed.alike.findClass]
    exact hcc
  rw [hhh] at hex
  obtain ⟨l1, l3, hsp, hm1, hm3⟩ := List.map_eq_append_iff.mp hex
  obtain ⟨row, l4, hr1, hr2, hr3⟩ := List.map_eq_cons_iff.mp hm3
  subst hr1
  have r1 : row.startPc = a1 := congrArg (fun q => q.1) hr2
  have r2' : row.endPc = a2 := congrArg (fun q => q.2.1) hr2
  have r3 : row.handlerPc = hp := congrArg (fun q => q.2.2.1) hr2
  have r4 : row.catchType = ct := congrArg (fun q => q.2.2.2) hr2
  obtain ⟨c3, cT, hc3, hcT, hasg⟩ := Cond.castable_spec (hxT.2.2.2.2.1 X hXs)
  cases hcs.symm.trans hc3
  obtain ⟨hend, hk0⟩ := X'.catches_of_link hown (x := row) (by rw [r4]; exact h0) (by rw [r4]; exact hts _ hcl) hcT hasg
  have hpl : e.platform.magicAccessors = ({} : Platform).magicAccessors := by rw [X0.admits.platform]
  obtain ⟨vm', XV, stV⟩ := X'.thenCaughtThrough x (g := { F0 m pc ls (As.reverse ++ .ref b :: rest) with stack := rest }) rfl ((hstep₁ _ fun acts => by rw [doInvoke_state]; exact Steps.refl _).trans hsteps) (by rw [e1]; exact hce) (by rw [hcv]; rfl) hk0 l1 row l4 hsp
    (fun r hr => by
      have hr5 : (r.startPc, r.endPc, r.handlerPc, r.catchType) ∈ pre := by
        rw [← hm1]
        exact List.mem_map.mpr ⟨r, hr, rfl⟩
      obtain ⟨n0, nm, hc5, hn5⟩ := hpass _ hr5
      obtain ⟨c', hc', hcl'⟩ := Cond.classLink_spec hown (hts _ hc5) e.platform hpl
      obtain ⟨ca, cb, g1, g2, g3⟩ := hxT.2.2.2.2.2 _ hn5
      cases hcs.symm.trans g1
      cases hc'.symm.trans g2
      exact Or.inr ⟨n0, c', hcl', g3⟩)
    (by
      have g1 := hin.1
      have g2 := hin.2
      show covers row pc = true
      unfold covers
      rw [r1, r2']
      simp [g1, g2]) hend
  obtain ⟨t2, a3, b3⟩ := K x h2 hp2 t.heap (locs ++ L2) ls (hP2.weaken hAA) ⟨Nat.le_trans hS.1 (by
      have h9 := hz
      rw [show (State.calling (T0.setVm vm₁) f mk2 (.ref b :: As).toArray).heap = H from hT0] at h9
      exact h9), fun q h1 h2 => by
      have h9 := hk q (by
        rw [show (State.calling (T0.setVm vm₁) f mk2 (.ref b :: As).toArray).heap = H from hT0]
        exact Nat.lt_of_lt_of_le h1 hS.1) (fun z => h2 (hAA q z))
      rw [show (State.calling (T0.setVm vm₁) f mk2 (.ref b :: As).toArray).heap = H from hT0] at h9
      rw [h9]
      exact hS.2.1 q h1 h2, fun q hq => by
      rcases List.mem_append.mp hq with h9 | h9
      · exact hS.2.2 q h9
      · exact hAA _ (hL2 q h9)⟩ hl (U'.setVm vm') e1 XV
  refine ⟨t2, stV.trans ?_, b3⟩
  rw [r3]
  exact a3
def hC (l : Launch) (y : MethodName) (cc : ByteArray) (nL : Nat) (ret : Option FieldType) (hh : List (Nat × Nat × Nat × Nat)) (n : Nat) (g : mG) (av : List Value) (h : mHp) (Post : Option Value → mHp → Prop) : Prop :=
  ∀ sz : Nat, Met l y (.codeWith y cc nL ret hh :: mWS) (mRm n 1 6) (xPc g h sz av) (mQ g h sz Post) 1 6 (mA h sz)
theorem hC.intro {ret : Option FieldType} {av : List Value} (hy : plainName y.cls = true) (hav : ∀ v ∈ av, v.category = 1) (hn : av.length ≤ nL)
    (body : ∀ J : mJt, mBX l J cc y.cls nL hh (mRm n 1 6) g → mEnd J cc ret (mRm n 1 6) Post → J 0 (av.map some ++ List.replicate (nL - av.length) none) [] h 0 0) : hC l y cc nL ret hh n g av h Post := by
  intro sz
  refine va_MetW (cc := cc) (maxL := nL) (ret := ret) (hh := hh) hy rfl ?_
  intro p e s m args below meth c s₁ B hml hv
  obtain ⟨rfl, hsz, hP, hK, hT⟩ := hv
  subst hsz
  have hx := B.exec
  have hb := B.bytes
  have hr := B.returns
  have hlocks := B.notSynchronized
  have X0 := Stand.of_body B
  have hts := atoms_spec (ws := .codeWith y cc nL ret hh :: mWS) B.pre
  have hown : s.vm.findClass y.cls = some m.cls := findClass_of_methodNamed B.named
  have hex : c.exceptionTable.toList.map (fun h => (h.startPc, h.endPc, h.handlerPc, h.catchType)) = hh := by
    obtain ⟨m9, meth2, c2, hn9, h1, h2, -, -, h5, -⟩ := Cond.codeWith_spec (hts _ List.mem_cons_self)
    cases hn9.symm.trans B.named
    cases h1.symm.trans B.method
    cases h2.symm.trans X0.code
    exact h5
  rw [lg_entry_eq]
  have hA : ∀ q, s.heap.size ≤ q → mA h s.heap.size q := fun q z => Or.inr z
  have hP0 : mP g (mA h s.heap.size) h s.heap := fun a x hx => ⟨(hP a x hx).1, Or.inl ⟨x, hx⟩⟩
  refine body (mJ p l e (mRm n 1 6) s m av.toArray below meth c g (mA h s.heap.size) (MQ below (mQ g h s.heap.size Post) av.toArray s 1 6 (mA h s.heap.size))) ⟨p, e, s, m, av.toArray, below, meth, c, _, _, ⟨rfl, hx, hb, hml, hown, fun w hw => hts w (List.mem_cons_of_mem _ hw), hK, hA⟩, hT, hex⟩ ⟨?_, ?_, ?_⟩ s.heap [] _ hP0 va_S.rf (mL_entry hav hn)
  · intro pc L x ty h' cs sl hd hrt hnr hp hc hs H locs ls hP hS hl
    subst hrt
    exact W.widen (k := 1) (n := 6) hc hs (W.zret hx hb hr hnr (fun t ht hW => ⟨⟨_, h', rfl, hp, by rw [ht]; exact hP⟩, hS.F ht⟩) hS.2.2 hd)
  · intro pc L v C h' cs sl hd hrt hv hp hc hs H locs ls hP hS hl
    subst hrt
    exact W.widen (k := 1) (n := 6) hc hs (W.aret hx hb hr (Or.inl ⟨C, rfl⟩) hv (fun t ht hW => ⟨⟨_, h', rfl, hp, by rw [ht]; exact hP⟩, hS.F ht⟩) hS.2.2 hd)
  · intro pc L h' cs sl hd hrt hp hc hs H locs ls hP hS hl
    subst hrt
    exact W.widen (k := 1) (n := 6) hc hs (W.vret hx hb hr (fun t ht hW => ⟨⟨_, h', rfl, hp, by rw [ht]; exact hP⟩, hS.F ht⟩) hS.2.2 hd)
theorem mWarmW {s : State} {args : Array Value} (hts : ∀ w ∈ mWS, w.before args s = true) {w0 : Cond} (hcd : w0 ∈ mWS) : ∀ w ∈ w0 :: mWS, ∀ (a' : Array Value) (U : State), s.WarmedH U.vm → w.before a' U = true := by
  intro w hw a' U hW
  have h1 : w ∈ mWS := by
    rcases List.mem_cons.mp hw with q | q
    · rw [q]; exact hcd
    · exact q
  exact word_at hW (mWS_good w h1) (hts w h1)
theorem mBT.callH (hJ : mBT l J cc own nL R g) {hy : List (Nat × Nat × Nat × Nat)} (lk : mLkS own idx y As.length) (hcd : Cond.codeWith y cy nY ry hy ∈ mWS) (hM : hC l y cy nY ry hy n g As h Post) (hd : decode cc pc = .ok (.invokestatic idx, 3)) (hst : st = As.reverse ++ rest) (hLn : L.length = nL) (hrm : n + 1 ≤ R.frames ∧ 8 + (nY + 11) + 32 * n ≤ R.locals) (hw : (rest.map fun v => v.category).sum ≤ 8) (hf : cs + 1 ≤ R.cells ∧ sl + 6 ≤ R.slots) (K : ∀ (r : Option Value) (h2 : mHp), Post r h2 → J (pc + 3) L (r.toList ++ rest) h2 (cs + 1) (sl + 6)) : J pc L st h cs sl := by
  obtain ⟨p, e, s, m, args, below, meth, c, A, Q, ⟨rfl, hx, hb, hml, hown, hts, hK, hA⟩, hxT⟩ := hJ
  intro H locs ls hP hS hl
  subst hst
  have hAA : ∀ q, mA h H.size q → A q := fun q hq => by
    rcases hq with ⟨x, hx⟩ | hq
    · exact (hP q x hx).2
    · exact hA q (Nat.le_trans hS.1 hq)
  have hKb : Back l R p e below s args y 3 8 (PreOf R 1 6 (xPc g h H.size As)) (PostOf (mQ g h H.size Post) 1 6 (mA h H.size)) := va_backW (hM H.size) xPc_blind rfl rfl hrm.1 hrm.2 (mWarmW hts hcd) List.mem_cons_self (fun a' U hW => word_at hW (mWS_good _ lk.1.2.2) (hts _ lk.1.2.2))
  refine mGo (g := g) (h := h) (Post := Post) (a := As.toArray) (rest := rest) (mc := 1) (ms := 6) ?_ hP hS hA hl K
  intro T hT X
  obtain ⟨v, vm₁, ⟨U', l2, c2, s2⟩, hW₁, X', ⟨g', mk, t, L, e1, e2, hq, h1, hL, h2, h3⟩, st⟩ := Jvm.RoadKit.callSH X hx hown (hts _ lk.2.1) (hts _ lk.2.2) (hts _ lk.1.2.2) (hts _ hcd) lk.1.1 hKb (g := F0 m pc ls (As.reverse ++ rest)) rfl (hl.1.trans (hLn.trans hml.symm)) (argsL := As) (rest := rest) (fun sig h => lk.1.len sig h) rfl (lv_room hw) (by rw [hb]; exact hd)
    (fun vm₁ hW₁ => ⟨hf.1, hf.2, rfl, (by show T.heap.size = _; rw [hT]), (by show mP g (fun _ => True) h T.heap; rw [hT]; exact hP.weaken (fun _ _ => trivial)), hK.warm (U := T.setVm vm₁) hW₁, (by show xT (mA h H.size) (T.setVm vm₁) T.heap; rw [hT]; exact ((hxT.kept hS.2.1).warm (U := T.setVm vm₁) hW₁).narrow (fun q _ hq => hAA q hq))⟩)
  dsimp only [Pt.U, Pt.locs, Pt.cells, Pt.slots] at X' e1 e2 h1 h2 h3 st
  subst h1; subst h2; subst h3
  exact ⟨v, (T.setVm vm₁).calling g' mk As.toArray, t, U', L, hT, X', hL, e1, e2, hq, st⟩
end XB
def hS (l : Launch) (y : MethodName) (cc : ByteArray) (nL : Nat) (ret : Option FieldType) (hh : List (Nat × Nat × Nat × Nat)) (n : Nat) (g : mG) (ad : Nat → Nat) (av : List Value) (z : sT) (Post : Option Value → sT → Prop) : Prop :=
  sJn ad → ∀ h : mHp, sH ad g z h → hC l y cc nL ret hh n g av h (fun r h' => ∃ w : sT, Post r w ∧ sH ad g w h')
def hT (l : Launch) (K0 K1 : sJt) (cc : ByteArray) (own : String) (nL : Nat) (hh : List (Nat × Nat × Nat × Nat)) (R : Room) (g : mG) (ad : Nat → Nat) : Prop :=
  ∃ J : mJt, mBX l J cc own nL hh R g ∧ sJn ad ∧ K0 = (fun pc L st z => ∀ h : mHp, sH ad g z h → J pc L st h 0 0) ∧ K1 = (fun pc L st z => ∀ h : mHp, sH ad g z h → J pc L st h 1 6) ∧ 1 ≤ R.cells ∧ 6 ≤ R.slots
theorem hS.intro {l : Launch} {y : MethodName} {cc : ByteArray} {nL : Nat} {ret : Option FieldType} {hh : List (Nat × Nat × Nat × Nat)} {n : Nat} {g : mG} {ad : Nat → Nat} {av : List Value} {z : sT} {Post : Option Value → sT → Prop} {own : String} (ho : y.cls = own) (hy : plainName y.cls = true) (hav : ∀ v ∈ av, v.category = 1) (hn : av.length ≤ nL)
    (body : ∀ K0 K1 : sJt, sB l K0 cc own nL (mRm n 1 6) g ad → sB l K1 cc own nL (mRm n 1 6) g ad → sE K0 cc ret Post → sE K1 cc ret Post → hT l K0 K1 cc own nL hh (mRm n 1 6) g ad → K0 0 (av.map some ++ List.replicate (nL - av.length) none) [] z) : hS l y cc nL ret hh n g ad av z Post := by
  intro hj h hh2
  refine hC.intro hy hav hn (fun J hJ hE => ?_)
  rw [ho] at hJ
  have hEE : ∀ c9 s9, c9 ≤ 1 → s9 ≤ 6 → sE (fun pc L st z => ∀ h : mHp, sH ad g z h → J pc L st h c9 s9) cc ret Post := fun c9 s9 hc hs => ⟨fun pc L x ty z hd hr hn2 hp h2 hh2 => hE.1 pc L x ty h2 c9 s9 hd hr hn2 ⟨z, hp, hh2⟩ hc hs, fun pc L v C z hd hr hv hp h2 hh2 => hE.2.1 pc L v C h2 c9 s9 hd hr hv ⟨z, hp, hh2⟩ hc hs, fun pc L z hd hr hp h2 hh2 => hE.2.2 pc L h2 c9 s9 hd hr ⟨z, hp, hh2⟩ hc hs⟩
  exact body (fun pc L st z => ∀ h : mHp, sH ad g z h → J pc L st h 0 0) (fun pc L st z => ∀ h : mHp, sH ad g z h → J pc L st h 1 6) ⟨J, 0, 0, rfl, hJ.b, hj, Nat.zero_le _, Nat.zero_le _⟩ ⟨J, 1, 6, rfl, hJ.b, hj, Nat.le_refl _, Nat.le_refl _⟩ (hEE 0 0 (by decide) (by decide)) (hEE 1 6 (by decide) (by decide)) ⟨J, hJ, hj, rfl, rfl, Nat.le_refl _, Nat.le_refl _⟩ h hh2
theorem hT.callX {l : Launch} {K0 K1 : sJt} {cc : ByteArray} {own : String} {nL : Nat} {hh : List (Nat × Nat × Nat × Nat)} {R : Room} {g : mG} {ad : Nat → Nat} {pc : Nat} {L : List (Option Value)} {st : List Value} {z : sT} {y : MethodName} {cy : ByteArray} {nY : Nat} {ry : Option FieldType} {n idx : Nat} {rest As : List Value} (hB : hT l K0 K1 cc own nL hh R g ad) {b ci : Nat} {ks : List Nat} {T : u_T} {N : Nat} {X : String} {Post : sT → Prop} (lk : mLkV own idx y As.length) (hcd : mCd y cy nY ry) (hX : xC l y cy nY ry n g ad (.ref (ad b) :: As) z X Post) (hci : vwCl[ci]? = some (y.cls, T, N)) (hi : b < 145) (hk : sK b = (0, ci, ks)) (hd : decode cc pc = .ok (.invokevirtual idx, 3)) (hst : st = As.reverse ++ .ref (ad b) :: rest) (hLn : L.length = nL) (hrm : n + 1 ≤ R.frames ∧ 8 + (nY + 11) + 32 * n ≤ R.locals) (hw : (rest.map fun v => v.category).sum ≤ 8)
    {pre post : List (Nat × Nat × Nat × Nat)} {a1 a2 hp ct : Nat} (hhh : hh = pre ++ (a1, a2, hp, ct) :: post) (hin : a1 ≤ pc ∧ pc < a2) (h0 : ct ≠ 0) (hcl : Cond.classLink own ct X ∈ mWS) (hXs : X ∈ xCs) (hpass : ∀ q ∈ pre, q.2.2.2 ≠ 0 ∧ ∃ nm, Cond.classLink own q.2.2.2 nm ∈ mWS ∧ (X, nm) ∈ xNc)
    (K : ∀ (a : Nat) (w : sT), Post w → K1 hp L [.ref a] w) : K0 pc L st z := by
  obtain ⟨J, hJ, hj, rfl, rfl, hc, hs⟩ := hB
  intro h hh2
  exact hJ.callX lk hcd (hX hj h hh2) hci (show h (ad b) = some (mO ci (sFs ad z b ks)) by rw [hh2 b hi, hk]; rfl) hd hst hLn hrm hw ⟨hc, hs⟩ hhh hin h0 hcl hXs hpass (fun a h2 q => by obtain ⟨w, q1, q2⟩ := q; exact K a w q1 h2 q2)
