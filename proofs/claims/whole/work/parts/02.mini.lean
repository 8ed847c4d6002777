abbrev mHp : Type := Nat → Option va_E
def mU (h : mHp) (a : Nat) (e : va_E) : mHp := fun q => if q = a then some e else h q
theorem mU_self {h : mHp} {a : Nat} {e : va_E} : mU h a e a = some e := if_pos rfl
theorem mU_ne {h : mHp} {a q : Nat} {e : va_E} (hq : q ≠ a) : mU h a e q = h q := if_neg hq
theorem mU_mU {h : mHp} {a : Nat} {e e' : va_E} : mU (mU h a e) a e' = mU h a e' := by
  funext q
  by_cases hq : q = a
  · subst hq; rw [mU_self, mU_self]
  · rw [mU_ne hq, mU_ne hq, mU_ne hq]
theorem mU_comm {h : mHp} {a b : Nat} {e e' : va_E} (hab : a ≠ b) : mU (mU h a e) b e' = mU (mU h b e') a e := by
  funext q
  by_cases h1 : q = a
  · subst h1; rw [mU_ne hab, mU_self, mU_self]
  · by_cases h2 : q = b
    · subst h2; rw [mU_self, mU_ne h1, mU_self]
    · rw [mU_ne h2, mU_ne h1, mU_ne h1, mU_ne h2]
theorem mU_same {h : mHp} {a : Nat} {e : va_E} (ha : h a = some e) : mU h a e = h := by
  funext q
  by_cases h1 : q = a
  · subst h1; rw [mU_self, ha]
  · rw [mU_ne h1]
abbrev mG : Type := va_G × (Nat → ClassId)
def mTys (g : mG) : List (ClassId × FieldType) := [(g.2 0, .int), (g.2 1, .long), (g.2 2, .char), (g.2 3, .boolean), (g.2 4, .object "PatternWatch$Run"), (g.2 5, .object "PatternWatch$Element")]
def mP (g : mG) (A : Nat → Prop) (h : mHp) (H : Heap) : Prop := ∀ (a : Nat) (e : va_E), h a = some e → va_at g.1 vwCl (a, e) H ∧ A a
def mWL (h : mHp) : Nat → va_W
  | 0 => []
  | n + 1 => mWL h n ++ (match h n with | some e => [(n, e)] | none => [])
theorem mWL_spec (h : mHp) : ∀ n : Nat, (∀ (k : Nat) (q : Nat × va_E), (mWL h n)[k]? = some q → h q.1 = some q.2 ∧ q.1 < n) ∧ (∀ (i j : Nat) (p q : Nat × va_E), (mWL h n)[i]? = some p → (mWL h n)[j]? = some q → p.1 = q.1 → i = j) ∧ (∀ (a : Nat) (e : va_E), a < n → h a = some e → ∃ k : Nat, (mWL h n)[k]? = some (a, e)) := by
  intro n
  induction n with
  | zero => exact ⟨fun k q hk => by simp [mWL] at hk, fun i j p q hi => by simp [mWL] at hi, fun a e ha => absurd ha (Nat.not_lt_zero _)⟩
  | succ n ih =>
    obtain ⟨i1, i2, i3⟩ := ih
    cases hn : h n with
    | none =>
      have e0 : mWL h (n + 1) = mWL h n := by simp [mWL, hn]
      rw [e0]
      refine ⟨fun k q hk => ⟨(i1 k q hk).1, Nat.lt_succ_of_lt (i1 k q hk).2⟩, i2, fun a e ha he => ?_⟩
      rcases Nat.lt_or_ge a n with h1 | h1
      · exact i3 a e h1 he
      · have h2 : a = n := by omega
        rw [h2, hn] at he
        cases he
    | some x =>
      have e0 : mWL h (n + 1) = mWL h n ++ [(n, x)] := by simp [mWL, hn]
      rw [e0]
      have key : ∀ (k : Nat) (q : Nat × va_E), (mWL h n ++ [(n, x)])[k]? = some q → ((mWL h n)[k]? = some q ∧ q.1 < n) ∨ (k = (mWL h n).length ∧ q = (n, x)) := by
        intro k q hk
        by_cases hl : k < (mWL h n).length
        · rw [List.getElem?_append_left hl] at hk
          exact Or.inl ⟨hk, (i1 k q hk).2⟩
        · rw [List.getElem?_append_right (by omega)] at hk
          have hz : k - (mWL h n).length < 1 := (List.getElem?_eq_some_iff.mp hk).1
          have hk0 : k = (mWL h n).length := by omega
          rw [show k - (mWL h n).length = 0 by omega] at hk
          exact Or.inr ⟨hk0, (Option.some.inj hk).symm⟩
      refine ⟨fun k q hk => ?_, fun i j p q hi hj hpq => ?_, fun a e ha he => ?_⟩
      · rcases key k q hk with ⟨h1, h2⟩ | ⟨-, h1⟩
        · exact ⟨(i1 k q h1).1, Nat.lt_succ_of_lt h2⟩
        · subst h1
          exact ⟨hn, Nat.lt_succ_self n⟩
      · rcases key i p hi with ⟨h1, l1⟩ | ⟨h1, l1⟩
        · rcases key j q hj with ⟨h2, l2⟩ | ⟨h2, l2⟩
          · exact i2 i j p q h1 h2 hpq
          · rw [l2] at hpq
            have h3 : p.1 = n := hpq
            omega
        · rcases key j q hj with ⟨h2, l2⟩ | ⟨h2, l2⟩
          · rw [l1] at hpq
            have h3 : n = q.1 := hpq
            omega
          · omega
      · rcases Nat.lt_or_ge a n with h1 | h1
        · obtain ⟨k, hk⟩ := i3 a e h1 he
          exact ⟨k, by rw [List.getElem?_append_left (List.getElem?_eq_some_iff.mp hk).1]; exact hk⟩
        · have h2 : a = n := by omega
          rw [h2, hn] at he
          cases he
          exact ⟨(mWL h n).length, by rw [h2]; simp⟩
def mCov (h : mHp) (ws : va_W) : Prop := ∀ (a : Nat) (e : va_E), h a = some e → ∃ k : Nat, ws[k]? = some (a, e)
theorem mP.list {g : mG} {A : Nat → Prop} {h : mHp} {H : Heap} (hP : mP g A h H) : ∃ ws : va_W, va_P g.1 vwCl ws H ∧ va_D A ws ∧ mCov h ws := by
  obtain ⟨i1, i2, i3⟩ := mWL_spec h H.size
  exact ⟨mWL h H.size, fun k q hk => (hP q.1 q.2 (i1 k q hk).1).1, ⟨i2, fun k q hk => (hP q.1 q.2 (i1 k q hk).1).2⟩, fun a e he => i3 a e (hP a e he).1.lt he⟩
theorem mP.one {g : mG} {A : Nat → Prop} {h : mHp} {H : Heap} {a : Nat} {e : va_E} (hP : mP g A h H) (ha : h a = some e) : va_P g.1 vwCl [(a, e)] H := by
  intro k q hk
  have hz : k < 1 := (List.getElem?_eq_some_iff.mp hk).1
  rw [show k = 0 by omega] at hk
  cases hk
  exact (hP a e ha).1
theorem mP.back {g : mG} {A : Nat → Prop} {h : mHp} {H1 : Heap} {ws : va_W} {q0 a : Nat} {e0 e2 : va_E} (cov : mCov h ws) (hq : ws[q0]? = some (a, e0)) (hP1 : va_P g.1 vwCl (ws.set q0 (a, e2)) H1) (hD1 : va_D A (ws.set q0 (a, e2))) : mP g A (mU h a e2) H1 := by
  have hl := (List.getElem?_eq_some_iff.mp hq).1
  intro b x hb
  by_cases hba : b = a
  · subst hba
    rw [mU_self] at hb
    cases hb
    have h0 : (ws.set q0 (b, e2))[q0]? = some (b, e2) := List.getElem?_set_self hl
    exact ⟨hP1 q0 _ h0, hD1.2 q0 _ h0⟩
  · rw [mU_ne hba] at hb
    obtain ⟨k, hk⟩ := cov b x hb
    have hkq : q0 ≠ k := by
      intro h9
      subst h9
      rw [hq] at hk
      cases hk
      exact hba rfl
    have h0 : (ws.set q0 (a, e2))[k]? = some (b, x) := by rw [List.getElem?_set_ne hkq]; exact hk
    exact ⟨hP1 k _ h0, hD1.2 k _ h0⟩
theorem mP.push {g : mG} {A : Nat → Prop} {h : mHp} {H1 : Heap} {ws : va_W} {q : Nat} {x : va_E} (cov : mCov h ws) (hP1 : va_P g.1 vwCl (ws ++ [(q, x)]) H1) (hD1 : va_D A (ws ++ [(q, x)])) : mP g A (mU h q x) H1 ∧ h q = none := by
  have last : (ws ++ [(q, x)])[ws.length]? = some (q, x) := by simp
  constructor
  · intro b y hb
    by_cases hq : b = q
    · subst hq
      rw [mU_self] at hb
      cases hb
      exact ⟨hP1 _ _ last, hD1.2 _ _ last⟩
    · rw [mU_ne hq] at hb
      obtain ⟨k, hk⟩ := cov b y hb
      have hk' : (ws ++ [(q, x)])[k]? = some (b, y) := by rw [List.getElem?_append_left (List.getElem?_eq_some_iff.mp hk).1]; exact hk
      exact ⟨hP1 k _ hk', hD1.2 k _ hk'⟩
  · cases hn : h q with
    | none => rfl
    | some y =>
      obtain ⟨k, hk⟩ := cov q y hn
      have hl := (List.getElem?_eq_some_iff.mp hk).1
      have hk' : (ws ++ [(q, x)])[k]? = some (q, y) := by rw [List.getElem?_append_left hl]; exact hk
      have := hD1.1 k ws.length _ _ hk' last rfl
      omega
theorem mP.weaken {g : mG} {A B : Nat → Prop} {h : mHp} {H : Heap} (hP : mP g A h H) (hAB : ∀ q, A q → B q) : mP g B h H := fun a e he => ⟨(hP a e he).1, hAB a (hP a e he).2⟩
def mL (ls : Array Slot) (L : List (Option Value)) : Prop := ls.size = L.length ∧ lv_wf ls ∧ ∀ (i : Nat) (v : Value), L[i]? = some (some v) → ls[i]? = some (.val v) ∧ v.category = 1
def mLp (L : List (Option Value)) : List (Nat × Value) := (List.range L.length).filterMap fun i => match L[i]? with
  | some (some v) => some (i, v)
  | _ => none
theorem mLp_mem {L : List (Option Value)} {i : Nat} {v : Value} (h : L[i]? = some (some v)) : (i, v) ∈ mLp L :=
  List.mem_filterMap.mpr ⟨i, List.mem_range.mpr (List.getElem?_eq_some_iff.mp h).1, by simp only [h]⟩
theorem mLp_of {L : List (Option Value)} {q : Nat × Value} (h : q ∈ mLp L) : L[q.1]? = some (some q.2) := by
  obtain ⟨i, -, hi⟩ := List.mem_filterMap.mp h
  split at hi
  · rename_i v hv
    cases hi
    exact hv
  · cases hi
theorem mL.has {ls : Array Slot} {L : List (Option Value)} (h : mL ls L) : lv_has ls L.length (mLp L) := ⟨h.1, h.2.1, fun q hq => (h.2.2 q.1 q.2 (mLp_of hq)).1⟩
theorem mL.get {ls : Array Slot} {L : List (Option Value)} {i : Nat} {v : Value} (h : mL ls L) (hi : L[i]? = some (some v)) : ls[i]? = some (.val v) := (h.2.2 i v hi).1
theorem mL.put {ls ls' : Array Slot} {L : List (Option Value)} {i : Nat} {v : Value} (h : mL ls L) (hv : v.category = 1) (h' : lv_has ls' L.length ((i, v) :: (mLp L).filter (fun q => !(q.1 == i) && !(q.1 + 1 == i && q.2.category == 2)))) : mL ls' (L.set i (some v)) := by
  refine ⟨by rw [List.length_set]; exact h'.1, h'.2.1, fun j w hj => ?_⟩
  by_cases hji : j = i
  · subst hji
    have hl : j < L.length := by simpa using (List.getElem?_eq_some_iff.mp hj).1
    rw [List.getElem?_set_self hl] at hj
    cases hj
    exact ⟨h'.2.2 _ List.mem_cons_self, hv⟩
  · rw [List.getElem?_set_ne (Ne.symm hji)] at hj
    have hc := (h.2.2 j w hj).2
    exact ⟨h'.2.2 (j, w) (List.mem_cons_of_mem _ (List.mem_filter.mpr ⟨mLp_mem hj, by simp [hji, hc]⟩)), hc⟩
def mK (g : mG) (U : State) : Prop := va_K g.1 vwCl (mTys g) U ∧ (∀ q ∈ mNF, va_Nw (.fieldLinkNest q.1 q.2.1 q.2.2.1 q.2.2.2.1 q.2.2.2.2.1 q.2.2.2.2.2) U) ∧ (∀ q ∈ mNM, va_Nw (.methodLinkNest q.1 q.2.1 q.2.2.1 q.2.2.2) U) ∧ va_AO "PatternWatch$Run" U ∧ va_AO "PatternWatch$Element" U
theorem mK.warm {g : mG} {s U : State} (hW : s.WarmedH U.vm) (h : mK g s) : mK g U :=
  ⟨va_K.moved hW.alike h.1, fun q hq => va_Nw.warmF hW (h.2.1 q hq), fun q hq => va_Nw.warmM hW (h.2.2.1 q hq), va_AO.moved hW.alike h.2.2.2.1, va_AO.moved hW.alike h.2.2.2.2⟩
theorem mK.same {g : mG} {u U : State} (e : u.vm = U.vm) (h : mK g u) : mK g U :=
  ⟨va_K.moved (by rw [e]; exact Vm.Alike.refl _) h.1, fun q hq => va_Nw.same rfl e (h.2.1 q hq), fun q hq => va_Nw.same rfl e (h.2.2.1 q hq), va_AO.moved (by rw [e]; exact Vm.Alike.refl _) h.2.2.2.1, va_AO.moved (by rw [e]; exact Vm.Alike.refl _) h.2.2.2.2⟩
def mJ (p : Program) (l : Launch) (e : Env) (R : Room) (s : State) (m : MethodId) (args : Array Value) (below : List Frame) (meth : Method) (c : Code) (g : mG) (A : Nat → Prop) (Q : State → Prop) : Nat → List (Option Value) → List Value → mHp → Nat → Nat → Prop := fun pc L st h cs sl =>
  ∀ (H : Heap) (locs : List Loc) (ls : Array Slot), mP g A h H → va_S A s.heap H locs → mL ls L → W p l e R s m args below meth c H locs cs sl Q (F0 m pc ls st)
abbrev mJt : Type := Nat → List (Option Value) → List Value → mHp → Nat → Nat → Prop
def mB (l : Launch) (J : mJt) (cc : ByteArray) (own : String) (nL : Nat) (ini : Bool) (R : Room) (g : mG) : Prop :=
  ∃ (p : Program) (e : Env) (s : State) (m : MethodId) (args : Array Value) (below : List Frame) (meth : Method) (c : Code) (A : Nat → Prop) (Q : State → Prop),
    J = mJ p l e R s m args below meth c g A Q ∧ p.tables.exec = Jvm.exec ∧ c.code = cc ∧ c.maxLocals = nL ∧ s.vm.findClass own = some m.cls ∧ (∀ w ∈ mWS, w.before args s = true) ∧ mK g s ∧ (ini = true → meth.name = "<init>") ∧ (∀ q, s.heap.size ≤ q → A q)
def mEnd (J : mJt) (cc : ByteArray) (ret : Option FieldType) (R : Room) (Post : Option Value → mHp → Prop) : Prop :=
  (∀ (pc : Nat) (L : List (Option Value)) (x : Int32) (ty : FieldType) (h : mHp) (cs sl : Nat), decode cc pc = .ok (.ireturn, 1) → ret = some ty → narrow ty (.int x) = .int x → Post (some (.int x)) h → cs ≤ R.cells → sl ≤ R.slots → J pc L [.int x] h cs sl) ∧
  (∀ (pc : Nat) (L : List (Option Value)) (v : Value) (C : String) (h : mHp) (cs sl : Nat), decode cc pc = .ok (.areturn, 1) → ret = some (.object C) → (v = .null ∨ ∃ a, v = .ref a) → Post (some v) h → cs ≤ R.cells → sl ≤ R.slots → J pc L [v] h cs sl) ∧
  (∀ (pc : Nat) (L : List (Option Value)) (h : mHp) (cs sl : Nat), decode cc pc = .ok (.return_, 1) → ret = none → Post none h → cs ≤ R.cells → sl ≤ R.slots → J pc L [] h cs sl)
def mA (h : mHp) (sz : Nat) : Nat → Prop := fun q => (∃ e, h q = some e) ∨ sz ≤ q
def mQ (g : mG) (h : mHp) (sz : Nat) (Post : Option Value → mHp → Prop) : Array Value → State → Outcome → State → Prop := fun _ st oc t =>
  (∃ (r : Option Value) (h' : mHp), oc = .returned r ∧ Post r h' ∧ mP g (mA h sz) h' t.heap) ∧ va_F (mA h sz) st t
def mPc (g : mG) (h : mHp) (sz : Nat) (av : List Value) : Array Value → State → Prop := va_Pc av (fun U => U.heap.size = sz ∧ mP g (fun _ => True) h U.heap ∧ mK g U)
theorem mPc_blind {g : mG} {h : mHp} {sz : Nat} {av : List Value} : FrameBlind (mPc g h sz av) := by
  intro a U f mk q
  obtain ⟨q0, q1, q2, q3⟩ := q
  exact ⟨q0, q1, q2, mK.same (u := U) (U := U.calling f mk a) rfl q3⟩
abbrev mRm (n mc ms : Nat) : Room := { frames := n, cells := mc, slots := ms, locals := 32 * n }
def mC (l : Launch) (y : MethodName) (cc : ByteArray) (nL : Nat) (ret : Option FieldType) (n mc ms : Nat) (g : mG) (av : List Value) (h : mHp) (Post : Option Value → mHp → Prop) : Prop :=
  ∀ sz : Nat, Met l y (.code y cc nL ret :: mWS) (mRm n mc ms) (mPc g h sz av) (mQ g h sz Post) mc ms (mA h sz)
theorem mArgs : ∀ (av : List Value) (i : Nat), (∀ v ∈ av, v.category = 1) → ∀ (k : Nat) (v : Value), av[k]? = some v → (i + k, v) ∈ lv_args i av
  | [], _, _, k, v, hk => by simp at hk
  | w :: av, i, hc, k, v, hk => by
    have hw : w.category = 1 := hc w List.mem_cons_self
    unfold lv_args
    rw [if_neg (by omega)]
    cases k with
    | zero =>
      rw [List.getElem?_cons_zero] at hk
      cases hk
      exact List.mem_cons_self
    | succ k =>
      rw [List.getElem?_cons_succ] at hk
      have h1 := mArgs av (i + 1) (fun x hx => hc x (List.mem_cons_of_mem _ hx)) k v hk
      rw [show i + (k + 1) = i + 1 + k by omega]
      exact List.mem_cons_of_mem _ h1
theorem mSl : ∀ (av : List Value), (∀ v ∈ av, v.category = 1) → (lg_sl av).length = av.length
  | [], _ => rfl
  | w :: av, hc => by
    have hw : w.category = 1 := hc w List.mem_cons_self
    have h1 := mSl av (fun x hx => hc x (List.mem_cons_of_mem _ hx))
    have h2 : lg_sl (w :: av) = (if w.category = 2 then [Slot.val w, .second] else [.val w]) ++ lg_sl av := by simp [lg_sl]
    rw [h2, if_neg (by omega)]
    simp [h1]
theorem mL_entry {av : List Value} {nL : Nat} (hc : ∀ v ∈ av, v.category = 1) (hn : av.length ≤ nL) : mL ((lg_sl av ++ List.replicate (nL - (lg_sl av).length) Slot.unset).toArray) (av.map some ++ List.replicate (nL - av.length) none) := by
  have hs := mSl av hc
  have he := lv_entry av (n := nL) (by rw [hs]; exact hn)
  refine ⟨by rw [he.1]; simp; omega, he.2.1, fun i v hi => ?_⟩
  by_cases hl : i < av.length
  · rw [List.getElem?_append_left (by simpa using hl), List.getElem?_map] at hi
    cases ha : av[i]? with
    | none => rw [ha] at hi; cases hi
    | some w =>
      rw [ha] at hi
      cases hi
      have h1 := mArgs av 0 hc i v ha
      rw [Nat.zero_add] at h1
      exact ⟨he.2.2 _ h1, hc v (List.mem_of_getElem? ha)⟩
  · rw [List.getElem?_append_right (by simpa using Nat.not_lt.mp hl)] at hi
    have h1 := List.mem_of_getElem? hi
    rw [List.mem_replicate] at h1
    cases h1.2
theorem mC.intro {l : Launch} {y : MethodName} {cc : ByteArray} {nL : Nat} {ret : Option FieldType} {n mc ms : Nat} {g : mG} {av : List Value} {h : mHp} {Post : Option Value → mHp → Prop} (hy : plainName y.cls = true) (hav : ∀ v ∈ av, v.category = 1) (hn : av.length ≤ nL)
    (body : ∀ J : mJt, mB l J cc y.cls nL (y.name == "<init>") (mRm n mc ms) g → mEnd J cc ret (mRm n mc ms) Post → J 0 (av.map some ++ List.replicate (nL - av.length) none) [] h 0 0) : mC l y cc nL ret n mc ms g av h Post := by
  intro sz
  refine Met.ofW (cc := cc) (maxL := nL) (ret := ret) hy rfl ?_
  intro p e s m args below meth c s₁ B hml hv
  obtain ⟨rfl, hsz, hP, hK⟩ := hv
  subst hsz
  have hx := B.exec
  have hb := B.bytes
  have hr := B.returns
  have hlocks := B.notSynchronized
  have hts := atoms_spec (ws := .code y cc nL ret :: mWS) B.pre
  have hown : s.vm.findClass y.cls = some m.cls := findClass_of_methodNamed B.named
  have hini : (y.name == "<init>") = true → meth.name = "<init>" := fun q => ((name_of_methodNamed B.named B.method).1).trans (by simpa using q)
  rw [lg_entry_eq]
  have hA : ∀ q, s.heap.size ≤ q → mA h s.heap.size q := fun q z => Or.inr z
  have hP0 : mP g (mA h s.heap.size) h s.heap := fun a x hx => ⟨(hP a x hx).1, Or.inl ⟨x, hx⟩⟩
  refine body (mJ p l e (mRm n mc ms) s m av.toArray below meth c g (mA h s.heap.size) (MQ below (mQ g h s.heap.size Post) av.toArray s mc ms (mA h s.heap.size))) ⟨p, e, s, m, av.toArray, below, meth, c, _, _, rfl, hx, hb, hml, hown, fun w hw => hts w (List.mem_cons_of_mem _ hw), hK, hini, hA⟩ ⟨?_, ?_, ?_⟩ s.heap [] _ hP0 va_S.rf (mL_entry hav hn)
  · intro pc L x ty h' cs sl hd hrt hnr hp hc hs H locs ls hP hS hl
    subst hrt
    exact W.widen (k := mc) (n := ms) hc hs (W.zret hx hb hr hnr (fun t ht hW => ⟨⟨_, h', rfl, hp, by rw [ht]; exact hP⟩, hS.F ht⟩) hS.2.2 hd)
  · intro pc L v C h' cs sl hd hrt hv hp hc hs H locs ls hP hS hl
    subst hrt
    exact W.widen (k := mc) (n := ms) hc hs (W.aret hx hb hr (Or.inl ⟨C, rfl⟩) hv (fun t ht hW => ⟨⟨_, h', rfl, hp, by rw [ht]; exact hP⟩, hS.F ht⟩) hS.2.2 hd)
  · intro pc L h' cs sl hd hrt hp hc hs H locs ls hP hS hl
    subst hrt
    exact W.widen (k := mc) (n := ms) hc hs (W.vret hx hb hr (fun t ht hW => ⟨⟨_, h', rfl, hp, by rw [ht]; exact hP⟩, hS.F ht⟩) hS.2.2 hd)
theorem mC.mono {l : Launch} {y : MethodName} {cc : ByteArray} {nL : Nat} {ret : Option FieldType} {n mc ms : Nat} {g : mG} {av : List Value} {h : mHp} {Post Post' : Option Value → mHp → Prop} (hM : mC l y cc nL ret n mc ms g av h Post) (hp : ∀ r h', Post r h' → Post' r h') : mC l y cc nL ret n mc ms g av h Post' := by
  intro sz p e h1 h2 h3 s m args below h4 h5 h6 h7
  obtain ⟨k, o, q1, q2, q3, ⟨⟨⟨r, h', r1, r2, r3⟩, r4⟩, r5⟩⟩ := hM sz p e h1 h2 h3 s m args below h4 h5 h6 h7
  exact ⟨k, o, q1, q2, q3, ⟨⟨⟨r, h', r1, hp r h' r2, r3⟩, r4⟩, r5⟩⟩
section MBR
variable {l : Launch} {J : mJt} {cc : ByteArray} {own : String} {nL : Nat} {ini : Bool} {R : Room} {g : mG} {pc : Nat} {L : List (Option Value)} {st : List Value} {h : mHp} {cs sl : Nat}
theorem mB.iconst (hJ : mB l J cc own nL ini R g) {n : Int} {v : Int32} (hd : decode cc pc = .ok (.iconst n, 1)) (hv : Int32.ofInt n = v) (K : J (pc + 1) L (.int v :: st) h cs sl) : J pc L (st) h cs sl := by
  obtain ⟨p, e, s, m, args, below, meth, c, A, Q, rfl, hx, hb, hml, hown, hts, hK, hini, hA⟩ := hJ
  intro H locs ls hP hS hl
  exact lv_iconst hx hb hd hv (K H locs ls hP hS hl)
theorem mB.bipush (hJ : mB l J cc own nL ini R g) {n : Int} {v : Int32} (hd : decode cc pc = .ok (.bipush n, 2)) (hv : (Int8.ofInt n).toInt32 = v) (K : J (pc + 2) L (.int v :: st) h cs sl) : J pc L (st) h cs sl := by
  obtain ⟨p, e, s, m, args, below, meth, c, A, Q, rfl, hx, hb, hml, hown, hts, hK, hini, hA⟩ := hJ
  intro H locs ls hP hS hl
  exact lv_bipush hx hb hd hv (K H locs ls hP hS hl)
theorem mB.sipush (hJ : mB l J cc own nL ini R g) {n : Int} {v : Int32} (hd : decode cc pc = .ok (.sipush n, 3)) (hv : (Int16.ofInt n).toInt32 = v) (K : J (pc + 3) L (.int v :: st) h cs sl) : J pc L (st) h cs sl := by
  obtain ⟨p, e, s, m, args, below, meth, c, A, Q, rfl, hx, hb, hml, hown, hts, hK, hini, hA⟩ := hJ
  intro H locs ls hP hS hl
  exact lv_sipush hx hb hd hv (K H locs ls hP hS hl)
theorem mB.iload_n (hJ : mB l J cc own nL ini R g) {k : Fin 4} {x : Int32} (hd : decode cc pc = .ok (.iload_n k, 1)) (hv : L[(k : Nat)]? = some (some (.int x))) (K : J (pc + 1) L (.int x :: st) h cs sl) : J pc L (st) h cs sl := by
  obtain ⟨p, e, s, m, args, below, meth, c, A, Q, rfl, hx, hb, hml, hown, hts, hK, hini, hA⟩ := hJ
  intro H locs ls hP hS hl
  exact lv_iload_n hx hb hd rfl (hl.get hv) (K H locs ls hP hS hl)
theorem mB.iload (hJ : mB l J cc own nL ini R g) {i : Nat} {x : Int32} (hd : decode cc pc = .ok (.iload i, 2)) (hv : L[i]? = some (some (.int x))) (K : J (pc + 2) L (.int x :: st) h cs sl) : J pc L (st) h cs sl := by
  obtain ⟨p, e, s, m, args, below, meth, c, A, Q, rfl, hx, hb, hml, hown, hts, hK, hini, hA⟩ := hJ
  intro H locs ls hP hS hl
  exact lv_iload hx hb hd (hl.get hv) (K H locs ls hP hS hl)
theorem mB.aload_n (hJ : mB l J cc own nL ini R g) {k : Fin 4} {x : Nat} (hd : decode cc pc = .ok (.aload_n k, 1)) (hv : L[(k : Nat)]? = some (some (.ref x))) (K : J (pc + 1) L (.ref x :: st) h cs sl) : J pc L (st) h cs sl := by
  obtain ⟨p, e, s, m, args, below, meth, c, A, Q, rfl, hx, hb, hml, hown, hts, hK, hini, hA⟩ := hJ
  intro H locs ls hP hS hl
  exact lv_aload_n hx hb hd rfl (hl.get hv) (K H locs ls hP hS hl)
theorem mB.aload (hJ : mB l J cc own nL ini R g) {i : Nat} {x : Nat} (hd : decode cc pc = .ok (.aload i, 2)) (hv : L[i]? = some (some (.ref x))) (K : J (pc + 2) L (.ref x :: st) h cs sl) : J pc L (st) h cs sl := by
  obtain ⟨p, e, s, m, args, below, meth, c, A, Q, rfl, hx, hb, hml, hown, hts, hK, hini, hA⟩ := hJ
  intro H locs ls hP hS hl
  exact lv_aload hx hb hd (hl.get hv) (K H locs ls hP hS hl)
theorem mB.aload_nN (hJ : mB l J cc own nL ini R g) {k : Fin 4} (hd : decode cc pc = .ok (.aload_n k, 1)) (hv : L[(k : Nat)]? = some (some .null)) (K : J (pc + 1) L (.null :: st) h cs sl) : J pc L (st) h cs sl := by
  obtain ⟨p, e, s, m, args, below, meth, c, A, Q, rfl, hx, hb, hml, hown, hts, hK, hini, hA⟩ := hJ
  intro H locs ls hP hS hl
  exact lv_aload_nN hx hb hd rfl (hl.get hv) (K H locs ls hP hS hl)
theorem mB.aloadN (hJ : mB l J cc own nL ini R g) {i : Nat} (hd : decode cc pc = .ok (.aload i, 2)) (hv : L[i]? = some (some .null)) (K : J (pc + 2) L (.null :: st) h cs sl) : J pc L (st) h cs sl := by
  obtain ⟨p, e, s, m, args, below, meth, c, A, Q, rfl, hx, hb, hml, hown, hts, hK, hini, hA⟩ := hJ
  intro H locs ls hP hS hl
  exact lv_aloadN hx hb hd (hl.get hv) (K H locs ls hP hS hl)
theorem mB.istore_n (hJ : mB l J cc own nL ini R g) {k : Fin 4} {x : Int32} (hd : decode cc pc = .ok (.istore_n k, 1)) (hi : (k : Nat) < L.length) (K : J (pc + 1) (L.set (k : Nat) (some (.int x))) st h cs sl) : J pc L (.int x :: st) h cs sl := by
  obtain ⟨p, e, s, m, args, below, meth, c, A, Q, rfl, hx, hb, hml, hown, hts, hK, hini, hA⟩ := hJ
  intro H locs ls hP hS hl
  exact lv_istore_n hx hb hd rfl hl.has hi rfl (fun ls2 hl2 => K H locs ls2 hP hS (hl.put rfl hl2))
theorem mB.istore (hJ : mB l J cc own nL ini R g) {i : Nat} {x : Int32} (hd : decode cc pc = .ok (.istore i, 2)) (hi : i < L.length) (K : J (pc + 2) (L.set i (some (.int x))) st h cs sl) : J pc L (.int x :: st) h cs sl := by
  obtain ⟨p, e, s, m, args, below, meth, c, A, Q, rfl, hx, hb, hml, hown, hts, hK, hini, hA⟩ := hJ
  intro H locs ls hP hS hl
  exact lv_istore hx hb hd hl.has hi rfl (fun ls2 hl2 => K H locs ls2 hP hS (hl.put rfl hl2))
theorem mB.astore_n (hJ : mB l J cc own nL ini R g) {k : Fin 4} {x : Nat} (hd : decode cc pc = .ok (.astore_n k, 1)) (hi : (k : Nat) < L.length) (K : J (pc + 1) (L.set (k : Nat) (some (.ref x))) st h cs sl) : J pc L (.ref x :: st) h cs sl := by
  obtain ⟨p, e, s, m, args, below, meth, c, A, Q, rfl, hx, hb, hml, hown, hts, hK, hini, hA⟩ := hJ
  intro H locs ls hP hS hl
  exact lv_astore_n hx hb hd rfl hl.has hi rfl (fun ls2 hl2 => K H locs ls2 hP hS (hl.put rfl hl2))
theorem mB.astore (hJ : mB l J cc own nL ini R g) {i : Nat} {x : Nat} (hd : decode cc pc = .ok (.astore i, 2)) (hi : i < L.length) (K : J (pc + 2) (L.set i (some (.ref x))) st h cs sl) : J pc L (.ref x :: st) h cs sl := by
  obtain ⟨p, e, s, m, args, below, meth, c, A, Q, rfl, hx, hb, hml, hown, hts, hK, hini, hA⟩ := hJ
  intro H locs ls hP hS hl
  exact lv_astore hx hb hd hl.has hi rfl (fun ls2 hl2 => K H locs ls2 hP hS (hl.put rfl hl2))
theorem mB.astore_nN (hJ : mB l J cc own nL ini R g) {k : Fin 4} (hd : decode cc pc = .ok (.astore_n k, 1)) (hi : (k : Nat) < L.length) (K : J (pc + 1) (L.set (k : Nat) (some (.null))) st h cs sl) : J pc L (.null :: st) h cs sl := by
  obtain ⟨p, e, s, m, args, below, meth, c, A, Q, rfl, hx, hb, hml, hown, hts, hK, hini, hA⟩ := hJ
  intro H locs ls hP hS hl
  exact lv_astore_nN hx hb hd rfl hl.has hi rfl (fun ls2 hl2 => K H locs ls2 hP hS (hl.put rfl hl2))
theorem mB.astoreN (hJ : mB l J cc own nL ini R g) {i : Nat} (hd : decode cc pc = .ok (.astore i, 2)) (hi : i < L.length) (K : J (pc + 2) (L.set i (some (.null))) st h cs sl) : J pc L (.null :: st) h cs sl := by
  obtain ⟨p, e, s, m, args, below, meth, c, A, Q, rfl, hx, hb, hml, hown, hts, hK, hini, hA⟩ := hJ
  intro H locs ls hP hS hl
  exact lv_astoreN hx hb hd hl.has hi rfl (fun ls2 hl2 => K H locs ls2 hP hS (hl.put rfl hl2))
theorem mLp_at {L : List (Option Value)} {i : Nat} {v : Value} (h : L[i]? = some (some v)) : ∃ k : Nat, (mLp L)[k]? = some (i, v) := List.getElem?_of_mem (mLp_mem h)
theorem mB.iinc (hJ : mB l J cc own nL ini R g) {i : Nat} {n : Int} {x v : Int32} (hd : decode cc pc = .ok (.iinc i n, 3)) (hv : L[i]? = some (some (.int x))) (hw : x + Int32.ofInt n = v) (K : J (pc + 3) (L.set i (some (.int v))) st h cs sl) : J pc L st h cs sl := by
  obtain ⟨p, e, s, m, args, below, meth, c, A, Q, rfl, hx, hb, hml, hown, hts, hK, hini, hA⟩ := hJ
  intro H locs ls hP hS hl
  obtain ⟨k, hk⟩ := mLp_at hv
  exact lv_iinc hx hb hd hl.has hk hw (List.getElem?_eq_some_iff.mp hv).1 rfl (fun ls2 hl2 => K H locs ls2 hP hS (hl.put rfl hl2))
theorem mB.iadd (hJ : mB l J cc own nL ini R g) {x y : Int32} (hd : decode cc pc = .ok (.iadd, 1)) (K : J (pc + 1) L (.int (x + y) :: st) h cs sl) : J pc L (.int y :: .int x :: st) h cs sl := by
  obtain ⟨p, e, s, m, args, below, meth, c, A, Q, rfl, hx, hb, hml, hown, hts, hK, hini, hA⟩ := hJ
  intro H locs ls hP hS hl
  exact lv_iadd hx hb hd (K H locs ls hP hS hl)
theorem mB.isub (hJ : mB l J cc own nL ini R g) {x y : Int32} (hd : decode cc pc = .ok (.isub, 1)) (K : J (pc + 1) L (.int (x - y) :: st) h cs sl) : J pc L (.int y :: .int x :: st) h cs sl := by
  obtain ⟨p, e, s, m, args, below, meth, c, A, Q, rfl, hx, hb, hml, hown, hts, hK, hini, hA⟩ := hJ
  intro H locs ls hP hS hl
  exact lv_isub hx hb hd (K H locs ls hP hS hl)
theorem mB.imul (hJ : mB l J cc own nL ini R g) {x y : Int32} (hd : decode cc pc = .ok (.imul, 1)) (K : J (pc + 1) L (.int (x * y) :: st) h cs sl) : J pc L (.int y :: .int x :: st) h cs sl := by
  obtain ⟨p, e, s, m, args, below, meth, c, A, Q, rfl, hx, hb, hml, hown, hts, hK, hini, hA⟩ := hJ
  intro H locs ls hP hS hl
  exact lv_imul hx hb hd (K H locs ls hP hS hl)
theorem mB.iand (hJ : mB l J cc own nL ini R g) {x y : Int32} (hd : decode cc pc = .ok (.iand, 1)) (K : J (pc + 1) L (.int (x &&& y) :: st) h cs sl) : J pc L (.int y :: .int x :: st) h cs sl := by
  obtain ⟨p, e, s, m, args, below, meth, c, A, Q, rfl, hx, hb, hml, hown, hts, hK, hini, hA⟩ := hJ
  intro H locs ls hP hS hl
  exact lv_iand hx hb hd (K H locs ls hP hS hl)
theorem mB.ineg (hJ : mB l J cc own nL ini R g) {x : Int32} (hd : decode cc pc = .ok (.ineg, 1)) (K : J (pc + 1) L (.int (-x) :: st) h cs sl) : J pc L (.int x :: st) h cs sl := by
  obtain ⟨p, e, s, m, args, below, meth, c, A, Q, rfl, hx, hb, hml, hown, hts, hK, hini, hA⟩ := hJ
  intro H locs ls hP hS hl
  exact lv_ineg hx hb hd (K H locs ls hP hS hl)
theorem mB.dup (hJ : mB l J cc own nL ini R g) {v : Value} (hd : decode cc pc = .ok (.dup, 1)) (hv : v.category = 1) (K : J (pc + 1) L (v :: v :: st) h cs sl) : J pc L (v :: st) h cs sl := by
  obtain ⟨p, e, s, m, args, below, meth, c, A, Q, rfl, hx, hb, hml, hown, hts, hK, hini, hA⟩ := hJ
  intro H locs ls hP hS hl
  exact lv_dup hx hb hd hv (K H locs ls hP hS hl)
theorem mB.pop (hJ : mB l J cc own nL ini R g) {v : Value} (hd : decode cc pc = .ok (.pop, 1)) (hv : v.category = 1) (K : J (pc + 1) L (st) h cs sl) : J pc L (v :: st) h cs sl := by
  obtain ⟨p, e, s, m, args, below, meth, c, A, Q, rfl, hx, hb, hml, hown, hts, hK, hini, hA⟩ := hJ
  intro H locs ls hP hS hl
  exact lv_pop hx hb hd hv (K H locs ls hP hS hl)
theorem mB.dup_x1 (hJ : mB l J cc own nL ini R g) {v u : Value} (hd : decode cc pc = .ok (.dup_x1, 1)) (hv : v.category = 1) (hu : u.category = 1) (K : J (pc + 1) L (v :: u :: v :: st) h cs sl) : J pc L (v :: u :: st) h cs sl := by
  obtain ⟨p, e, s, m, args, below, meth, c, A, Q, rfl, hx, hb, hml, hown, hts, hK, hini, hA⟩ := hJ
  intro H locs ls hP hS hl
  exact lv_dup_x1 hx hb hd hv hu (K H locs ls hP hS hl)
theorem mB.dup2 (hJ : mB l J cc own nL ini R g) {v u : Value} (hd : decode cc pc = .ok (.dup2, 1)) (hv : v.category = 1) (hu : u.category = 1) (K : J (pc + 1) L (v :: u :: v :: u :: st) h cs sl) : J pc L (v :: u :: st) h cs sl := by
  obtain ⟨p, e, s, m, args, below, meth, c, A, Q, rfl, hx, hb, hml, hown, hts, hK, hini, hA⟩ := hJ
  intro H locs ls hP hS hl
  exact lv_dup2_11 hx hb hd hv hu (K H locs ls hP hS hl)
theorem mB.i2l (hJ : mB l J cc own nL ini R g) {x : Int32} {v : Int64} (hd : decode cc pc = .ok (.i2l, 1)) (hv : x.toInt64 = v) (K : J (pc + 1) L (.long v :: st) h cs sl) : J pc L (.int x :: st) h cs sl := by
  obtain ⟨p, e, s, m, args, below, meth, c, A, Q, rfl, hx, hb, hml, hown, hts, hK, hini, hA⟩ := hJ
  intro H locs ls hP hS hl
  exact lv_i2l hx hb hd hv (K H locs ls hP hS hl)
theorem mB.i2c (hJ : mB l J cc own nL ini R g) {x v : Int32} (hd : decode cc pc = .ok (.i2c, 1)) (hv : (x.toUInt32 % 65536).toInt32 = v) (K : J (pc + 1) L (.int v :: st) h cs sl) : J pc L (.int x :: st) h cs sl := by
  obtain ⟨p, e, s, m, args, below, meth, c, A, Q, rfl, hx, hb, hml, hown, hts, hK, hini, hA⟩ := hJ
  intro H locs ls hP hS hl
  exact lv_i2c hx hb hd hv (K H locs ls hP hS hl)
theorem mB.lcmp (hJ : mB l J cc own nL ini R g) {x y : Int64} (hd : decode cc pc = .ok (.lcmp, 1)) (K : J (pc + 1) L (.int (lg_cmp x y) :: st) h cs sl) : J pc L (.long y :: .long x :: st) h cs sl := by
  obtain ⟨p, e, s, m, args, below, meth, c, A, Q, rfl, hx, hb, hml, hown, hts, hK, hini, hA⟩ := hJ
  intro H locs ls hP hS hl
  exact W.lcmp hx hb hd (K H locs ls hP hS hl)
theorem mB.anull (hJ : mB l J cc own nL ini R g) (hd : decode cc pc = .ok (.aconst_null, 1)) (K : J (pc + 1) L (.null :: st) h cs sl) : J pc L (st) h cs sl := by
  obtain ⟨p, e, s, m, args, below, meth, c, A, Q, rfl, hx, hb, hml, hown, hts, hK, hini, hA⟩ := hJ
  intro H locs ls hP hS hl
  exact lv_null hx hb hd (K H locs ls hP hS hl)
theorem mB.if_eq (hJ : mB l J cc own nL ini R g) {x : Int32} {off : Int} {tgt : Nat} (hd : decode cc pc = .ok (.ifCond .eq off, 3)) (ht : (pc : Int) + off = (tgt : Int)) (Kt : x = 0 → J tgt L st h cs sl) (Kf : ¬ x = 0 → J (pc + 3) L st h cs sl) : J pc L (.int x :: st) h cs sl := by
  obtain ⟨p, e, s, m, args, below, meth, c, A, Q, rfl, hx, hb, hml, hown, hts, hK, hini, hA⟩ := hJ
  intro H locs ls hP hS hl
  exact lv_if_eq hx hb hd ht (fun q => Kt q H locs ls hP hS hl) (fun q => Kf q H locs ls hP hS hl)
theorem mB.icmp_eq (hJ : mB l J cc own nL ini R g) {x y : Int32} {off : Int} {tgt : Nat} (hd : decode cc pc = .ok (.if_icmp .eq off, 3)) (ht : (pc : Int) + off = (tgt : Int)) (Kt : x = y → J tgt L st h cs sl) (Kf : ¬ x = y → J (pc + 3) L st h cs sl) : J pc L (.int y :: .int x :: st) h cs sl := by
  obtain ⟨p, e, s, m, args, below, meth, c, A, Q, rfl, hx, hb, hml, hown, hts, hK, hini, hA⟩ := hJ
  intro H locs ls hP hS hl
  exact lv_icmp_eq hx hb hd ht (fun q => Kt q H locs ls hP hS hl) (fun q => Kf q H locs ls hP hS hl)
theorem mB.if_ne (hJ : mB l J cc own nL ini R g) {x : Int32} {off : Int} {tgt : Nat} (hd : decode cc pc = .ok (.ifCond .ne off, 3)) (ht : (pc : Int) + off = (tgt : Int)) (Kt : ¬ x = 0 → J tgt L st h cs sl) (Kf : x = 0 → J (pc + 3) L st h cs sl) : J pc L (.int x :: st) h cs sl := by
  obtain ⟨p, e, s, m, args, below, meth, c, A, Q, rfl, hx, hb, hml, hown, hts, hK, hini, hA⟩ := hJ
  intro H locs ls hP hS hl
  exact lv_if_ne hx hb hd ht (fun q => Kt q H locs ls hP hS hl) (fun q => Kf q H locs ls hP hS hl)
theorem mB.icmp_ne (hJ : mB l J cc own nL ini R g) {x y : Int32} {off : Int} {tgt : Nat} (hd : decode cc pc = .ok (.if_icmp .ne off, 3)) (ht : (pc : Int) + off = (tgt : Int)) (Kt : ¬ x = y → J tgt L st h cs sl) (Kf : x = y → J (pc + 3) L st h cs sl) : J pc L (.int y :: .int x :: st) h cs sl := by
  obtain ⟨p, e, s, m, args, below, meth, c, A, Q, rfl, hx, hb, hml, hown, hts, hK, hini, hA⟩ := hJ
  intro H locs ls hP hS hl
  exact lv_icmp_ne hx hb hd ht (fun q => Kt q H locs ls hP hS hl) (fun q => Kf q H locs ls hP hS hl)
theorem mB.if_lt (hJ : mB l J cc own nL ini R g) {x : Int32} {off : Int} {tgt : Nat} (hd : decode cc pc = .ok (.ifCond .lt off, 3)) (ht : (pc : Int) + off = (tgt : Int)) (Kt : x < 0 → J tgt L st h cs sl) (Kf : ¬ x < 0 → J (pc + 3) L st h cs sl) : J pc L (.int x :: st) h cs sl := by
  obtain ⟨p, e, s, m, args, below, meth, c, A, Q, rfl, hx, hb, hml, hown, hts, hK, hini, hA⟩ := hJ
  intro H locs ls hP hS hl
  exact lv_if_lt hx hb hd ht (fun q => Kt q H locs ls hP hS hl) (fun q => Kf q H locs ls hP hS hl)
theorem mB.icmp_lt (hJ : mB l J cc own nL ini R g) {x y : Int32} {off : Int} {tgt : Nat} (hd : decode cc pc = .ok (.if_icmp .lt off, 3)) (ht : (pc : Int) + off = (tgt : Int)) (Kt : x < y → J tgt L st h cs sl) (Kf : ¬ x < y → J (pc + 3) L st h cs sl) : J pc L (.int y :: .int x :: st) h cs sl := by
  obtain ⟨p, e, s, m, args, below, meth, c, A, Q, rfl, hx, hb, hml, hown, hts, hK, hini, hA⟩ := hJ
  intro H locs ls hP hS hl
  exact lv_icmp_lt hx hb hd ht (fun q => Kt q H locs ls hP hS hl) (fun q => Kf q H locs ls hP hS hl)
theorem mB.if_ge (hJ : mB l J cc own nL ini R g) {x : Int32} {off : Int} {tgt : Nat} (hd : decode cc pc = .ok (.ifCond .ge off, 3)) (ht : (pc : Int) + off = (tgt : Int)) (Kt : 0 ≤ x → J tgt L st h cs sl) (Kf : ¬ 0 ≤ x → J (pc + 3) L st h cs sl) : J pc L (.int x :: st) h cs sl := by
  obtain ⟨p, e, s, m, args, below, meth, c, A, Q, rfl, hx, hb, hml, hown, hts, hK, hini, hA⟩ := hJ
  intro H locs ls hP hS hl
  exact lv_if_ge hx hb hd ht (fun q => Kt q H locs ls hP hS hl) (fun q => Kf q H locs ls hP hS hl)
theorem mB.icmp_ge (hJ : mB l J cc own nL ini R g) {x y : Int32} {off : Int} {tgt : Nat} (hd : decode cc pc = .ok (.if_icmp .ge off, 3)) (ht : (pc : Int) + off = (tgt : Int)) (Kt : y ≤ x → J tgt L st h cs sl) (Kf : ¬ y ≤ x → J (pc + 3) L st h cs sl) : J pc L (.int y :: .int x :: st) h cs sl := by
  obtain ⟨p, e, s, m, args, below, meth, c, A, Q, rfl, hx, hb, hml, hown, hts, hK, hini, hA⟩ := hJ
  intro H locs ls hP hS hl
  exact lv_icmp_ge hx hb hd ht (fun q => Kt q H locs ls hP hS hl) (fun q => Kf q H locs ls hP hS hl)
theorem mB.if_gt (hJ : mB l J cc own nL ini R g) {x : Int32} {off : Int} {tgt : Nat} (hd : decode cc pc = .ok (.ifCond .gt off, 3)) (ht : (pc : Int) + off = (tgt : Int)) (Kt : 0 < x → J tgt L st h cs sl) (Kf : ¬ 0 < x → J (pc + 3) L st h cs sl) : J pc L (.int x :: st) h cs sl := by
  obtain ⟨p, e, s, m, args, below, meth, c, A, Q, rfl, hx, hb, hml, hown, hts, hK, hini, hA⟩ := hJ
  intro H locs ls hP hS hl
  exact lv_if_gt hx hb hd ht (fun q => Kt q H locs ls hP hS hl) (fun q => Kf q H locs ls hP hS hl)
theorem mB.icmp_gt (hJ : mB l J cc own nL ini R g) {x y : Int32} {off : Int} {tgt : Nat} (hd : decode cc pc = .ok (.if_icmp .gt off, 3)) (ht : (pc : Int) + off = (tgt : Int)) (Kt : y < x → J tgt L st h cs sl) (Kf : ¬ y < x → J (pc + 3) L st h cs sl) : J pc L (.int y :: .int x :: st) h cs sl := by
  obtain ⟨p, e, s, m, args, below, meth, c, A, Q, rfl, hx, hb, hml, hown, hts, hK, hini, hA⟩ := hJ
  intro H locs ls hP hS hl
  exact lv_icmp_gt hx hb hd ht (fun q => Kt q H locs ls hP hS hl) (fun q => Kf q H locs ls hP hS hl)
theorem mB.if_le (hJ : mB l J cc own nL ini R g) {x : Int32} {off : Int} {tgt : Nat} (hd : decode cc pc = .ok (.ifCond .le off, 3)) (ht : (pc : Int) + off = (tgt : Int)) (Kt : x ≤ 0 → J tgt L st h cs sl) (Kf : ¬ x ≤ 0 → J (pc + 3) L st h cs sl) : J pc L (.int x :: st) h cs sl := by
  obtain ⟨p, e, s, m, args, below, meth, c, A, Q, rfl, hx, hb, hml, hown, hts, hK, hini, hA⟩ := hJ
  intro H locs ls hP hS hl
  exact lv_if_le hx hb hd ht (fun q => Kt q H locs ls hP hS hl) (fun q => Kf q H locs ls hP hS hl)
theorem mB.icmp_le (hJ : mB l J cc own nL ini R g) {x y : Int32} {off : Int} {tgt : Nat} (hd : decode cc pc = .ok (.if_icmp .le off, 3)) (ht : (pc : Int) + off = (tgt : Int)) (Kt : x ≤ y → J tgt L st h cs sl) (Kf : ¬ x ≤ y → J (pc + 3) L st h cs sl) : J pc L (.int y :: .int x :: st) h cs sl := by
  obtain ⟨p, e, s, m, args, below, meth, c, A, Q, rfl, hx, hb, hml, hown, hts, hK, hini, hA⟩ := hJ
  intro H locs ls hP hS hl
  exact lv_icmp_le hx hb hd ht (fun q => Kt q H locs ls hP hS hl) (fun q => Kf q H locs ls hP hS hl)
end MBR
