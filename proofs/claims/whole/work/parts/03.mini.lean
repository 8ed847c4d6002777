abbrev mO (ci : Nat) (fs : List Value) : va_E := .inr (ci, fs)
abbrev mAI (g : mG) (t n : Nat) (f : Nat → Int32) : va_E := .inl (g.2 t, n, .inl f)
abbrev mAL (g : mG) (n : Nat) (f : Nat → Int64) : va_E := .inl (g.2 1, n, .inr (.inl f))
abbrev mAR (g : mG) (t n : Nat) (f : Nat → Option Nat) : va_E := .inl (g.2 t, n, .inr (.inr (.inr (.inr f))))
def mFd (ci : Nat) (C : String) (T : u_T) (N : Nat) (ty : Nat → FieldType) : Prop := vwCl[ci]? = some (C, T, N) ∧ (∀ w ∈ u_ws C T N, w ∈ mWS) ∧ (∀ k, k < N → parseFieldDescriptor (T k).2.2.1 = some (ty k)) ∧ (∀ a, a < N → ∀ b, b < N → a ≠ b → (T a).2.1 ≠ (T b).2.1) ∧ (∀ k, k < N → (T k).1 = C)
def mFl (own : String) (idx ci k : Nat) (fin : Bool) (t : FieldType) : Prop := ∃ (C : String) (T : u_T) (N : Nat) (ty : Nat → FieldType), mFd ci C T N ty ∧ k < N ∧ Cond.fieldLink own idx C (T k).2.1 (T k).2.2.1 ∈ mWS ∧ (T k).2.2.2 = fin ∧ parseFieldDescriptor (T k).2.2.1 = some t ∧ (fin = true → C = own)
def mFn (own : String) (idx ci k : Nat) (fin : Bool) (t : FieldType) : Prop := ∃ (C : String) (T : u_T) (N : Nat) (ty : Nat → FieldType) (host : String), mFd ci C T N ty ∧ k < N ∧ (own, idx, C, (T k).2.1, (T k).2.2.1, host) ∈ mNF ∧ (T k).2.2.2 = fin ∧ parseFieldDescriptor (T k).2.2.1 = some t
def mNw (own : String) (idx ci : Nat) (fs : List Value) : Prop := ∃ (C : String) (T : u_T) (N : Nat) (ty : Nat → FieldType), mFd ci C T N ty ∧ Cond.classLink own idx C ∈ mWS ∧ Cond.instantiable C N ∈ mWS ∧ Cond.initialized C ∈ mWS ∧ fs.length = N ∧ ∀ j, j < N → defaultValue (ty j) = vp_V fs j
def mLk (y : MethodName) (n : Nat) : Prop := (y.cls ≠ "java/lang/invoke/MethodHandle" ∧ y.cls ≠ "java/lang/invoke/VarHandle") ∧ (parseMethodDescriptor y.desc).map (fun d => d.parameters.length) = some n ∧ Cond.initialized y.cls ∈ mWS
def mLkV (own : String) (idx : Nat) (y : MethodName) (n : Nat) : Prop := mLk y n ∧ Cond.methodLink own idx y ∈ mWS ∧ Cond.instanceMethod y ∈ mWS ∧ Cond.selects y.cls y y ∈ mWS
def mLkVN (own : String) (idx : Nat) (y : MethodName) (n : Nat) : Prop := mLk y n ∧ (∃ host : String, (own, idx, y, host) ∈ mNM) ∧ Cond.instanceMethod y ∈ mWS ∧ Cond.selects y.cls y y ∈ mWS
def mLkS (own : String) (idx : Nat) (y : MethodName) (n : Nat) : Prop := mLk y n ∧ Cond.methodLink own idx y ∈ mWS ∧ Cond.static y ∈ mWS
def mLkSN (own : String) (idx : Nat) (y : MethodName) (n : Nat) : Prop := mLk y n ∧ (∃ host : String, (own, idx, y, host) ∈ mNM) ∧ Cond.static y ∈ mWS
def mLkI (own : String) (idx : Nat) (y : MethodName) (n : Nat) : Prop := mLk y n ∧ Cond.methodLink own idx y ∈ mWS ∧ y.name = "<init>" ∧ Cond.instanceMethod y ∈ mWS
def mLkIN (own : String) (idx : Nat) (y : MethodName) (n : Nat) : Prop := mLk y n ∧ (∃ host : String, (own, idx, y, host) ∈ mNM) ∧ y.name = "<init>" ∧ Cond.instanceMethod y ∈ mWS
def mCd (y : MethodName) (cc : ByteArray) (nL : Nat) (ret : Option FieldType) : Prop := Cond.code y cc nL ret ∈ mWS
theorem mWarm {s : State} {args : Array Value} {y : MethodName} {cc : ByteArray} {nL : Nat} {ret : Option FieldType} (hts : ∀ w ∈ mWS, w.before args s = true) (hcd : mCd y cc nL ret) : ∀ w ∈ Cond.code y cc nL ret :: mWS, ∀ (a' : Array Value) (U : State), s.WarmedH U.vm → w.before a' U = true := by
  intro w hw a' U hW
  have hm : w ∈ mWS := by
    rcases List.mem_cons.mp hw with h | h
    · rw [h]; exact hcd
    · exact h
  exact word_at hW (mWS_good w hm) (hts w hm)
theorem mLk.len {y : MethodName} {n : Nat} (h : mLk y n) : ∀ sig, parseMethodDescriptor y.desc = some sig → n = sig.parameters.length := by
  intro sig q
  have h2 := h.2.1
  rw [q] at h2
  exact (Option.some.inj h2).symm
section MB2
variable {l : Launch} {J : mJt} {cc : ByteArray} {own : String} {nL : Nat} {ini : Bool} {R : Room} {g : mG} {pc : Nat} {L : List (Option Value)} {st : List Value} {h : mHp} {cs sl : Nat}
theorem mB.getf (hJ : mB l J cc own nL ini R g) {idx ci k a : Nat} {fin : Bool} {t : FieldType} {fs : List Value} {v : Value} (lk : mFl own idx ci k fin t) (hd : decode cc pc = .ok (.getfield idx, 3)) (ha : h a = some (mO ci fs)) (hv : fs[k]? = some v) (K : J (pc + 3) L (v :: st) h cs sl) : J pc L (.ref a :: st) h cs sl := by
  obtain ⟨p, e, s, m, args, below, meth, c, A, Q, rfl, hx, hb, hml, hown, hts, hK, hini, hA⟩ := hJ
  intro H locs ls hP hS hl
  obtain ⟨C, T, N, ty, F, hk, hlk, hfin, -, -⟩ := lk
  exact va_get (own := own) hx hb hts F.2.1 hown hK.1 (hP.one ha) 0 rfl F.1 k hk (hts _ hlk) (fun x q => by rw [← F.2.2.2.2 k hk]; exact q) hv hd (K H locs ls hP hS hl)
theorem mB.getn (hJ : mB l J cc own nL ini R g) {idx ci k a : Nat} {fin : Bool} {t : FieldType} {fs : List Value} {v : Value} (lk : mFn own idx ci k fin t) (hd : decode cc pc = .ok (.getfield idx, 3)) (ha : h a = some (mO ci fs)) (hv : fs[k]? = some v) (K : J (pc + 3) L (v :: st) h cs sl) : J pc L (.ref a :: st) h cs sl := by
  obtain ⟨p, e, s, m, args, below, meth, c, A, Q, rfl, hx, hb, hml, hown, hts, hK, hini, hA⟩ := hJ
  intro H locs ls hP hS hl
  obtain ⟨C, T, N, ty, host, F, hk, hlk, hfin, -⟩ := lk
  exact va_getN (own := own) hx hb hts F.2.1 hown hK.1 (hP.one ha) 0 rfl F.1 k hk (va_Nw.use rfl (hK.2.1 _ hlk)) (fun x q => by rw [← F.2.2.2.2 k hk]; exact q) hv hd (K H locs ls hP hS hl)
theorem mB.putf (hJ : mB l J cc own nL ini R g) {idx ci k a : Nat} {t : FieldType} {fs fs2 : List Value} {v : Value} (lk : mFl own idx ci k false t) (hd : decode cc pc = .ok (.putfield idx, 3)) (ha : h a = some (mO ci fs)) (hn : narrow t v = v) (hf : fits t v = true) (hkl : k < fs.length) (he : fs.set k v = fs2) (K : J (pc + 3) L st (mU h a (mO ci fs2)) cs sl) : J pc L (v :: .ref a :: st) h cs sl := by
  obtain ⟨p, e, s, m, args, below, meth, c, A, Q, rfl, hx, hb, hml, hown, hts, hK, hini, hA⟩ := hJ
  intro H locs ls hP hS hl
  obtain ⟨C, T, N, ty, F, hk, hlk, hfin, hpt, -⟩ := lk
  subst he
  obtain ⟨ws, hPw, hDw, cov⟩ := hP.list
  obtain ⟨k0, hk0⟩ := cov a _ ha
  exact va_put (own := own) hx hb hts F.2.1 ty F.2.2.1 F.2.2.2.1 hown hK.1 hPw hDw hS k0 hk0 F.1 k hk (hts _ hlk) (fun x q => by rw [← F.2.2.2.2 k hk]; exact q) hfin hpt hn hf hkl hd (fun H1 locs1 hP1 hD1 hS1 => K H1 locs1 ls (mP.back cov hk0 hP1 hD1) hS1 hl)
theorem mB.putn (hJ : mB l J cc own nL ini R g) {idx ci k a : Nat} {t : FieldType} {fs fs2 : List Value} {v : Value} (lk : mFn own idx ci k false t) (hd : decode cc pc = .ok (.putfield idx, 3)) (ha : h a = some (mO ci fs)) (hn : narrow t v = v) (hf : fits t v = true) (hkl : k < fs.length) (he : fs.set k v = fs2) (K : J (pc + 3) L st (mU h a (mO ci fs2)) cs sl) : J pc L (v :: .ref a :: st) h cs sl := by
  obtain ⟨p, e, s, m, args, below, meth, c, A, Q, rfl, hx, hb, hml, hown, hts, hK, hini, hA⟩ := hJ
  intro H locs ls hP hS hl
  obtain ⟨C, T, N, ty, host, F, hk, hlk, hfin, hpt⟩ := lk
  subst he
  obtain ⟨ws, hPw, hDw, cov⟩ := hP.list
  obtain ⟨k0, hk0⟩ := cov a _ ha
  exact va_putN (own := own) hx hb hts F.2.1 ty F.2.2.1 F.2.2.2.1 hown hK.1 hPw hDw hS k0 hk0 F.1 k hk (va_Nw.use rfl (hK.2.1 _ hlk)) (fun x q => by rw [← F.2.2.2.2 k hk]; exact q) hfin hpt hn hf hkl hd (fun H1 locs1 hP1 hD1 hS1 => K H1 locs1 ls (mP.back cov hk0 hP1 hD1) hS1 hl)
theorem mB.putF (hJ : mB l J cc own nL ini R g) {idx ci k a : Nat} {t : FieldType} {fs fs2 : List Value} {v : Value} (lk : mFl own idx ci k true t) (hi : ini = true) (hd : decode cc pc = .ok (.putfield idx, 3)) (ha : h a = some (mO ci fs)) (hn : narrow t v = v) (hf : fits t v = true) (hkl : k < fs.length) (he : fs.set k v = fs2) (K : J (pc + 3) L st (mU h a (mO ci fs2)) cs sl) : J pc L (v :: .ref a :: st) h cs sl := by
  obtain ⟨p, e, s, m, args, below, meth, c, A, Q, rfl, hx, hb, hml, hown, hts, hK, hini, hA⟩ := hJ
  intro H locs ls hP hS hl
  obtain ⟨C, T, N, ty, F, hk, hlk, hfin, hpt, hCo⟩ := lk
  subst he
  obtain ⟨ws, hPw, hDw, cov⟩ := hP.list
  obtain ⟨k0, hk0⟩ := cov a _ ha
  exact va_putF (own := own) hx hb hts F.2.1 ty F.2.2.1 F.2.2.2.1 hown hK.1 hPw hDw hS k0 hk0 F.1 k hk (hts _ hlk) (fun x q => by rw [← F.2.2.2.2 k hk]; exact q) hfin (hini hi) (by rw [F.2.2.2.2 k hk]; exact hCo rfl) hpt hn hf hkl hd (fun H1 locs1 hP1 hD1 hS1 => K H1 locs1 ls (mP.back cov hk0 hP1 hD1) hS1 hl)
theorem mB.iald (hJ : mB l J cc own nL ini R g) {a n : Nat} {f : Nat → Int32} {i : Int32} (hd : decode cc pc = .ok (.iaload, 1)) (ha : h a = some (mAI g 0 n f)) (hin : vp_in i n) (K : J (pc + 1) L (.int (f i.toNatClampNeg) :: st) h cs sl) : J pc L (.int i :: .ref a :: st) h cs sl := by
  obtain ⟨p, e, s, m, args, below, meth, c, A, Q, rfl, hx, hb, hml, hown, hts, hK, hini, hA⟩ := hJ
  intro H locs ls hP hS hl
  exact va_iald hx hb hK.1 (hP.one ha) 0 0 rfl rfl hin hd (K H locs ls hP hS hl)
theorem mB.cald (hJ : mB l J cc own nL ini R g) {a n : Nat} {f : Nat → Int32} {i : Int32} (hd : decode cc pc = .ok (.caload, 1)) (ha : h a = some (mAI g 2 n f)) (hin : vp_in i n) (K : J (pc + 1) L (.int (f i.toNatClampNeg) :: st) h cs sl) : J pc L (.int i :: .ref a :: st) h cs sl := by
  obtain ⟨p, e, s, m, args, below, meth, c, A, Q, rfl, hx, hb, hml, hown, hts, hK, hini, hA⟩ := hJ
  intro H locs ls hP hS hl
  exact va_cald hx hb hK.1 (hP.one ha) 0 2 rfl rfl hin hd (K H locs ls hP hS hl)
theorem mB.zald (hJ : mB l J cc own nL ini R g) {a n : Nat} {f : Nat → Int32} {i : Int32} (hd : decode cc pc = .ok (.baload, 1)) (ha : h a = some (mAI g 3 n f)) (hin : vp_in i n) (K : J (pc + 1) L (.int (f i.toNatClampNeg) :: st) h cs sl) : J pc L (.int i :: .ref a :: st) h cs sl := by
  obtain ⟨p, e, s, m, args, below, meth, c, A, Q, rfl, hx, hb, hml, hown, hts, hK, hini, hA⟩ := hJ
  intro H locs ls hP hS hl
  exact va_zald hx hb hK.1 (hP.one ha) 0 3 rfl rfl hin hd (K H locs ls hP hS hl)
theorem mB.lald (hJ : mB l J cc own nL ini R g) {a n : Nat} {f : Nat → Int64} {i : Int32} (hd : decode cc pc = .ok (.laload, 1)) (ha : h a = some (mAL g n f)) (hin : vp_in i n) (K : J (pc + 1) L (.long (f i.toNatClampNeg) :: st) h cs sl) : J pc L (.int i :: .ref a :: st) h cs sl := by
  obtain ⟨p, e, s, m, args, below, meth, c, A, Q, rfl, hx, hb, hml, hown, hts, hK, hini, hA⟩ := hJ
  intro H locs ls hP hS hl
  exact va_lald hx hb hK.1 (hP.one ha) 0 1 rfl rfl hin hd (K H locs ls hP hS hl)
theorem mB.iast (hJ : mB l J cc own nL ini R g) {a n : Nat} {f : Nat → Int32} {i x : Int32} (hd : decode cc pc = .ok (.iastore, 1)) (ha : h a = some (mAI g 0 n f)) (hin : vp_in i n) (K : J (pc + 1) L st (mU h a (mAI g 0 n (upd f i.toNatClampNeg x))) cs sl) : J pc L (.int x :: .int i :: .ref a :: st) h cs sl := by
  obtain ⟨p, e, s, m, args, below, meth, c, A, Q, rfl, hx, hb, hml, hown, hts, hK, hini, hA⟩ := hJ
  intro H locs ls hP hS hl
  obtain ⟨ws, hPw, hDw, cov⟩ := hP.list
  obtain ⟨k0, hk0⟩ := cov a _ ha
  exact va_iast hx hb hK.1 hPw hDw hS k0 0 hk0 rfl hin hd (fun H1 locs1 hP1 hD1 hS1 => K H1 locs1 ls (mP.back cov hk0 hP1 hD1) hS1 hl)
theorem mB.cast (hJ : mB l J cc own nL ini R g) {a n : Nat} {f : Nat → Int32} {i x : Int32} (hd : decode cc pc = .ok (.castore, 1)) (ha : h a = some (mAI g 2 n f)) (hin : vp_in i n) (K : J (pc + 1) L st (mU h a (mAI g 2 n (upd f i.toNatClampNeg (vp_nar .char x)))) cs sl) : J pc L (.int x :: .int i :: .ref a :: st) h cs sl := by
  obtain ⟨p, e, s, m, args, below, meth, c, A, Q, rfl, hx, hb, hml, hown, hts, hK, hini, hA⟩ := hJ
  intro H locs ls hP hS hl
  obtain ⟨ws, hPw, hDw, cov⟩ := hP.list
  obtain ⟨k0, hk0⟩ := cov a _ ha
  exact va_cast hx hb hK.1 hPw hDw hS k0 2 hk0 rfl hin hd (fun H1 locs1 hP1 hD1 hS1 => K H1 locs1 ls (mP.back cov hk0 hP1 hD1) hS1 hl)
theorem mB.zast (hJ : mB l J cc own nL ini R g) {a n : Nat} {f : Nat → Int32} {i x : Int32} (hd : decode cc pc = .ok (.bastore, 1)) (ha : h a = some (mAI g 3 n f)) (hin : vp_in i n) (K : J (pc + 1) L st (mU h a (mAI g 3 n (upd f i.toNatClampNeg (vp_nar .boolean x)))) cs sl) : J pc L (.int x :: .int i :: .ref a :: st) h cs sl := by
  obtain ⟨p, e, s, m, args, below, meth, c, A, Q, rfl, hx, hb, hml, hown, hts, hK, hini, hA⟩ := hJ
  intro H locs ls hP hS hl
  obtain ⟨ws, hPw, hDw, cov⟩ := hP.list
  obtain ⟨k0, hk0⟩ := cov a _ ha
  exact va_zast hx hb hK.1 hPw hDw hS k0 3 hk0 rfl hin hd (fun H1 locs1 hP1 hD1 hS1 => K H1 locs1 ls (mP.back cov hk0 hP1 hD1) hS1 hl)
theorem mB.last (hJ : mB l J cc own nL ini R g) {a n : Nat} {f : Nat → Int64} {i : Int32} {x : Int64} (hd : decode cc pc = .ok (.lastore, 1)) (ha : h a = some (mAL g n f)) (hin : vp_in i n) (K : J (pc + 1) L st (mU h a (mAL g n (vp_updL f i.toNatClampNeg x))) cs sl) : J pc L (.long x :: .int i :: .ref a :: st) h cs sl := by
  obtain ⟨p, e, s, m, args, below, meth, c, A, Q, rfl, hx, hb, hml, hown, hts, hK, hini, hA⟩ := hJ
  intro H locs ls hP hS hl
  obtain ⟨ws, hPw, hDw, cov⟩ := hP.list
  obtain ⟨k0, hk0⟩ := cov a _ ha
  exact va_last hx hb hK.1 hPw hDw hS k0 1 hk0 rfl hin hd (fun H1 locs1 hP1 hD1 hS1 => K H1 locs1 ls (mP.back cov hk0 hP1 hD1) hS1 hl)
theorem mB.aald4 (hJ : mB l J cc own nL ini R g) {a n : Nat} {f : Nat → Option Nat} {i : Int32} (hd : decode cc pc = .ok (.aaload, 1)) (ha : h a = some (mAR g 4 n f)) (hin : vp_in i n) (K : J (pc + 1) L (va_rf (f i.toNatClampNeg) :: st) h cs sl) : J pc L (.int i :: .ref a :: st) h cs sl := by
  obtain ⟨p, e, s, m, args, below, meth, c, A, Q, rfl, hx, hb, hml, hown, hts, hK, hini, hA⟩ := hJ
  intro H locs ls hP hS hl
  exact va_aldq hx hb hK.1 (hP.one ha) 0 4 rfl rfl hin hd (K H locs ls hP hS hl)
theorem mB.aast4 (hJ : mB l J cc own nL ini R g) {a n ci v : Nat} {vs : List Value} {r : vw_C} {f : Nat → Option Nat} {i : Int32} (hd : decode cc pc = .ok (.aastore, 1)) (ha : h a = some (mAR g 4 n f)) (hc : vwCl[ci]? = some r) (hr : r.1 = "PatternWatch$Run") (hv : h v = some (mO ci vs)) (hin : vp_in i n) (K : J (pc + 1) L st (mU h a (mAR g 4 n (va_up f i.toNatClampNeg (some v)))) cs sl) : J pc L (.ref v :: .int i :: .ref a :: st) h cs sl := by
  obtain ⟨p, e, s, m, args, below, meth, c, A, Q, rfl, hx, hb, hml, hown, hts, hK, hini, hA⟩ := hJ
  intro H locs ls hP hS hl
  obtain ⟨ws, hPw, hDw, cov⟩ := hP.list
  obtain ⟨k0, hk0⟩ := cov a _ ha
  obtain ⟨k1, hk1⟩ := cov v _ hv
  exact va_astq hx hb hK.1 hPw hDw hS k0 4 k1 ci hk0 (by rw [hr]; rfl) hk1 hc hin hd (fun H1 locs1 hP1 hD1 hS1 => K H1 locs1 ls (mP.back cov hk0 hP1 hD1) hS1 hl)
theorem mB.aald5 (hJ : mB l J cc own nL ini R g) {a n : Nat} {f : Nat → Option Nat} {i : Int32} (hd : decode cc pc = .ok (.aaload, 1)) (ha : h a = some (mAR g 5 n f)) (hin : vp_in i n) (K : J (pc + 1) L (va_rf (f i.toNatClampNeg) :: st) h cs sl) : J pc L (.int i :: .ref a :: st) h cs sl := by
  obtain ⟨p, e, s, m, args, below, meth, c, A, Q, rfl, hx, hb, hml, hown, hts, hK, hini, hA⟩ := hJ
  intro H locs ls hP hS hl
  exact va_aldq hx hb hK.1 (hP.one ha) 0 5 rfl rfl hin hd (K H locs ls hP hS hl)
theorem mB.aast5 (hJ : mB l J cc own nL ini R g) {a n ci v : Nat} {vs : List Value} {r : vw_C} {f : Nat → Option Nat} {i : Int32} (hd : decode cc pc = .ok (.aastore, 1)) (ha : h a = some (mAR g 5 n f)) (hc : vwCl[ci]? = some r) (hr : r.1 = "PatternWatch$Element") (hv : h v = some (mO ci vs)) (hin : vp_in i n) (K : J (pc + 1) L st (mU h a (mAR g 5 n (va_up f i.toNatClampNeg (some v)))) cs sl) : J pc L (.ref v :: .int i :: .ref a :: st) h cs sl := by
  obtain ⟨p, e, s, m, args, below, meth, c, A, Q, rfl, hx, hb, hml, hown, hts, hK, hini, hA⟩ := hJ
  intro H locs ls hP hS hl
  obtain ⟨ws, hPw, hDw, cov⟩ := hP.list
  obtain ⟨k0, hk0⟩ := cov a _ ha
  obtain ⟨k1, hk1⟩ := cov v _ hv
  exact va_astq hx hb hK.1 hPw hDw hS k0 5 k1 ci hk0 (by rw [hr]; rfl) hk1 hc hin hd (fun H1 locs1 hP1 hD1 hS1 => K H1 locs1 ls (mP.back cov hk0 hP1 hD1) hS1 hl)
theorem mB.new (hJ : mB l J cc own nL ini R g) {idx ci : Nat} {fs : List Value} (hn : mNw own idx ci fs) (hd : decode cc pc = .ok (.new idx, 3)) (hc : cs + 1 ≤ R.cells) (hs : sl + fs.length ≤ R.slots) (K : ∀ q : Nat, h q = none → J (pc + 3) L (.ref q :: st) (mU h q (mO ci fs)) (cs + 1) (sl + fs.length)) : J pc L st h cs sl := by
  obtain ⟨p, e, s, m, args, below, meth, c, A, Q, rfl, hx, hb, hml, hown, hts, hK, hini, hA⟩ := hJ
  intro H locs ls hP hS hl
  obtain ⟨C, T, N, ty, F, q1, q2, q3, rfl, q5⟩ := hn
  obtain ⟨ws, hPw, hDw, cov⟩ := hP.list
  exact va_new (ci := ci) (fs := fs) (own := own) hx hb hts F.2.1 ty F.2.2.1 hown (hts _ q1) (hts _ q2) (hts _ q3) hK.1 hPw hDw hS hA F.1 q5 hc hs hd (fun q H1 hP1 hD1 hS1 => K q (mP.push (g := g) cov hP1 hD1).2 H1 locs ls (mP.push (g := g) cov hP1 hD1).1 hS1 hl)
theorem mB.newI (hJ : mB l J cc own nL ini R g) {n : Int32} {N : Nat} (hw : Cond.arrayClass .int ∈ mWS) (hd : decode cc pc = .ok (.newarray .int, 2)) (hn : ¬ n < 0) (hN : n.toNatClampNeg = N) (hby : N * componentBytes .int ≤ 536870912) (hc : cs + 1 ≤ R.cells) (hs : sl + N ≤ R.slots) (K : ∀ q : Nat, h q = none → J (pc + 2) L (.ref q :: st) (mU h q (mAI g 0 N (fun _ => 0))) (cs + 1) (sl + N)) : J pc L (.int n :: st) h cs sl := by
  obtain ⟨p, e, s, m, args, below, meth, c, A, Q, rfl, hx, hb, hml, hown, hts, hK, hini, hA⟩ := hJ
  intro H locs ls hP hS hl
  obtain ⟨ws, hPw, hDw, cov⟩ := hP.list
  refine va_newa (atype := .int) (ty := .int) (a0 := (N, .inl (fun _ => 0))) hx hb (hts _ hw) rfl hK.1 hPw hDw hS hA (fun cA => rfl) hn hN hby hc hs hd (fun q cA H1 hK1 hP1 hD1 hS1 => ?_)
  have e1 : s.vm.findClass ("[" ++ (FieldType.int).toString) = some cA := (hK1.2 6 (cA, .int) rfl).2
  have e2 : s.vm.findClass ("[" ++ (FieldType.int).toString) = some (g.2 0) := (hK.1.2 0 (g.2 0, .int) rfl).2
  have e3 : cA = g.2 0 := Option.some.inj (e1.symm.trans e2)
  subst e3
  exact K q (mP.push (g := g) cov hP1 hD1).2 H1 locs ls (mP.push (g := g) cov hP1 hD1).1 hS1 hl
theorem mB.newJ (hJ : mB l J cc own nL ini R g) {n : Int32} {N : Nat} (hw : Cond.arrayClass .long ∈ mWS) (hd : decode cc pc = .ok (.newarray .long, 2)) (hn : ¬ n < 0) (hN : n.toNatClampNeg = N) (hby : N * componentBytes .long ≤ 536870912) (hc : cs + 1 ≤ R.cells) (hs : sl + N ≤ R.slots) (K : ∀ q : Nat, h q = none → J (pc + 2) L (.ref q :: st) (mU h q (mAL g N (fun _ => 0))) (cs + 1) (sl + N)) : J pc L (.int n :: st) h cs sl := by
  obtain ⟨p, e, s, m, args, below, meth, c, A, Q, rfl, hx, hb, hml, hown, hts, hK, hini, hA⟩ := hJ
  intro H locs ls hP hS hl
  obtain ⟨ws, hPw, hDw, cov⟩ := hP.list
  refine va_newa (atype := .long) (ty := .long) (a0 := (N, .inr (.inl (fun _ => 0)))) hx hb (hts _ hw) rfl hK.1 hPw hDw hS hA (fun cA => rfl) hn hN hby hc hs hd (fun q cA H1 hK1 hP1 hD1 hS1 => ?_)
  have e1 : s.vm.findClass ("[" ++ (FieldType.long).toString) = some cA := (hK1.2 6 (cA, .long) rfl).2
  have e2 : s.vm.findClass ("[" ++ (FieldType.long).toString) = some (g.2 1) := (hK.1.2 1 (g.2 1, .long) rfl).2
  have e3 : cA = g.2 1 := Option.some.inj (e1.symm.trans e2)
  subst e3
  exact K q (mP.push (g := g) cov hP1 hD1).2 H1 locs ls (mP.push (g := g) cov hP1 hD1).1 hS1 hl
theorem mB.newC (hJ : mB l J cc own nL ini R g) {n : Int32} {N : Nat} (hw : Cond.arrayClass .char ∈ mWS) (hd : decode cc pc = .ok (.newarray .char, 2)) (hn : ¬ n < 0) (hN : n.toNatClampNeg = N) (hby : N * componentBytes .char ≤ 536870912) (hc : cs + 1 ≤ R.cells) (hs : sl + N ≤ R.slots) (K : ∀ q : Nat, h q = none → J (pc + 2) L (.ref q :: st) (mU h q (mAI g 2 N (fun _ => 0))) (cs + 1) (sl + N)) : J pc L (.int n :: st) h cs sl := by
  obtain ⟨p, e, s, m, args, below, meth, c, A, Q, rfl, hx, hb, hml, hown, hts, hK, hini, hA⟩ := hJ
  intro H locs ls hP hS hl
  obtain ⟨ws, hPw, hDw, cov⟩ := hP.list
  refine va_newa (atype := .char) (ty := .char) (a0 := (N, .inl (fun _ => 0))) hx hb (hts _ hw) rfl hK.1 hPw hDw hS hA (fun cA => rfl) hn hN hby hc hs hd (fun q cA H1 hK1 hP1 hD1 hS1 => ?_)
  have e1 : s.vm.findClass ("[" ++ (FieldType.char).toString) = some cA := (hK1.2 6 (cA, .char) rfl).2
  have e2 : s.vm.findClass ("[" ++ (FieldType.char).toString) = some (g.2 2) := (hK.1.2 2 (g.2 2, .char) rfl).2
  have e3 : cA = g.2 2 := Option.some.inj (e1.symm.trans e2)
  subst e3
  exact K q (mP.push (g := g) cov hP1 hD1).2 H1 locs ls (mP.push (g := g) cov hP1 hD1).1 hS1 hl
theorem mB.newZ (hJ : mB l J cc own nL ini R g) {n : Int32} {N : Nat} (hw : Cond.arrayClass .boolean ∈ mWS) (hd : decode cc pc = .ok (.newarray .boolean, 2)) (hn : ¬ n < 0) (hN : n.toNatClampNeg = N) (hby : N * componentBytes .boolean ≤ 536870912) (hc : cs + 1 ≤ R.cells) (hs : sl + N ≤ R.slots) (K : ∀ q : Nat, h q = none → J (pc + 2) L (.ref q :: st) (mU h q (mAI g 3 N (fun _ => 0))) (cs + 1) (sl + N)) : J pc L (.int n :: st) h cs sl := by
  obtain ⟨p, e, s, m, args, below, meth, c, A, Q, rfl, hx, hb, hml, hown, hts, hK, hini, hA⟩ := hJ
  intro H locs ls hP hS hl
  obtain ⟨ws, hPw, hDw, cov⟩ := hP.list
  refine va_newa (atype := .boolean) (ty := .boolean) (a0 := (N, .inl (fun _ => 0))) hx hb (hts _ hw) rfl hK.1 hPw hDw hS hA (fun cA => rfl) hn hN hby hc hs hd (fun q cA H1 hK1 hP1 hD1 hS1 => ?_)
  have e1 : s.vm.findClass ("[" ++ (FieldType.boolean).toString) = some cA := (hK1.2 6 (cA, .boolean) rfl).2
  have e2 : s.vm.findClass ("[" ++ (FieldType.boolean).toString) = some (g.2 3) := (hK.1.2 3 (g.2 3, .boolean) rfl).2
  have e3 : cA = g.2 3 := Option.some.inj (e1.symm.trans e2)
  subst e3
  exact K q (mP.push (g := g) cov hP1 hD1).2 H1 locs ls (mP.push (g := g) cov hP1 hD1).1 hS1 hl
theorem mB.newA4 (hJ : mB l J cc own nL ini R g) {idx : Nat} {n : Int32} {N : Nat} (hw : Cond.classLink own idx "PatternWatch$Run" ∈ mWS) (hd : decode cc pc = .ok (.anewarray idx, 3)) (hn : ¬ n < 0) (hN : n.toNatClampNeg = N) (hby : N * 4 ≤ 536870912) (hc : cs + 1 ≤ R.cells) (hs : sl + N ≤ R.slots) (K : ∀ q : Nat, h q = none → J (pc + 3) L (.ref q :: st) (mU h q (mAR g 4 N (fun _ => none))) (cs + 1) (sl + N)) : J pc L (.int n :: st) h cs sl := by
  obtain ⟨p, e, s, m, args, below, meth, c, A, Q, rfl, hx, hb, hml, hown, hts, hK, hini, hA⟩ := hJ
  intro H locs ls hP hS hl
  obtain ⟨ws, hPw, hDw, cov⟩ := hP.list
  refine va_newq (C := "PatternWatch$Run") hx hb hown (hts _ hw) hK.2.2.2.1 hK.1 hPw hDw hS hA hn hN hby hc hs hd (fun q cA H1 hK1 hP1 hD1 hS1 => ?_)
  obtain ⟨_, _, -, -, -, e1⟩ := (hK1.2 6 (cA, .object "PatternWatch$Run") rfl).2
  obtain ⟨_, _, -, -, -, e2⟩ := (hK.1.2 4 (g.2 4, .object "PatternWatch$Run") rfl).2
  have e3 : cA = g.2 4 := Option.some.inj (e1.symm.trans e2)
  subst e3
  exact K q (mP.push (g := g) cov hP1 hD1).2 H1 locs ls (mP.push (g := g) cov hP1 hD1).1 hS1 hl
theorem mB.newA5 (hJ : mB l J cc own nL ini R g) {idx : Nat} {n : Int32} {N : Nat} (hw : Cond.classLink own idx "PatternWatch$Element" ∈ mWS) (hd : decode cc pc = .ok (.anewarray idx, 3)) (hn : ¬ n < 0) (hN : n.toNatClampNeg = N) (hby : N * 4 ≤ 536870912) (hc : cs + 1 ≤ R.cells) (hs : sl + N ≤ R.slots) (K : ∀ q : Nat, h q = none → J (pc + 3) L (.ref q :: st) (mU h q (mAR g 5 N (fun _ => none))) (cs + 1) (sl + N)) : J pc L (.int n :: st) h cs sl := by
  obtain ⟨p, e, s, m, args, below, meth, c, A, Q, rfl, hx, hb, hml, hown, hts, hK, hini, hA⟩ := hJ
  intro H locs ls hP hS hl
  obtain ⟨ws, hPw, hDw, cov⟩ := hP.list
  refine va_newq (C := "PatternWatch$Element") hx hb hown (hts _ hw) hK.2.2.2.2 hK.1 hPw hDw hS hA hn hN hby hc hs hd (fun q cA H1 hK1 hP1 hD1 hS1 => ?_)
  obtain ⟨_, _, -, -, -, e1⟩ := (hK1.2 6 (cA, .object "PatternWatch$Element") rfl).2
  obtain ⟨_, _, -, -, -, e2⟩ := (hK.1.2 5 (g.2 5, .object "PatternWatch$Element") rfl).2
  have e3 : cA = g.2 5 := Option.some.inj (e1.symm.trans e2)
  subst e3
  exact K q (mP.push (g := g) cov hP1 hD1).2 H1 locs ls (mP.push (g := g) cov hP1 hD1).1 hS1 hl
theorem mB.objInit (hJ : mB l J cc own nL ini R g) {idx a : Nat} (q1 : Cond.methodLink own idx Lib.objectInit ∈ mWS) (q2 : Cond.instanceMethod Lib.objectInit ∈ mWS) (q3 : Cond.code Lib.objectInit ⟨#[0xb1]⟩ 1 none ∈ mWS) (hLn : L.length = nL) (hd : decode cc pc = .ok (.invokespecial idx, 3)) (hfr : 1 ≤ R.frames) (hlo : (st.map fun v => v.category).sum + 12 ≤ R.locals) (K : J (pc + 3) L st h cs sl) : J pc L (.ref a :: st) h cs sl := by
  obtain ⟨p, e, s, m, args, below, meth, c, A, Q, rfl, hx, hb, hml, hown, hts, hK, hini, hA⟩ := hJ
  intro H locs ls hP hS hl
  refine W.objInit hx hb hown (hts _ q1) (hts _ q2) (hts _ q3) rfl (show ls.size = c.maxLocals from hl.1.trans (hLn.trans hml.symm)) rfl hd hfr (show 2 * 0 + (st.map fun v => v.category).sum + 12 ≤ R.locals by omega) ?_
  exact K H locs ls hP hS hl
theorem mB.copyi (hJ : mB l J cc own nL ini R g) {idx a a0 n0 n1 : Nat} {f f1 : Nat → Int32} {sp dp n : Int32} (q1 : Cond.methodLink own idx arraycopyName ∈ mWS) (q2 : Cond.native arraycopyName ∈ mWS) (q3 : Cond.static arraycopyName ∈ mWS) (q4 : Cond.initialized "java/lang/System" ∈ mWS) (hLn : L.length = nL) (hd : decode cc pc = .ok (.invokestatic idx, 3)) (ha0 : h a0 = some (mAI g 0 n0 f)) (ha : h a = some (mAI g 0 n1 f1)) (h1 : ¬ sp < 0) (h2 : ¬ dp < 0) (h3 : ¬ n < 0) (h4 : sp.toNatClampNeg + n.toNatClampNeg ≤ n0) (h5 : dp.toNatClampNeg + n.toNatClampNeg ≤ n1) (hfr : 1 ≤ R.frames) (hlo : (st.map fun v => v.category).sum + (nativeFrameWords "java/lang/System" "arraycopy" 5 + 11) ≤ R.locals) (K : J (pc + 3) L st (mU h a (mAI g 0 n1 (va_cpy f f1 sp.toNatClampNeg dp.toNatClampNeg n.toNatClampNeg))) cs sl) : J pc L (.int n :: .int dp :: .ref a :: .int sp :: .ref a0 :: st) h cs sl := by
  obtain ⟨p, e, s, m, args, below, meth, c, A, Q, rfl, hx, hb, hml, hown, hts, hK, hini, hA⟩ := hJ
  intro H locs ls hP hS hl
  obtain ⟨ws, hPw, hDw, cov⟩ := hP.list
  obtain ⟨k0, hk0⟩ := cov a _ ha
  obtain ⟨k1, hk1⟩ := cov a0 _ ha0
  exact va_copyi (ty := .int) hx hb (show c.maxLocals = ls.size from hml.trans (hLn.symm.trans hl.1.symm)) hown (hts _ q1) (hts _ q2) (hts _ q3) (hts _ q4) hK.1 hPw hDw hS k1 k0 0 0 hk1 hk0 rfl rfl rfl h1 h2 h3 h4 h5 (fun i _ => rfl) hfr hlo hd (fun H1 locs1 hP1 hD1 hS1 => K H1 locs1 ls (mP.back cov hk0 hP1 hD1) hS1 hl)
theorem mB.goto (hJ : mB l J cc own nL ini R g) {off : Int} {tgt : Nat} (hd : decode cc pc = .ok (.goto off, 3)) (ht : (pc : Int) + off = (tgt : Int)) (K : J tgt L st h cs sl) : J pc L st h cs sl := by
  obtain ⟨p, e, s, m, args, below, meth, c, A, Q, rfl, hx, hb, hml, hown, hts, hK, hini, hA⟩ := hJ
  intro H locs ls hP hS hl
  exact lv_goto hx hb hd ht (K H locs ls hP hS hl)
theorem mB.ifnonnull (hJ : mB l J cc own nL ini R g) {x : Nat} {off : Int} {tgt : Nat} (hd : decode cc pc = .ok (.ifnonnull off, 3)) (ht : (pc : Int) + off = (tgt : Int)) (K : J tgt L st h cs sl) : J pc L (.ref x :: st) h cs sl := by
  obtain ⟨p, e, s, m, args, below, meth, c, A, Q, rfl, hx, hb, hml, hown, hts, hK, hini, hA⟩ := hJ
  intro H locs ls hP hS hl
  exact lv_ifnonnull hx hb hd ht (K H locs ls hP hS hl)
theorem mB.ifnonnullN (hJ : mB l J cc own nL ini R g) {off : Int} (hd : decode cc pc = .ok (.ifnonnull off, 3)) (K : J (pc + 3) L st h cs sl) : J pc L (.null :: st) h cs sl := by
  obtain ⟨p, e, s, m, args, below, meth, c, A, Q, rfl, hx, hb, hml, hown, hts, hK, hini, hA⟩ := hJ
  intro H locs ls hP hS hl
  exact lv_ifnonnullN hx hb hd (K H locs ls hP hS hl)
theorem mB.ifnull (hJ : mB l J cc own nL ini R g) {x : Nat} {off : Int} (hd : decode cc pc = .ok (.ifnull off, 3)) (K : J (pc + 3) L st h cs sl) : J pc L (.ref x :: st) h cs sl := by
  obtain ⟨p, e, s, m, args, below, meth, c, A, Q, rfl, hx, hb, hml, hown, hts, hK, hini, hA⟩ := hJ
  intro H locs ls hP hS hl
  exact lv_ifnull hx hb hd (K H locs ls hP hS hl)
theorem mB.ifnullN (hJ : mB l J cc own nL ini R g) {off : Int} {tgt : Nat} (hd : decode cc pc = .ok (.ifnull off, 3)) (ht : (pc : Int) + off = (tgt : Int)) (K : J tgt L st h cs sl) : J pc L (.null :: st) h cs sl := by
  obtain ⟨p, e, s, m, args, below, meth, c, A, Q, rfl, hx, hb, hml, hown, hts, hK, hini, hA⟩ := hJ
  intro H locs ls hP hS hl
  exact lv_ifnullN hx hb hd ht (K H locs ls hP hS hl)
theorem mB.lookup (hJ : mB l J cc own nL ini R g) {dflt : Int} {ps : Array (Int × Int)} {len : Nat} {x : Int32} {off : Int} {tgt : Nat} (hd : decode cc pc = .ok (.lookupswitch dflt ps, len)) (hp : (ps.toList.zip (ps.toList.drop 1)).all (fun (a, next) => a.1 < next.1) = true) (ho : Op.lookupswitch.offset ps.toList dflt x.toInt = off) (ht : (pc : Int) + off = (tgt : Int)) (K : J tgt L st h cs sl) : J pc L (.int x :: st) h cs sl := by
  obtain ⟨p, e, s, m, args, below, meth, c, A, Q, rfl, hx, hb, hml, hown, hts, hK, hini, hA⟩ := hJ
  intro H locs ls hP hS hl
  exact lv_lookup hx hb hd hp ho ht (K H locs ls hP hS hl)
theorem mB.tableOut (hJ : mB l J cc own nL ini R g) {dflt lo hi : Int} {offs : Array Int} {len : Nat} {x : Int32} {tgt : Nat} (hd : decode cc pc = .ok (.tableswitch dflt lo hi offs, len)) (hq : x.toInt < lo ∨ hi < x.toInt) (ht : (pc : Int) + dflt = (tgt : Int)) (K : J tgt L st h cs sl) : J pc L (.int x :: st) h cs sl := by
  obtain ⟨p, e, s, m, args, below, meth, c, A, Q, rfl, hx, hb, hml, hown, hts, hK, hini, hA⟩ := hJ
  intro H locs ls hP hS hl
  exact lv_tableOut hx hb hd hq ht (K H locs ls hP hS hl)
theorem mB.tableIn (hJ : mB l J cc own nL ini R g) {dflt lo hi : Int} {offs : Array Int} {len : Nat} {x : Int32} {off : Int} {tgt : Nat} (hd : decode cc pc = .ok (.tableswitch dflt lo hi offs, len)) (h1 : ¬ x.toInt < lo) (h2 : ¬ hi < x.toInt) (ho : offs[(x.toInt - lo).toNat]? = some off) (ht : (pc : Int) + off = (tgt : Int)) (K : J tgt L st h cs sl) : J pc L (.int x :: st) h cs sl := by
  obtain ⟨p, e, s, m, args, below, meth, c, A, Q, rfl, hx, hb, hml, hown, hts, hK, hini, hA⟩ := hJ
  intro H locs ls hP hS hl
  exact lv_tableIn hx hb hd h1 h2 ho ht (K H locs ls hP hS hl)
end MB2
section MB3
variable {p : Program} {l : Launch} {e : Env} {R : Room} {s : State} {m : MethodId} {args : Array Value} {below : List Frame} {meth : Method} {c : Code} {H : Heap} {locs : List Loc} {Q : State → Prop} {A : Nat → Prop} {g : mG} {pc : Nat} {L : List (Option Value)} {ls : Array Slot} {st rest : List Value} {h : mHp} {cs sl mc ms : Nat} {Post : Option Value → mHp → Prop} {a : Array Value}
theorem mGo (hr : va_Run p l e R s m args below meth c H locs cs sl mc ms (F0 m pc ls st) rest (mQ g h H.size Post a) (mA h H.size)) (hP : mP g A h H) (hS : va_S A s.heap H locs) (hA : ∀ q, s.heap.size ≤ q → A q) (hl : mL ls L)
    (K : ∀ (r : Option Value) (h' : mHp), Post r h' → mJ p l e R s m args below meth c g A Q (pc + 3) L (r.toList ++ rest) h' (cs + mc) (sl + ms)) : W p l e R s m args below meth c H locs cs sl Q (F0 m pc ls st) := by
  intro T hT X
  obtain ⟨v, st₀, t, T', L', h0, X', hL, e1, e2, ⟨⟨r, h', hv, hp, hP'⟩, hz, hk⟩, stp⟩ := hr T hT X
  have hp2 : Post v h' := by
    injection hv with h9
    rw [h9]
    exact hp
  rw [h0] at hz hk
  have hAA : ∀ q, mA h H.size q → A q := fun q hq => by
    rcases hq with ⟨x, hx⟩ | hq
    · exact (hP q x hx).2
    · exact hA q (Nat.le_trans hS.1 hq)
  obtain ⟨t2, a1, b1⟩ := K v h' hp2 T'.heap (locs ++ L') ls (by rw [e1]; exact hP'.weaken hAA) ⟨Nat.le_trans hS.1 (by rw [e1]; exact hz), fun q h1 h2 => by rw [e1, hk q (Nat.lt_of_lt_of_le h1 hS.1) (fun z => h2 (hAA q z))]; exact hS.2.1 q h1 h2, fun q hq => by
      rcases List.mem_append.mp hq with h9 | h9
      · exact hS.2.2 q h9
      · exact hAA _ (hL q h9)⟩ hl T' rfl X'
  exact ⟨t2, stp t2 a1, b1⟩
end MB3
section MB4
variable {l : Launch} {J : mJt} {cc : ByteArray} {own : String} {nL : Nat} {ini : Bool} {R : Room} {g : mG} {pc : Nat} {L : List (Option Value)} {st : List Value} {h : mHp} {cs sl : Nat}
variable {y : MethodName} {cy : ByteArray} {nY : Nat} {ry : Option FieldType} {n mc ms idx : Nat} {Post : Option Value → mHp → Prop} {rest As : List Value}
theorem mLk.nlen {y : MethodName} {n k : Nat} (h : mLk y n) (hk : n = k) : k = n := hk.symm
theorem mB.callV (hJ : mB l J cc own nL ini R g) {b ci : Nat} {fs : List Value} {T : u_T} {N : Nat} (lk : mLkV own idx y As.length) (hcd : mCd y cy nY ry) (hM : mC l y cy nY ry n mc ms g (.ref b :: As) h Post) (hci : vwCl[ci]? = some (y.cls, T, N)) (hbb : h b = some (mO ci fs)) (hd : decode cc pc = .ok (.invokevirtual idx, 3)) (hst : st = As.reverse ++ .ref b :: rest) (hLn : L.length = nL) (hrm : n + 1 ≤ R.frames ∧ 8 + (nY + 11) + 32 * n ≤ R.locals) (hw : (rest.map fun v => v.category).sum ≤ 8) (hf : cs + mc ≤ R.cells ∧ sl + ms ≤ R.slots) (K : ∀ (r : Option Value) (h2 : mHp), Post r h2 → J (pc + 3) L (r.toList ++ rest) h2 (cs + mc) (sl + ms)) : J pc L st h cs sl := by
  obtain ⟨p, e, s, m, args, below, meth, c, A, Q, rfl, hx, hb, hml, hown, hts, hK, hini, hA⟩ := hJ
  intro H locs ls hP hS hl
  subst hst
  exact mGo (va_runV (C := y.cls) (As := As) (rest := rest) ⟨hx, hb, hml, hown, hts⟩ (hM H.size) ⟨⟨rfl, rfl, hrm.1, hrm.2, mWarm hts hcd, List.mem_cons_self, hts _ hcd, hts _ lk.1.2.2, lk.1.1, lk.1.len, hts _ lk.2.1⟩, hts _ lk.2.2.1, hts _ lk.2.2.2⟩ ⟨mPc_blind, va_recv (q0 := 0) hK.1 (hP.one hbb) hci rfl, fun U hU hW => ⟨rfl, by rw [hU], by rw [hU]; exact hP.weaken (fun _ _ => trivial), hK.warm hW⟩⟩ rfl rfl (show ls.size = nL from hl.1.trans hLn) rfl (lv_room hw) hd hf) hP hS hA hl K
theorem mB.callVN (hJ : mB l J cc own nL ini R g) {b ci : Nat} {fs : List Value} {T : u_T} {N : Nat} (lk : mLkVN own idx y As.length) (hcd : mCd y cy nY ry) (hM : mC l y cy nY ry n mc ms g (.ref b :: As) h Post) (hci : vwCl[ci]? = some (y.cls, T, N)) (hbb : h b = some (mO ci fs)) (hd : decode cc pc = .ok (.invokevirtual idx, 3)) (hst : st = As.reverse ++ .ref b :: rest) (hLn : L.length = nL) (hrm : n + 1 ≤ R.frames ∧ 8 + (nY + 11) + 32 * n ≤ R.locals) (hw : (rest.map fun v => v.category).sum ≤ 8) (hf : cs + mc ≤ R.cells ∧ sl + ms ≤ R.slots) (K : ∀ (r : Option Value) (h2 : mHp), Post r h2 → J (pc + 3) L (r.toList ++ rest) h2 (cs + mc) (sl + ms)) : J pc L st h cs sl := by
  obtain ⟨p, e, s, m, args, below, meth, c, A, Q, rfl, hx, hb, hml, hown, hts, hK, hini, hA⟩ := hJ
  intro H locs ls hP hS hl
  subst hst
  obtain ⟨host, hh⟩ := lk.2.1
  exact mGo (va_runVN (C := y.cls) (As := As) (rest := rest) ⟨hx, hb, hml, hown, hts⟩ (hM H.size) ⟨⟨⟨rfl, rfl, hrm.1, hrm.2, mWarm hts hcd, List.mem_cons_self⟩, hts _ hcd, hts _ lk.1.2.2, lk.1.1, lk.1.len, va_Nw.use rfl (hK.2.2.1 _ hh)⟩, hts _ lk.2.2.1, hts _ lk.2.2.2⟩ ⟨mPc_blind, va_recv (q0 := 0) hK.1 (hP.one hbb) hci rfl, fun U hU hW => ⟨rfl, by rw [hU], by rw [hU]; exact hP.weaken (fun _ _ => trivial), hK.warm hW⟩⟩ rfl rfl (show ls.size = nL from hl.1.trans hLn) rfl (lv_room hw) hd hf) hP hS hA hl K
theorem mB.callS (hJ : mB l J cc own nL ini R g) (lk : mLkS own idx y As.length) (hcd : mCd y cy nY ry) (hM : mC l y cy nY ry n mc ms g (As) h Post) (hd : decode cc pc = .ok (.invokestatic idx, 3)) (hst : st = As.reverse ++ rest) (hLn : L.length = nL) (hrm : n + 1 ≤ R.frames ∧ 8 + (nY + 11) + 32 * n ≤ R.locals) (hw : (rest.map fun v => v.category).sum ≤ 8) (hf : cs + mc ≤ R.cells ∧ sl + ms ≤ R.slots) (K : ∀ (r : Option Value) (h2 : mHp), Post r h2 → J (pc + 3) L (r.toList ++ rest) h2 (cs + mc) (sl + ms)) : J pc L st h cs sl := by
  obtain ⟨p, e, s, m, args, below, meth, c, A, Q, rfl, hx, hb, hml, hown, hts, hK, hini, hA⟩ := hJ
  intro H locs ls hP hS hl
  subst hst
  exact mGo (va_runS (As := As) (rest := rest) ⟨hx, hb, hml, hown, hts⟩ (hM H.size) ⟨⟨rfl, rfl, hrm.1, hrm.2, mWarm hts hcd, List.mem_cons_self, hts _ hcd, hts _ lk.1.2.2, lk.1.1, lk.1.len, hts _ lk.2.1⟩, hts _ lk.2.2⟩ ⟨mPc_blind, fun U hU hW => ⟨rfl, by rw [hU], by rw [hU]; exact hP.weaken (fun _ _ => trivial), hK.warm hW⟩⟩ rfl rfl (show ls.size = nL from hl.1.trans hLn) rfl (lv_room hw) hd hf) hP hS hA hl K
theorem mB.callSN (hJ : mB l J cc own nL ini R g) (lk : mLkSN own idx y As.length) (hcd : mCd y cy nY ry) (hM : mC l y cy nY ry n mc ms g (As) h Post) (hd : decode cc pc = .ok (.invokestatic idx, 3)) (hst : st = As.reverse ++ rest) (hLn : L.length = nL) (hrm : n + 1 ≤ R.frames ∧ 8 + (nY + 11) + 32 * n ≤ R.locals) (hw : (rest.map fun v => v.category).sum ≤ 8) (hf : cs + mc ≤ R.cells ∧ sl + ms ≤ R.slots) (K : ∀ (r : Option Value) (h2 : mHp), Post r h2 → J (pc + 3) L (r.toList ++ rest) h2 (cs + mc) (sl + ms)) : J pc L st h cs sl := by
  obtain ⟨p, e, s, m, args, below, meth, c, A, Q, rfl, hx, hb, hml, hown, hts, hK, hini, hA⟩ := hJ
  intro H locs ls hP hS hl
  subst hst
  obtain ⟨host, hh⟩ := lk.2.1
  exact mGo (va_runSN (As := As) (rest := rest) ⟨hx, hb, hml, hown, hts⟩ (hM H.size) ⟨⟨⟨rfl, rfl, hrm.1, hrm.2, mWarm hts hcd, List.mem_cons_self⟩, hts _ hcd, hts _ lk.1.2.2, lk.1.1, lk.1.len, va_Nw.use rfl (hK.2.2.1 _ hh)⟩, hts _ lk.2.2, trivial⟩ ⟨mPc_blind, fun U hU hW => ⟨rfl, by rw [hU], by rw [hU]; exact hP.weaken (fun _ _ => trivial), hK.warm hW⟩⟩ rfl rfl (show ls.size = nL from hl.1.trans hLn) rfl (lv_room hw) hd hf) hP hS hA hl K
theorem mB.callI (hJ : mB l J cc own nL ini R g) {b : Nat} (lk : mLkI own idx y As.length) (hcd : mCd y cy nY none) (hM : mC l y cy nY none n mc ms g (.ref b :: As) h Post) (hd : decode cc pc = .ok (.invokespecial idx, 3)) (hst : st = As.reverse ++ .ref b :: rest) (hLn : L.length = nL) (hrm : n + 1 ≤ R.frames ∧ 8 + (nY + 11) + 32 * n ≤ R.locals) (hw : (rest.map fun v => v.category).sum ≤ 8) (hf : cs + mc ≤ R.cells ∧ sl + ms ≤ R.slots) (K : ∀ (r : Option Value) (h2 : mHp), Post r h2 → J (pc + 3) L (r.toList ++ rest) h2 (cs + mc) (sl + ms)) : J pc L st h cs sl := by
  obtain ⟨p, e, s, m, args, below, meth, c, A, Q, rfl, hx, hb, hml, hown, hts, hK, hini, hA⟩ := hJ
  intro H locs ls hP hS hl
  subst hst
  exact mGo (va_runI (b := b) (As := As) (rest := rest) ⟨hx, hb, hml, hown, hts⟩ (hM H.size) ⟨⟨rfl, rfl, hrm.1, hrm.2, mWarm hts hcd, List.mem_cons_self, hts _ hcd, hts _ lk.1.2.2, lk.1.1, lk.1.len, hts _ lk.2.1⟩, lk.2.2.1, hts _ lk.2.2.2⟩ ⟨mPc_blind, fun U hU hW => ⟨rfl, by rw [hU], by rw [hU]; exact hP.weaken (fun _ _ => trivial), hK.warm hW⟩⟩ rfl rfl (show ls.size = nL from hl.1.trans hLn) rfl (lv_room hw) hd hf) hP hS hA hl K
theorem mB.callIN (hJ : mB l J cc own nL ini R g) {b : Nat} (lk : mLkIN own idx y As.length) (hcd : mCd y cy nY none) (hM : mC l y cy nY none n mc ms g (.ref b :: As) h Post) (hd : decode cc pc = .ok (.invokespecial idx, 3)) (hst : st = As.reverse ++ .ref b :: rest) (hLn : L.length = nL) (hrm : n + 1 ≤ R.frames ∧ 8 + (nY + 11) + 32 * n ≤ R.locals) (hw : (rest.map fun v => v.category).sum ≤ 8) (hf : cs + mc ≤ R.cells ∧ sl + ms ≤ R.slots) (K : ∀ (r : Option Value) (h2 : mHp), Post r h2 → J (pc + 3) L (r.toList ++ rest) h2 (cs + mc) (sl + ms)) : J pc L st h cs sl := by
  obtain ⟨p, e, s, m, args, below, meth, c, A, Q, rfl, hx, hb, hml, hown, hts, hK, hini, hA⟩ := hJ
  intro H locs ls hP hS hl
  subst hst
  obtain ⟨host, hh⟩ := lk.2.1
  exact mGo (va_runIN (b := b) (As := As) (rest := rest) ⟨hx, hb, hml, hown, hts⟩ (hM H.size) ⟨⟨⟨rfl, rfl, hrm.1, hrm.2, mWarm hts hcd, List.mem_cons_self⟩, hts _ hcd, hts _ lk.1.2.2, lk.1.1, lk.1.len, va_Nw.use rfl (hK.2.2.1 _ hh)⟩, lk.2.2.1, hts _ lk.2.2.2⟩ ⟨mPc_blind, fun U hU hW => ⟨rfl, by rw [hU], by rw [hU]; exact hP.weaken (fun _ _ => trivial), hK.warm hW⟩⟩ rfl rfl (show ls.size = nL from hl.1.trans hLn) rfl (lv_room hw) hd hf) hP hS hA hl K
end MB4
