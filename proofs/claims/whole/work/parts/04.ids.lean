abbrev sT : Type := (Nat → Nat → Int32) × (Nat → Nat → Nat) × (Nat → Int64)
def sI (z : sT) (i j : Nat) (x : Int32) : sT := (fun a b => if a = i ∧ b = j then x else z.1 a b, z.2)
def sP (z : sT) (i j r : Nat) : sT := (z.1, fun a b => if a = i ∧ b = j then r else z.2.1 a b, z.2.2)
def sLg (z : sT) (x : Int64) : sT := (z.1, z.2.1, vp_updL z.2.2 0 x)
def sV (ad : Nat → Nat) (z : sT) (i j k : Nat) : Value := if k = 0 then .int (z.1 i j) else if k = 1 then .ref (ad (z.2.1 i j)) else .ref (ad (k - 2))
def sFs (ad : Nat → Nat) (z : sT) (i : Nat) (ks : List Nat) : List Value := (List.range ks.length).map (fun j => sV ad z i j (ks.getD j 0))
def sRf (z : sT) (i b j : Nat) : Nat := if b = 0 then z.2.1 i j else b - 1 + j
def sCell (ad : Nat → Nat) (g : mG) (z : sT) (i : Nat) (k : Nat × Nat × List Nat) : va_E :=
  if k.1 = 0 then mO k.2.1 (sFs ad z i k.2.2) else if k.1 = 1 then mAI g k.2.1 (k.2.2.getD 0 0) (z.1 i) else if k.1 = 2 then mAR g k.2.1 (k.2.2.getD 0 0) (fun j => some (ad (sRf z i (k.2.2.getD 1 0) j))) else mAL g 1 z.2.2
def sH (ad : Nat → Nat) (g : mG) (z : sT) (h : mHp) : Prop := ∀ i : Nat, i < 145 → h (ad i) = some (sCell ad g z i (sK i))
def sJn (ad : Nat → Nat) : Prop := ∀ i j : Nat, i < 145 → j < 145 → ad i = ad j → i = j
theorem sCell_o {ad : Nat → Nat} {g : mG} {z : sT} {i ci : Nat} {ks : List Nat} : sCell ad g z i (0, ci, ks) = mO ci (sFs ad z i ks) := rfl
theorem sCell_i {ad : Nat → Nat} {g : mG} {z : sT} {i t n : Nat} : sCell ad g z i (1, t, [n]) = mAI g t n (z.1 i) := rfl
theorem sCell_r {ad : Nat → Nat} {g : mG} {z : sT} {i t n b : Nat} : sCell ad g z i (2, t, [n, b]) = mAR g t n (fun j => some (ad (sRf z i b j))) := rfl
theorem sCell_l {ad : Nat → Nat} {g : mG} {z : sT} {i : Nat} : sCell ad g z i (3, 0, []) = mAL g 1 z.2.2 := rfl
theorem sFs_at {ad : Nat → Nat} {z : sT} {i j k : Nat} {ks : List Nat} (h : ks[j]? = some k) : (sFs ad z i ks)[j]? = some (sV ad z i j k) := by
  have hl := (List.getElem?_eq_some_iff.mp h).1
  unfold sFs
  rw [List.getElem?_map, List.getElem?_range hl]
  simp [List.getD, h]
theorem sFs_len {ad : Nat → Nat} {z : sT} {i : Nat} {ks : List Nat} : (sFs ad z i ks).length = ks.length := by simp [sFs]
theorem sFs_int {ad : Nat → Nat} {z : sT} {i j : Nat} {x : Int32} {ks : List Nat} (h : ks[j]? = some 0) : (sFs ad z i ks).set j (.int x) = sFs ad (sI z i j x) i ks := by
  have hl := (List.getElem?_eq_some_iff.mp h).1
  apply List.ext_getElem?
  intro n
  by_cases hn : n = j
  · subst hn
    rw [List.getElem?_set_self (by rw [sFs_len]; exact hl), sFs_at h]
    simp [sV, sI]
  · rw [List.getElem?_set_ne (Ne.symm hn)]
    by_cases hk : n < ks.length
    · rw [sFs_at (List.getElem?_eq_getElem hk), sFs_at (List.getElem?_eq_getElem hk)]
      simp [sV, sI, hn]
    · rw [List.getElem?_eq_none (by rw [sFs_len]; omega), List.getElem?_eq_none (by rw [sFs_len]; omega)]
theorem sFs_ref {ad : Nat → Nat} {z : sT} {i j r : Nat} {ks : List Nat} (h : ks[j]? = some 1) : (sFs ad z i ks).set j (.ref (ad r)) = sFs ad (sP z i j r) i ks := by
  have hl := (List.getElem?_eq_some_iff.mp h).1
  apply List.ext_getElem?
  intro n
  by_cases hn : n = j
  · subst hn
    rw [List.getElem?_set_self (by rw [sFs_len]; exact hl), sFs_at h]
    simp [sV, sP]
  · rw [List.getElem?_set_ne (Ne.symm hn)]
    by_cases hk : n < ks.length
    · rw [sFs_at (List.getElem?_eq_getElem hk), sFs_at (List.getElem?_eq_getElem hk)]
      simp [sV, sP, hn]
    · rw [List.getElem?_eq_none (by rw [sFs_len]; omega), List.getElem?_eq_none (by rw [sFs_len]; omega)]
theorem sCell_ne {ad : Nat → Nat} {g : mG} {z w : sT} {i : Nat} {k : Nat × Nat × List Nat} (h1 : w.1 i = z.1 i) (h2 : w.2.1 i = z.2.1 i) (h3 : w.2.2 = z.2.2) : sCell ad g w i k = sCell ad g z i k := by
  have e1 : ∀ ks, sFs ad w i ks = sFs ad z i ks := fun ks => by unfold sFs sV; rw [h1, h2]
  have e2 : ∀ b j, sRf w i b j = sRf z i b j := fun b j => by unfold sRf; rw [h2]
  unfold sCell
  rw [e1, h1, h3]
  simp only [e2]
theorem sCell_lg {ad : Nat → Nat} {g : mG} {z : sT} {x : Int64} {i : Nat} {k : Nat × Nat × List Nat} (h : k.1 < 3) : sCell ad g (sLg z x) i k = sCell ad g z i k := by
  obtain ⟨a, b, c⟩ := k
  have ha : a = 0 ∨ a = 1 ∨ a = 2 := by
    have : a < 3 := h
    omega
  rcases ha with rfl | rfl | rfl <;> rfl
theorem sK_lg : ∀ j, j < 145 → j ≠ 144 → (sK j).1 < 3 := by decide +kernel
theorem sH.upd {ad : Nat → Nat} {g : mG} {z w : sT} {h : mHp} {i : Nat} {e : va_E} (hj : sJn ad) (hh : sH ad g z h) (hi : i < 145) (he : e = sCell ad g w i (sK i)) (hn : ∀ n, n < 145 → n ≠ i → sCell ad g w n (sK n) = sCell ad g z n (sK n)) : sH ad g w (mU h (ad i) e) := by
  intro n hn9
  by_cases hni : n = i
  · subst hni
    rw [mU_self, he]
  · rw [mU_ne (fun q => hni (hj n i hn9 hi q)), hh n hn9, hn n hn9 hni]
theorem sI_row {z : sT} {i j n : Nat} {x : Int32} (h : n ≠ i) : (sI z i j x).1 n = z.1 n := by
  funext b
  simp [sI, h]
theorem sP_row {z : sT} {i j n r : Nat} (h : n ≠ i) : (sP z i j r).2.1 n = z.2.1 n := by
  funext b
  simp [sP, h]
theorem sH.int {ad : Nat → Nat} {g : mG} {z : sT} {h : mHp} {i j : Nat} {x : Int32} {e : va_E} (hj : sJn ad) (hh : sH ad g z h) (hi : i < 145) (he : e = sCell ad g (sI z i j x) i (sK i)) : sH ad g (sI z i j x) (mU h (ad i) e) :=
  hh.upd hj hi he (fun _ _ q => sCell_ne (sI_row q) rfl rfl)
theorem sH.ref {ad : Nat → Nat} {g : mG} {z : sT} {h : mHp} {i j r : Nat} {e : va_E} (hj : sJn ad) (hh : sH ad g z h) (hi : i < 145) (he : e = sCell ad g (sP z i j r) i (sK i)) : sH ad g (sP z i j r) (mU h (ad i) e) :=
  hh.upd hj hi he (fun _ _ q => sCell_ne rfl (sP_row q) rfl)
theorem sRow_upd {z : sT} {i j : Nat} {x : Int32} : (sI z i j x).1 i = upd (z.1 i) j x := by
  funext b
  by_cases hb : b = j
  · subst hb; simp [sI, upd]
  · simp [sI, upd, hb]
theorem sRef_up {ad : Nat → Nat} {z : sT} {i j r : Nat} : (fun n => some (ad (sRf (sP z i j r) i 0 n))) = va_up (fun n => some (ad (sRf z i 0 n))) j (some (ad r)) := by
  funext b
  by_cases hb : b = j
  · subst hb; simp [sRf, sP, va_up]
  · simp [sRf, sP, va_up, hb]
abbrev sJt : Type := Nat → List (Option Value) → List Value → sT → Prop
def sB (l : Launch) (K : sJt) (cc : ByteArray) (own : String) (nL : Nat) (R : Room) (g : mG) (ad : Nat → Nat) : Prop :=
  ∃ (J : mJt) (c9 s9 : Nat), K = (fun pc L st z => ∀ h : mHp, sH ad g z h → J pc L st h c9 s9) ∧ mB l J cc own nL false R g ∧ sJn ad ∧ c9 ≤ R.cells ∧ s9 ≤ R.slots
def sE (K : sJt) (cc : ByteArray) (ret : Option FieldType) (Post : Option Value → sT → Prop) : Prop :=
  (∀ (pc : Nat) (L : List (Option Value)) (x : Int32) (ty : FieldType) (z : sT), decode cc pc = .ok (.ireturn, 1) → ret = some ty → narrow ty (.int x) = .int x → Post (some (.int x)) z → K pc L [.int x] z) ∧
  (∀ (pc : Nat) (L : List (Option Value)) (v : Value) (C : String) (z : sT), decode cc pc = .ok (.areturn, 1) → ret = some (.object C) → (v = .null ∨ ∃ a, v = .ref a) → Post (some v) z → K pc L [v] z) ∧
  (∀ (pc : Nat) (L : List (Option Value)) (z : sT), decode cc pc = .ok (.return_, 1) → ret = none → Post none z → K pc L [] z)
def sC (l : Launch) (y : MethodName) (cc : ByteArray) (nL : Nat) (ret : Option FieldType) (n : Nat) (g : mG) (ad : Nat → Nat) (av : List Value) (z : sT) (Post : Option Value → sT → Prop) : Prop :=
  sJn ad → ∀ h : mHp, sH ad g z h → mC l y cc nL ret n 0 0 g av h (fun r h' => ∃ w : sT, Post r w ∧ sH ad g w h')
theorem sC.intro {l : Launch} {y : MethodName} {cc : ByteArray} {nL : Nat} {ret : Option FieldType} {n : Nat} {g : mG} {ad : Nat → Nat} {av : List Value} {z : sT} {Post : Option Value → sT → Prop} {own : String} (ho : y.cls = own) (hy : plainName y.cls = true) (hni : (y.name == "<init>") = false) (hav : ∀ v ∈ av, v.category = 1) (hn : av.length ≤ nL)
    (body : ∀ K : sJt, sB l K cc own nL (mRm n 0 0) g ad → sE K cc ret Post → K 0 (av.map some ++ List.replicate (nL - av.length) none) [] z) : sC l y cc nL ret n g ad av z Post := by
  intro hj h hh
  refine mC.intro hy hav hn (fun J hJ hE => ?_)
  rw [hni, ho] at hJ
  refine body (fun pc L st z => ∀ h : mHp, sH ad g z h → J pc L st h 0 0) ⟨J, 0, 0, rfl, hJ, hj, Nat.zero_le _, Nat.zero_le _⟩ ⟨?_, ?_, ?_⟩ h hh
  · intro pc L x ty z hd hr hn2 hp h2 hh2
    exact hE.1 pc L x ty h2 0 0 hd hr hn2 ⟨z, hp, hh2⟩ (Nat.zero_le _) (Nat.zero_le _)
  · intro pc L v C z hd hr hv hp h2 hh2
    exact hE.2.1 pc L v C h2 0 0 hd hr hv ⟨z, hp, hh2⟩ (Nat.zero_le _) (Nat.zero_le _)
  · intro pc L z hd hr hp h2 hh2
    exact hE.2.2 pc L h2 0 0 hd hr ⟨z, hp, hh2⟩ (Nat.zero_le _) (Nat.zero_le _)
theorem sC.mono {l : Launch} {y : MethodName} {cc : ByteArray} {nL : Nat} {ret : Option FieldType} {n : Nat} {g : mG} {ad : Nat → Nat} {av : List Value} {z : sT} {P P2 : Option Value → sT → Prop} (hM : sC l y cc nL ret n g ad av z P) (hp : ∀ r w, P r w → P2 r w) : sC l y cc nL ret n g ad av z P2 :=
  fun hj h hh => (hM hj h hh).mono (fun r h' q => by obtain ⟨w, q1, q2⟩ := q; exact ⟨w, hp r w q1, q2⟩)
def mFa (own : String) (idx ci k : Nat) (fin : Bool) (t : FieldType) : Prop := mFl own idx ci k fin t ∨ mFn own idx ci k fin t
theorem mB.geta {l : Launch} {J : mJt} {cc : ByteArray} {own : String} {nL : Nat} {ini : Bool} {R : Room} {g : mG} {pc : Nat} {L : List (Option Value)} {st : List Value} {h : mHp} {cs sl : Nat} (hJ : mB l J cc own nL ini R g) {idx ci k a : Nat} {fin : Bool} {t : FieldType} {fs : List Value} {v : Value} (lk : mFa own idx ci k fin t) (hd : decode cc pc = .ok (.getfield idx, 3)) (ha : h a = some (mO ci fs)) (hv : fs[k]? = some v) (K : J (pc + 3) L (v :: st) h cs sl) : J pc L (.ref a :: st) h cs sl := by
  rcases lk with lk | lk
  · exact hJ.getf lk hd ha hv K
  · exact hJ.getn lk hd ha hv K
theorem mB.puta {l : Launch} {J : mJt} {cc : ByteArray} {own : String} {nL : Nat} {ini : Bool} {R : Room} {g : mG} {pc : Nat} {L : List (Option Value)} {st : List Value} {h : mHp} {cs sl : Nat} (hJ : mB l J cc own nL ini R g) {idx ci k a : Nat} {t : FieldType} {fs fs2 : List Value} {v : Value} (lk : mFa own idx ci k false t) (hd : decode cc pc = .ok (.putfield idx, 3)) (ha : h a = some (mO ci fs)) (hn : narrow t v = v) (hf : fits t v = true) (hkl : k < fs.length) (he : fs.set k v = fs2) (K : J (pc + 3) L st (mU h a (mO ci fs2)) cs sl) : J pc L (v :: .ref a :: st) h cs sl := by
  rcases lk with lk | lk
  · exact hJ.putf lk hd ha hn hf hkl he K
  · exact hJ.putn lk hd ha hn hf hkl he K
def sCp (z : sT) (i0 i n : Nat) : sT := (fun a b => if a = i then (if b < n then z.1 i0 b else z.1 i b) else z.1 a b, z.2)
section SB
variable {l : Launch} {Kj : sJt} {cc : ByteArray} {own : String} {nL : Nat} {R : Room} {g : mG} {ad : Nat → Nat} {pc : Nat} {L : List (Option Value)} {st : List Value} {z : sT}
theorem sB.iconst (hB : sB l Kj cc own nL R g ad) {n : Int} {v : Int32} (hd : decode cc pc = .ok (.iconst n, 1)) (hv : Int32.ofInt n = v) (K : Kj (pc + 1) L (.int v :: st) z) : Kj pc L (st) z := by
  obtain ⟨J, u9, s9, rfl, hJ, hj, hu9, hs9⟩ := hB
  intro h hh
  exact hJ.iconst hd hv (K h hh)
theorem sB.bipush (hB : sB l Kj cc own nL R g ad) {n : Int} {v : Int32} (hd : decode cc pc = .ok (.bipush n, 2)) (hv : (Int8.ofInt n).toInt32 = v) (K : Kj (pc + 2) L (.int v :: st) z) : Kj pc L (st) z := by
  obtain ⟨J, u9, s9, rfl, hJ, hj, hu9, hs9⟩ := hB
  intro h hh
  exact hJ.bipush hd hv (K h hh)
theorem sB.sipush (hB : sB l Kj cc own nL R g ad) {n : Int} {v : Int32} (hd : decode cc pc = .ok (.sipush n, 3)) (hv : (Int16.ofInt n).toInt32 = v) (K : Kj (pc + 3) L (.int v :: st) z) : Kj pc L (st) z := by
  obtain ⟨J, u9, s9, rfl, hJ, hj, hu9, hs9⟩ := hB
  intro h hh
  exact hJ.sipush hd hv (K h hh)
theorem sB.iload_n (hB : sB l Kj cc own nL R g ad) {k : Fin 4} {x : Int32} (hd : decode cc pc = .ok (.iload_n k, 1)) (hv : L[(k : Nat)]? = some (some (.int x))) (K : Kj (pc + 1) L (.int x :: st) z) : Kj pc L (st) z := by
  obtain ⟨J, u9, s9, rfl, hJ, hj, hu9, hs9⟩ := hB
  intro h hh
  exact hJ.iload_n hd hv (K h hh)
theorem sB.iload (hB : sB l Kj cc own nL R g ad) {i : Nat} {x : Int32} (hd : decode cc pc = .ok (.iload i, 2)) (hv : L[i]? = some (some (.int x))) (K : Kj (pc + 2) L (.int x :: st) z) : Kj pc L (st) z := by
  obtain ⟨J, u9, s9, rfl, hJ, hj, hu9, hs9⟩ := hB
  intro h hh
  exact hJ.iload hd hv (K h hh)
theorem sB.aload_n (hB : sB l Kj cc own nL R g ad) {k : Fin 4} {x : Nat} (hd : decode cc pc = .ok (.aload_n k, 1)) (hv : L[(k : Nat)]? = some (some (.ref x))) (K : Kj (pc + 1) L (.ref x :: st) z) : Kj pc L (st) z := by
  obtain ⟨J, u9, s9, rfl, hJ, hj, hu9, hs9⟩ := hB
  intro h hh
  exact hJ.aload_n hd hv (K h hh)
theorem sB.aload (hB : sB l Kj cc own nL R g ad) {i : Nat} {x : Nat} (hd : decode cc pc = .ok (.aload i, 2)) (hv : L[i]? = some (some (.ref x))) (K : Kj (pc + 2) L (.ref x :: st) z) : Kj pc L (st) z := by
  obtain ⟨J, u9, s9, rfl, hJ, hj, hu9, hs9⟩ := hB
  intro h hh
  exact hJ.aload hd hv (K h hh)
theorem sB.aload_nN (hB : sB l Kj cc own nL R g ad) {k : Fin 4} (hd : decode cc pc = .ok (.aload_n k, 1)) (hv : L[(k : Nat)]? = some (some .null)) (K : Kj (pc + 1) L (.null :: st) z) : Kj pc L (st) z := by
  obtain ⟨J, u9, s9, rfl, hJ, hj, hu9, hs9⟩ := hB
  intro h hh
  exact hJ.aload_nN hd hv (K h hh)
theorem sB.aloadN (hB : sB l Kj cc own nL R g ad) {i : Nat} (hd : decode cc pc = .ok (.aload i, 2)) (hv : L[i]? = some (some .null)) (K : Kj (pc + 2) L (.null :: st) z) : Kj pc L (st) z := by
  obtain ⟨J, u9, s9, rfl, hJ, hj, hu9, hs9⟩ := hB
  intro h hh
  exact hJ.aloadN hd hv (K h hh)
theorem sB.istore_n (hB : sB l Kj cc own nL R g ad) {k : Fin 4} {x : Int32} (hd : decode cc pc = .ok (.istore_n k, 1)) (hi : (k : Nat) < L.length) (K : Kj (pc + 1) (L.set (k : Nat) (some (.int x))) st z) : Kj pc L (.int x :: st) z := by
  obtain ⟨J, u9, s9, rfl, hJ, hj, hu9, hs9⟩ := hB
  intro h hh
  exact hJ.istore_n hd hi (K h hh)
theorem sB.istore (hB : sB l Kj cc own nL R g ad) {i : Nat} {x : Int32} (hd : decode cc pc = .ok (.istore i, 2)) (hi : i < L.length) (K : Kj (pc + 2) (L.set i (some (.int x))) st z) : Kj pc L (.int x :: st) z := by
  obtain ⟨J, u9, s9, rfl, hJ, hj, hu9, hs9⟩ := hB
  intro h hh
  exact hJ.istore hd hi (K h hh)
theorem sB.astore_n (hB : sB l Kj cc own nL R g ad) {k : Fin 4} {x : Nat} (hd : decode cc pc = .ok (.astore_n k, 1)) (hi : (k : Nat) < L.length) (K : Kj (pc + 1) (L.set (k : Nat) (some (.ref x))) st z) : Kj pc L (.ref x :: st) z := by
  obtain ⟨J, u9, s9, rfl, hJ, hj, hu9, hs9⟩ := hB
  intro h hh
  exact hJ.astore_n hd hi (K h hh)
theorem sB.astore (hB : sB l Kj cc own nL R g ad) {i : Nat} {x : Nat} (hd : decode cc pc = .ok (.astore i, 2)) (hi : i < L.length) (K : Kj (pc + 2) (L.set i (some (.ref x))) st z) : Kj pc L (.ref x :: st) z := by
  obtain ⟨J, u9, s9, rfl, hJ, hj, hu9, hs9⟩ := hB
  intro h hh
  exact hJ.astore hd hi (K h hh)
theorem sB.astore_nN (hB : sB l Kj cc own nL R g ad) {k : Fin 4} (hd : decode cc pc = .ok (.astore_n k, 1)) (hi : (k : Nat) < L.length) (K : Kj (pc + 1) (L.set (k : Nat) (some (.null))) st z) : Kj pc L (.null :: st) z := by
  obtain ⟨J, u9, s9, rfl, hJ, hj, hu9, hs9⟩ := hB
  intro h hh
  exact hJ.astore_nN hd hi (K h hh)
theorem sB.astoreN (hB : sB l Kj cc own nL R g ad) {i : Nat} (hd : decode cc pc = .ok (.astore i, 2)) (hi : i < L.length) (K : Kj (pc + 2) (L.set i (some (.null))) st z) : Kj pc L (.null :: st) z := by
  obtain ⟨J, u9, s9, rfl, hJ, hj, hu9, hs9⟩ := hB
  intro h hh
  exact hJ.astoreN hd hi (K h hh)
theorem sB.iinc (hB : sB l Kj cc own nL R g ad) {i : Nat} {n : Int} {x v : Int32} (hd : decode cc pc = .ok (.iinc i n, 3)) (hv : L[i]? = some (some (.int x))) (hw : x + Int32.ofInt n = v) (K : Kj (pc + 3) (L.set i (some (.int v))) st z) : Kj pc L st z := by
  obtain ⟨J, u9, s9, rfl, hJ, hj, hu9, hs9⟩ := hB
  intro h hh
  exact hJ.iinc hd hv hw (K h hh)
theorem sB.iadd (hB : sB l Kj cc own nL R g ad) {x y : Int32} (hd : decode cc pc = .ok (.iadd, 1)) (K : Kj (pc + 1) L (.int (x + y) :: st) z) : Kj pc L (.int y :: .int x :: st) z := by
  obtain ⟨J, u9, s9, rfl, hJ, hj, hu9, hs9⟩ := hB
  intro h hh
  exact hJ.iadd hd (K h hh)
theorem sB.isub (hB : sB l Kj cc own nL R g ad) {x y : Int32} (hd : decode cc pc = .ok (.isub, 1)) (K : Kj (pc + 1) L (.int (x - y) :: st) z) : Kj pc L (.int y :: .int x :: st) z := by
  obtain ⟨J, u9, s9, rfl, hJ, hj, hu9, hs9⟩ := hB
  intro h hh
  exact hJ.isub hd (K h hh)
theorem sB.imul (hB : sB l Kj cc own nL R g ad) {x y : Int32} (hd : decode cc pc = .ok (.imul, 1)) (K : Kj (pc + 1) L (.int (x * y) :: st) z) : Kj pc L (.int y :: .int x :: st) z := by
  obtain ⟨J, u9, s9, rfl, hJ, hj, hu9, hs9⟩ := hB
  intro h hh
  exact hJ.imul hd (K h hh)
theorem sB.iand (hB : sB l Kj cc own nL R g ad) {x y : Int32} (hd : decode cc pc = .ok (.iand, 1)) (K : Kj (pc + 1) L (.int (x &&& y) :: st) z) : Kj pc L (.int y :: .int x :: st) z := by
  obtain ⟨J, u9, s9, rfl, hJ, hj, hu9, hs9⟩ := hB
  intro h hh
  exact hJ.iand hd (K h hh)
theorem sB.ineg (hB : sB l Kj cc own nL R g ad) {x : Int32} (hd : decode cc pc = .ok (.ineg, 1)) (K : Kj (pc + 1) L (.int (-x) :: st) z) : Kj pc L (.int x :: st) z := by
  obtain ⟨J, u9, s9, rfl, hJ, hj, hu9, hs9⟩ := hB
  intro h hh
  exact hJ.ineg hd (K h hh)
theorem sB.dup (hB : sB l Kj cc own nL R g ad) {v : Value} (hd : decode cc pc = .ok (.dup, 1)) (hv : v.category = 1) (K : Kj (pc + 1) L (v :: v :: st) z) : Kj pc L (v :: st) z := by
  obtain ⟨J, u9, s9, rfl, hJ, hj, hu9, hs9⟩ := hB
  intro h hh
  exact hJ.dup hd hv (K h hh)
theorem sB.pop (hB : sB l Kj cc own nL R g ad) {v : Value} (hd : decode cc pc = .ok (.pop, 1)) (hv : v.category = 1) (K : Kj (pc + 1) L (st) z) : Kj pc L (v :: st) z := by
  obtain ⟨J, u9, s9, rfl, hJ, hj, hu9, hs9⟩ := hB
  intro h hh
  exact hJ.pop hd hv (K h hh)
theorem sB.dup_x1 (hB : sB l Kj cc own nL R g ad) {v u : Value} (hd : decode cc pc = .ok (.dup_x1, 1)) (hv : v.category = 1) (hu : u.category = 1) (K : Kj (pc + 1) L (v :: u :: v :: st) z) : Kj pc L (v :: u :: st) z := by
  obtain ⟨J, u9, s9, rfl, hJ, hj, hu9, hs9⟩ := hB
  intro h hh
  exact hJ.dup_x1 hd hv hu (K h hh)
theorem sB.dup2 (hB : sB l Kj cc own nL R g ad) {v u : Value} (hd : decode cc pc = .ok (.dup2, 1)) (hv : v.category = 1) (hu : u.category = 1) (K : Kj (pc + 1) L (v :: u :: v :: u :: st) z) : Kj pc L (v :: u :: st) z := by
  obtain ⟨J, u9, s9, rfl, hJ, hj, hu9, hs9⟩ := hB
  intro h hh
  exact hJ.dup2 hd hv hu (K h hh)
theorem sB.i2l (hB : sB l Kj cc own nL R g ad) {x : Int32} {v : Int64} (hd : decode cc pc = .ok (.i2l, 1)) (hv : x.toInt64 = v) (K : Kj (pc + 1) L (.long v :: st) z) : Kj pc L (.int x :: st) z := by
  obtain ⟨J, u9, s9, rfl, hJ, hj, hu9, hs9⟩ := hB
  intro h hh
  exact hJ.i2l hd hv (K h hh)
theorem sB.i2c (hB : sB l Kj cc own nL R g ad) {x v : Int32} (hd : decode cc pc = .ok (.i2c, 1)) (hv : (x.toUInt32 % 65536).toInt32 = v) (K : Kj (pc + 1) L (.int v :: st) z) : Kj pc L (.int x :: st) z := by
  obtain ⟨J, u9, s9, rfl, hJ, hj, hu9, hs9⟩ := hB
  intro h hh
  exact hJ.i2c hd hv (K h hh)
theorem sB.lcmp (hB : sB l Kj cc own nL R g ad) {x y : Int64} (hd : decode cc pc = .ok (.lcmp, 1)) (K : Kj (pc + 1) L (.int (lg_cmp x y) :: st) z) : Kj pc L (.long y :: .long x :: st) z := by
  obtain ⟨J, u9, s9, rfl, hJ, hj, hu9, hs9⟩ := hB
  intro h hh
  exact hJ.lcmp hd (K h hh)
theorem sB.anull (hB : sB l Kj cc own nL R g ad) (hd : decode cc pc = .ok (.aconst_null, 1)) (K : Kj (pc + 1) L (.null :: st) z) : Kj pc L (st) z := by
  obtain ⟨J, u9, s9, rfl, hJ, hj, hu9, hs9⟩ := hB
  intro h hh
  exact hJ.anull hd (K h hh)
theorem sB.if_eq (hB : sB l Kj cc own nL R g ad) {x : Int32} {off : Int} {tgt : Nat} (hd : decode cc pc = .ok (.ifCond .eq off, 3)) (ht : (pc : Int) + off = (tgt : Int)) (Kt : x = 0 → Kj tgt L st z) (Kf : ¬ x = 0 → Kj (pc + 3) L st z) : Kj pc L (.int x :: st) z := by
  obtain ⟨J, u9, s9, rfl, hJ, hj, hu9, hs9⟩ := hB
  intro h hh
  exact hJ.if_eq hd ht (fun q => Kt q h hh) (fun q => Kf q h hh)
theorem sB.icmp_eq (hB : sB l Kj cc own nL R g ad) {x y : Int32} {off : Int} {tgt : Nat} (hd : decode cc pc = .ok (.if_icmp .eq off, 3)) (ht : (pc : Int) + off = (tgt : Int)) (Kt : x = y → Kj tgt L st z) (Kf : ¬ x = y → Kj (pc + 3) L st z) : Kj pc L (.int y :: .int x :: st) z := by
  obtain ⟨J, u9, s9, rfl, hJ, hj, hu9, hs9⟩ := hB
  intro h hh
  exact hJ.icmp_eq hd ht (fun q => Kt q h hh) (fun q => Kf q h hh)
theorem sB.if_ne (hB : sB l Kj cc own nL R g ad) {x : Int32} {off : Int} {tgt : Nat} (hd : decode cc pc = .ok (.ifCond .ne off, 3)) (ht : (pc : Int) + off = (tgt : Int)) (Kt : ¬ x = 0 → Kj tgt L st z) (Kf : x = 0 → Kj (pc + 3) L st z) : Kj pc L (.int x :: st) z := by
  obtain ⟨J, u9, s9, rfl, hJ, hj, hu9, hs9⟩ := hB
  intro h hh
  exact hJ.if_ne hd ht (fun q => Kt q h hh) (fun q => Kf q h hh)
theorem sB.icmp_ne (hB : sB l Kj cc own nL R g ad) {x y : Int32} {off : Int} {tgt : Nat} (hd : decode cc pc = .ok (.if_icmp .ne off, 3)) (ht : (pc : Int) + off = (tgt : Int)) (Kt : ¬ x = y → Kj tgt L st z) (Kf : x = y → Kj (pc + 3) L st z) : Kj pc L (.int y :: .int x :: st) z := by
  obtain ⟨J, u9, s9, rfl, hJ, hj, hu9, hs9⟩ := hB
  intro h hh
  exact hJ.icmp_ne hd ht (fun q => Kt q h hh) (fun q => Kf q h hh)
theorem sB.if_lt (hB : sB l Kj cc own nL R g ad) {x : Int32} {off : Int} {tgt : Nat} (hd : decode cc pc = .ok (.ifCond .lt off, 3)) (ht : (pc : Int) + off = (tgt : Int)) (Kt : x < 0 → Kj tgt L st z) (Kf : ¬ x < 0 → Kj (pc + 3) L st z) : Kj pc L (.int x :: st) z := by
  obtain ⟨J, u9, s9, rfl, hJ, hj, hu9, hs9⟩ := hB
  intro h hh
  exact hJ.if_lt hd ht (fun q => Kt q h hh) (fun q => Kf q h hh)
theorem sB.icmp_lt (hB : sB l Kj cc own nL R g ad) {x y : Int32} {off : Int} {tgt : Nat} (hd : decode cc pc = .ok (.if_icmp .lt off, 3)) (ht : (pc : Int) + off = (tgt : Int)) (Kt : x < y → Kj tgt L st z) (Kf : ¬ x < y → Kj (pc + 3) L st z) : Kj pc L (.int y :: .int x :: st) z := by
  obtain ⟨J, u9, s9, rfl, hJ, hj, hu9, hs9⟩ := hB
  intro h hh
  exact hJ.icmp_lt hd ht (fun q => Kt q h hh) (fun q => Kf q h hh)
theorem sB.if_ge (hB : sB l Kj cc own nL R g ad) {x : Int32} {off : Int} {tgt : Nat} (hd : decode cc pc = .ok (.ifCond .ge off, 3)) (ht : (pc : Int) + off = (tgt : Int)) (Kt : 0 ≤ x → Kj tgt L st z) (Kf : ¬ 0 ≤ x → Kj (pc + 3) L st z) : Kj pc L (.int x :: st) z := by
  obtain ⟨J, u9, s9, rfl, hJ, hj, hu9, hs9⟩ := hB
  intro h hh
  exact hJ.if_ge hd ht (fun q => Kt q h hh) (fun q => Kf q h hh)
theorem sB.icmp_ge (hB : sB l Kj cc own nL R g ad) {x y : Int32} {off : Int} {tgt : Nat} (hd : decode cc pc = .ok (.if_icmp .ge off, 3)) (ht : (pc : Int) + off = (tgt : Int)) (Kt : y ≤ x → Kj tgt L st z) (Kf : ¬ y ≤ x → Kj (pc + 3) L st z) : Kj pc L (.int y :: .int x :: st) z := by
  obtain ⟨J, u9, s9, rfl, hJ, hj, hu9, hs9⟩ := hB
  intro h hh
  exact hJ.icmp_ge hd ht (fun q => Kt q h hh) (fun q => Kf q h hh)
theorem sB.if_gt (hB : sB l Kj cc own nL R g ad) {x : Int32} {off : Int} {tgt : Nat} (hd : decode cc pc = .ok (.ifCond .gt off, 3)) (ht : (pc : Int) + off = (tgt : Int)) (Kt : 0 < x → Kj tgt L st z) (Kf : ¬ 0 < x → Kj (pc + 3) L st z) : Kj pc L (.int x :: st) z := by
  obtain ⟨J, u9, s9, rfl, hJ, hj, hu9, hs9⟩ := hB
  intro h hh
  exact hJ.if_gt hd ht (fun q => Kt q h hh) (fun q => Kf q h hh)
theorem sB.icmp_gt (hB : sB l Kj cc own nL R g ad) {x y : Int32} {off : Int} {tgt : Nat} (hd : decode cc pc = .ok (.if_icmp .gt off, 3)) (ht : (pc : Int) + off = (tgt : Int)) (Kt : y < x → Kj tgt L st z) (Kf : ¬ y < x → Kj (pc + 3) L st z) : Kj pc L (.int y :: .int x :: st) z := by
  obtain ⟨J, u9, s9, rfl, hJ, hj, hu9, hs9⟩ := hB
  intro h hh
  exact hJ.icmp_gt hd ht (fun q => Kt q h hh) (fun q => Kf q h hh)
theorem sB.if_le (hB : sB l Kj cc own nL R g ad) {x : Int32} {off : Int} {tgt : Nat} (hd : decode cc pc = .ok (.ifCond .le off, 3)) (ht : (pc : Int) + off = (tgt : Int)) (Kt : x ≤ 0 → Kj tgt L st z) (Kf : ¬ x ≤ 0 → Kj (pc + 3) L st z) : Kj pc L (.int x :: st) z := by
  obtain ⟨J, u9, s9, rfl, hJ, hj, hu9, hs9⟩ := hB
  intro h hh
  exact hJ.if_le hd ht (fun q => Kt q h hh) (fun q => Kf q h hh)
theorem sB.icmp_le (hB : sB l Kj cc own nL R g ad) {x y : Int32} {off : Int} {tgt : Nat} (hd : decode cc pc = .ok (.if_icmp .le off, 3)) (ht : (pc : Int) + off = (tgt : Int)) (Kt : x ≤ y → Kj tgt L st z) (Kf : ¬ x ≤ y → Kj (pc + 3) L st z) : Kj pc L (.int y :: .int x :: st) z := by
  obtain ⟨J, u9, s9, rfl, hJ, hj, hu9, hs9⟩ := hB
  intro h hh
  exact hJ.icmp_le hd ht (fun q => Kt q h hh) (fun q => Kf q h hh)
theorem sB.goto (hB : sB l Kj cc own nL R g ad) {off : Int} {tgt : Nat} (hd : decode cc pc = .ok (.goto off, 3)) (ht : (pc : Int) + off = (tgt : Int)) (K : Kj tgt L st z) : Kj pc L st z := by
  obtain ⟨J, u9, s9, rfl, hJ, hj, hu9, hs9⟩ := hB
  intro h hh
  exact hJ.goto hd ht (K h hh)
theorem sB.ifnonnull (hB : sB l Kj cc own nL R g ad) {x : Nat} {off : Int} {tgt : Nat} (hd : decode cc pc = .ok (.ifnonnull off, 3)) (ht : (pc : Int) + off = (tgt : Int)) (K : Kj tgt L st z) : Kj pc L (.ref x :: st) z := by
  obtain ⟨J, u9, s9, rfl, hJ, hj, hu9, hs9⟩ := hB
  intro h hh
  exact hJ.ifnonnull hd ht (K h hh)
theorem sB.ifnonnullN (hB : sB l Kj cc own nL R g ad) {off : Int} (hd : decode cc pc = .ok (.ifnonnull off, 3)) (K : Kj (pc + 3) L st z) : Kj pc L (.null :: st) z := by
  obtain ⟨J, u9, s9, rfl, hJ, hj, hu9, hs9⟩ := hB
  intro h hh
  exact hJ.ifnonnullN hd (K h hh)
theorem sB.ifnull (hB : sB l Kj cc own nL R g ad) {x : Nat} {off : Int} (hd : decode cc pc = .ok (.ifnull off, 3)) (K : Kj (pc + 3) L st z) : Kj pc L (.ref x :: st) z := by
  obtain ⟨J, u9, s9, rfl, hJ, hj, hu9, hs9⟩ := hB
  intro h hh
  exact hJ.ifnull hd (K h hh)
theorem sB.ifnullN (hB : sB l Kj cc own nL R g ad) {off : Int} {tgt : Nat} (hd : decode cc pc = .ok (.ifnull off, 3)) (ht : (pc : Int) + off = (tgt : Int)) (K : Kj tgt L st z) : Kj pc L (.null :: st) z := by
  obtain ⟨J, u9, s9, rfl, hJ, hj, hu9, hs9⟩ := hB
  intro h hh
  exact hJ.ifnullN hd ht (K h hh)
theorem sB.lookup (hB : sB l Kj cc own nL R g ad) {dflt : Int} {ps : Array (Int × Int)} {len : Nat} {x : Int32} {off : Int} {tgt : Nat} (hd : decode cc pc = .ok (.lookupswitch dflt ps, len)) (hp : (ps.toList.zip (ps.toList.drop 1)).all (fun (a, next) => a.1 < next.1) = true) (ho : Op.lookupswitch.offset ps.toList dflt x.toInt = off) (ht : (pc : Int) + off = (tgt : Int)) (K : Kj tgt L st z) : Kj pc L (.int x :: st) z := by
  obtain ⟨J, u9, s9, rfl, hJ, hj, hu9, hs9⟩ := hB
  intro h hh
  exact hJ.lookup hd hp ho ht (K h hh)
theorem sB.tableOut (hB : sB l Kj cc own nL R g ad) {dflt lo hi : Int} {offs : Array Int} {len : Nat} {x : Int32} {tgt : Nat} (hd : decode cc pc = .ok (.tableswitch dflt lo hi offs, len)) (hq : x.toInt < lo ∨ hi < x.toInt) (ht : (pc : Int) + dflt = (tgt : Int)) (K : Kj tgt L st z) : Kj pc L (.int x :: st) z := by
  obtain ⟨J, u9, s9, rfl, hJ, hj, hu9, hs9⟩ := hB
  intro h hh
  exact hJ.tableOut hd hq ht (K h hh)
theorem sB.tableIn (hB : sB l Kj cc own nL R g ad) {dflt lo hi : Int} {offs : Array Int} {len : Nat} {x : Int32} {off : Int} {tgt : Nat} (hd : decode cc pc = .ok (.tableswitch dflt lo hi offs, len)) (h1 : ¬ x.toInt < lo) (h2 : ¬ hi < x.toInt) (ho : offs[(x.toInt - lo).toNat]? = some off) (ht : (pc : Int) + off = (tgt : Int)) (K : Kj tgt L st z) : Kj pc L (.int x :: st) z := by
  obtain ⟨J, u9, s9, rfl, hJ, hj, hu9, hs9⟩ := hB
  intro h hh
  exact hJ.tableIn hd h1 h2 ho ht (K h hh)
theorem sB.getI (hB : sB l Kj cc own nL R g ad) {idx ci k i : Nat} {fin : Bool} {t : FieldType} {ks : List Nat} (lk : mFa own idx ci k fin t) (hd : decode cc pc = .ok (.getfield idx, 3)) (hi : i < 145) (hk : sK i = (0, ci, ks)) (hz : ks[k]? = some 0) (K : Kj (pc + 3) L (.int (z.1 i k) :: st) z) : Kj pc L (.ref (ad i) :: st) z := by
  obtain ⟨J, u9, s9, rfl, hJ, hj, hu9, hs9⟩ := hB
  intro h hh
  exact hJ.geta lk hd (fs := sFs ad z i ks) (by rw [hh i hi, hk]; rfl) (v := .int (z.1 i k)) (by rw [sFs_at hz]; rfl) (K h hh)
theorem sB.getR (hB : sB l Kj cc own nL R g ad) {idx ci k i : Nat} {fin : Bool} {t : FieldType} {ks : List Nat} (lk : mFa own idx ci k fin t) (hd : decode cc pc = .ok (.getfield idx, 3)) (hi : i < 145) (hk : sK i = (0, ci, ks)) (hz : ks[k]? = some 1) (K : Kj (pc + 3) L (.ref (ad (z.2.1 i k)) :: st) z) : Kj pc L (.ref (ad i) :: st) z := by
  obtain ⟨J, u9, s9, rfl, hJ, hj, hu9, hs9⟩ := hB
  intro h hh
  exact hJ.geta lk hd (fs := sFs ad z i ks) (by rw [hh i hi, hk]; rfl) (v := .ref (ad (z.2.1 i k))) (by rw [sFs_at hz]; rfl) (K h hh)
theorem sB.getC (hB : sB l Kj cc own nL R g ad) {idx ci k i r : Nat} {fin : Bool} {t : FieldType} {ks : List Nat} (lk : mFa own idx ci k fin t) (hd : decode cc pc = .ok (.getfield idx, 3)) (hi : i < 145) (hk : sK i = (0, ci, ks)) (hz : ks[k]? = some (r + 2)) (K : Kj (pc + 3) L (.ref (ad r) :: st) z) : Kj pc L (.ref (ad i) :: st) z := by
  obtain ⟨J, u9, s9, rfl, hJ, hj, hu9, hs9⟩ := hB
  intro h hh
  exact hJ.geta lk hd (fs := sFs ad z i ks) (by rw [hh i hi, hk]; rfl) (v := .ref (ad r)) (by rw [sFs_at hz]; simp [sV]) (K h hh)
theorem sB.putI (hB : sB l Kj cc own nL R g ad) {idx ci k i : Nat} {t : FieldType} {ks : List Nat} {x : Int32} (lk : mFa own idx ci k false t) (hd : decode cc pc = .ok (.putfield idx, 3)) (hi : i < 145) (hk : sK i = (0, ci, ks)) (hz : ks[k]? = some 0) (hn : narrow t (.int x) = .int x) (hf : fits t (.int x) = true) (K : Kj (pc + 3) L st (sI z i k x)) : Kj pc L (.int x :: .ref (ad i) :: st) z := by
  obtain ⟨J, u9, s9, rfl, hJ, hj, hu9, hs9⟩ := hB
  intro h hh
  refine hJ.puta lk hd (fs := sFs ad z i ks) (by rw [hh i hi, hk]; rfl) hn hf (by rw [sFs_len]; exact (List.getElem?_eq_some_iff.mp hz).1) (sFs_int hz) (K _ (hh.int hj hi ?_))
  rw [hk]; rfl
theorem sB.putR (hB : sB l Kj cc own nL R g ad) {idx ci k i r : Nat} {C : String} {ks : List Nat} (lk : mFa own idx ci k false (.object C)) (hd : decode cc pc = .ok (.putfield idx, 3)) (hi : i < 145) (hk : sK i = (0, ci, ks)) (hz : ks[k]? = some 1) (K : Kj (pc + 3) L st (sP z i k r)) : Kj pc L (.ref (ad r) :: .ref (ad i) :: st) z := by
  obtain ⟨J, u9, s9, rfl, hJ, hj, hu9, hs9⟩ := hB
  intro h hh
  refine hJ.puta lk hd (fs := sFs ad z i ks) (by rw [hh i hi, hk]; rfl) rfl rfl (by rw [sFs_len]; exact (List.getElem?_eq_some_iff.mp hz).1) (sFs_ref hz) (K _ (hh.ref hj hi ?_))
  rw [hk]; rfl
theorem sIn {x : Int32} {j n : Nat} (hx : x = nI j) (hj : j < n) (hn : n < 2 ^ 31) : vp_in x n := by
  subst hx
  exact nI_in hj hn
theorem sCl {x : Int32} {j n : Nat} (hx : x = nI j) (hj : j < n) (hn : n < 2 ^ 31) : x.toNatClampNeg = j := by
  subst hx
  exact nI_clamp (by omega)
theorem sB.iald (hB : sB l Kj cc own nL R g ad) {i n j : Nat} {x : Int32} (hd : decode cc pc = .ok (.iaload, 1)) (hi : i < 145) (hk : sK i = (1, 0, [n])) (hx : x = nI j) (hj9 : j < n) (hn : n < 2 ^ 31) (K : Kj (pc + 1) L (.int (z.1 i j) :: st) z) : Kj pc L (.int x :: .ref (ad i) :: st) z := by
  obtain ⟨J, u9, s9, rfl, hJ, hj, hu9, hs9⟩ := hB
  intro h hh
  refine hJ.iald hd (f := z.1 i) (n := n) (by rw [hh i hi, hk]; rfl) (sIn hx hj9 hn) ?_
  rw [sCl hx hj9 hn]
  exact K h hh
theorem sB.cald (hB : sB l Kj cc own nL R g ad) {i n j : Nat} {x : Int32} (hd : decode cc pc = .ok (.caload, 1)) (hi : i < 145) (hk : sK i = (1, 2, [n])) (hx : x = nI j) (hj9 : j < n) (hn : n < 2 ^ 31) (K : Kj (pc + 1) L (.int (z.1 i j) :: st) z) : Kj pc L (.int x :: .ref (ad i) :: st) z := by
  obtain ⟨J, u9, s9, rfl, hJ, hj, hu9, hs9⟩ := hB
  intro h hh
  refine hJ.cald hd (f := z.1 i) (n := n) (by rw [hh i hi, hk]; rfl) (sIn hx hj9 hn) ?_
  rw [sCl hx hj9 hn]
  exact K h hh
theorem sB.zald (hB : sB l Kj cc own nL R g ad) {i n j : Nat} {x : Int32} (hd : decode cc pc = .ok (.baload, 1)) (hi : i < 145) (hk : sK i = (1, 3, [n])) (hx : x = nI j) (hj9 : j < n) (hn : n < 2 ^ 31) (K : Kj (pc + 1) L (.int (z.1 i j) :: st) z) : Kj pc L (.int x :: .ref (ad i) :: st) z := by
  obtain ⟨J, u9, s9, rfl, hJ, hj, hu9, hs9⟩ := hB
  intro h hh
  refine hJ.zald hd (f := z.1 i) (n := n) (by rw [hh i hi, hk]; rfl) (sIn hx hj9 hn) ?_
  rw [sCl hx hj9 hn]
  exact K h hh
theorem sB.iast (hB : sB l Kj cc own nL R g ad) {i n j : Nat} {x y : Int32} (hd : decode cc pc = .ok (.iastore, 1)) (hi : i < 145) (hk : sK i = (1, 0, [n])) (hx : x = nI j) (hj9 : j < n) (hn : n < 2 ^ 31) (K : Kj (pc + 1) L st (sI z i j y)) : Kj pc L (.int y :: .int x :: .ref (ad i) :: st) z := by
  obtain ⟨J, u9, s9, rfl, hJ, hj, hu9, hs9⟩ := hB
  intro h hh
  refine hJ.iast hd (f := z.1 i) (n := n) (by rw [hh i hi, hk]; rfl) (sIn hx hj9 hn) ?_
  rw [sCl hx hj9 hn]
  refine K _ (hh.int hj hi ?_)
  rw [hk, sCell_i, sRow_upd]
theorem sB.cast (hB : sB l Kj cc own nL R g ad) {i n j : Nat} {x y : Int32} (hd : decode cc pc = .ok (.castore, 1)) (hi : i < 145) (hk : sK i = (1, 2, [n])) (hx : x = nI j) (hj9 : j < n) (hn : n < 2 ^ 31) (hy : vp_nar .char y = y) (K : Kj (pc + 1) L st (sI z i j y)) : Kj pc L (.int y :: .int x :: .ref (ad i) :: st) z := by
  obtain ⟨J, u9, s9, rfl, hJ, hj, hu9, hs9⟩ := hB
  intro h hh
  refine hJ.cast hd (f := z.1 i) (n := n) (by rw [hh i hi, hk]; rfl) (sIn hx hj9 hn) ?_
  rw [sCl hx hj9 hn, hy]
  refine K _ (hh.int hj hi ?_)
  rw [hk, sCell_i, sRow_upd]
theorem sB.zast (hB : sB l Kj cc own nL R g ad) {i n j : Nat} {x y : Int32} (hd : decode cc pc = .ok (.bastore, 1)) (hi : i < 145) (hk : sK i = (1, 3, [n])) (hx : x = nI j) (hj9 : j < n) (hn : n < 2 ^ 31) (hy : vp_nar .boolean y = y) (K : Kj (pc + 1) L st (sI z i j y)) : Kj pc L (.int y :: .int x :: .ref (ad i) :: st) z := by
  obtain ⟨J, u9, s9, rfl, hJ, hj, hu9, hs9⟩ := hB
  intro h hh
  refine hJ.zast hd (f := z.1 i) (n := n) (by rw [hh i hi, hk]; rfl) (sIn hx hj9 hn) ?_
  rw [sCl hx hj9 hn, hy]
  refine K _ (hh.int hj hi ?_)
  rw [hk, sCell_i, sRow_upd]
theorem sB.aald4 (hB : sB l Kj cc own nL R g ad) {i n j b : Nat} {x : Int32} (hd : decode cc pc = .ok (.aaload, 1)) (hi : i < 145) (hk : sK i = (2, 4, [n, b])) (hx : x = nI j) (hj9 : j < n) (hn : n < 2 ^ 31) (K : Kj (pc + 1) L (.ref (ad (sRf z i b j)) :: st) z) : Kj pc L (.int x :: .ref (ad i) :: st) z := by
  obtain ⟨J, u9, s9, rfl, hJ, hj, hu9, hs9⟩ := hB
  intro h hh
  refine hJ.aald4 hd (f := fun j => some (ad (sRf z i b j))) (n := n) (by rw [hh i hi, hk]; rfl) (sIn hx hj9 hn) ?_
  rw [sCl hx hj9 hn]
  exact K h hh
theorem sB.aald5 (hB : sB l Kj cc own nL R g ad) {i n j b : Nat} {x : Int32} (hd : decode cc pc = .ok (.aaload, 1)) (hi : i < 145) (hk : sK i = (2, 5, [n, b])) (hx : x = nI j) (hj9 : j < n) (hn : n < 2 ^ 31) (K : Kj (pc + 1) L (.ref (ad (sRf z i b j)) :: st) z) : Kj pc L (.int x :: .ref (ad i) :: st) z := by
  obtain ⟨J, u9, s9, rfl, hJ, hj, hu9, hs9⟩ := hB
  intro h hh
  refine hJ.aald5 hd (f := fun j => some (ad (sRf z i b j))) (n := n) (by rw [hh i hi, hk]; rfl) (sIn hx hj9 hn) ?_
  rw [sCl hx hj9 hn]
  exact K h hh
theorem sB.aast4 (hB : sB l Kj cc own nL R g ad) {i n j r : Nat} {x : Int32} {ks : List Nat} (hd : decode cc pc = .ok (.aastore, 1)) (hi : i < 145) (hk : sK i = (2, 4, [n, 0])) (hx : x = nI j) (hj9 : j < n) (hn : n < 2 ^ 31) (hr : r < 145) (hkr : sK r = (0, mRunC, ks)) (K : Kj (pc + 1) L st (sP z i j r)) : Kj pc L (.ref (ad r) :: .int x :: .ref (ad i) :: st) z := by
  obtain ⟨J, u9, s9, rfl, hJ, hj, hu9, hs9⟩ := hB
  intro h hh
  refine hJ.aast4 hd (f := fun j => some (ad (sRf z i 0 j))) (n := n) (by rw [hh i hi, hk]; rfl) (r := vwCl.getD mRunC ("", T_Ru, 0)) rfl rfl (show h (ad r) = some (mO mRunC (sFs ad z r ks)) by rw [hh r hr, hkr]; rfl) (sIn hx hj9 hn) ?_
  rw [sCl hx hj9 hn]
  refine K _ (hh.ref hj hi ?_)
  rw [hk, sCell_r, sRef_up]
theorem sB.lald (hB : sB l Kj cc own nL R g ad) {i : Nat} (hd : decode cc pc = .ok (.laload, 1)) (hi : i < 145) (hk : sK i = (3, 0, [])) (K : Kj (pc + 1) L (.long (z.2.2 0) :: st) z) : Kj pc L (.int 0 :: .ref (ad i) :: st) z := by
  obtain ⟨J, u9, s9, rfl, hJ, hj, hu9, hs9⟩ := hB
  intro h hh
  exact hJ.lald hd (f := z.2.2) (n := 1) (by rw [hh i hi, hk]; rfl) (by unfold vp_in; decide) (K h hh)
theorem sB.last (hB : sB l Kj cc own nL R g ad) {x : Int64} (hd : decode cc pc = .ok (.lastore, 1)) (K : Kj (pc + 1) L st (sLg z x)) : Kj pc L (.long x :: .int 0 :: .ref (ad 144) :: st) z := by
  obtain ⟨J, u9, s9, rfl, hJ, hj, hu9, hs9⟩ := hB
  intro h hh
  have hk : sK 144 = (3, 0, []) := rfl
  have hi : (144 : Nat) < 145 := by decide
  refine hJ.last hd (f := z.2.2) (n := 1) (by rw [hh 144 hi, hk]; rfl) (by unfold vp_in; decide) (K _ (hh.upd hj hi ?_ (fun m9 hm q => sCell_lg (sK_lg m9 hm q))))
  rw [hk]; rfl
end SB
section SB4
variable {l : Launch} {Kj : sJt} {cc : ByteArray} {own : String} {nL : Nat} {R : Room} {g : mG} {ad : Nat → Nat} {pc : Nat} {L : List (Option Value)} {st : List Value} {z : sT}
variable {y : MethodName} {cy : ByteArray} {nY : Nat} {ry : Option FieldType} {n idx : Nat} {Post : Option Value → sT → Prop} {rest As : List Value}
theorem sB.callV (hB : sB l Kj cc own nL R g ad) {b ci : Nat} {ks : List Nat} {T : u_T} {N : Nat} (lk : mLkV own idx y As.length) (hcd : mCd y cy nY ry) (hM : sC l y cy nY ry n g ad (.ref (ad b) :: As) z Post) (hci : vwCl[ci]? = some (y.cls, T, N)) (hi : b < 145) (hk : sK b = (0, ci, ks)) (hd : decode cc pc = .ok (.invokevirtual idx, 3)) (hst : st = As.reverse ++ .ref (ad b) :: rest) (hLn : L.length = nL) (hrm : n + 1 ≤ R.frames ∧ 8 + (nY + 11) + 32 * n ≤ R.locals) (hw : (rest.map fun v => v.category).sum ≤ 8) (K : ∀ (r : Option Value) (z2 : sT), Post r z2 → Kj (pc + 3) L (r.toList ++ rest) z2) : Kj pc L st z := by
  obtain ⟨J, u9, s9, rfl, hJ, hj, hu9, hs9⟩ := hB
  intro h hh
  exact hJ.callV lk hcd (hM hj h hh) hci (show h (ad b) = some (mO ci (sFs ad z b ks)) by rw [hh b hi, hk]; rfl) hd hst hLn hrm hw ⟨hu9, hs9⟩ (fun r h2 q => by obtain ⟨w, q1, q2⟩ := q; exact K r w q1 h2 q2)
theorem sB.callVN (hB : sB l Kj cc own nL R g ad) {b ci : Nat} {ks : List Nat} {T : u_T} {N : Nat} (lk : mLkVN own idx y As.length) (hcd : mCd y cy nY ry) (hM : sC l y cy nY ry n g ad (.ref (ad b) :: As) z Post) (hci : vwCl[ci]? = some (y.cls, T, N)) (hi : b < 145) (hk : sK b = (0, ci, ks)) (hd : decode cc pc = .ok (.invokevirtual idx, 3)) (hst : st = As.reverse ++ .ref (ad b) :: rest) (hLn : L.length = nL) (hrm : n + 1 ≤ R.frames ∧ 8 + (nY + 11) + 32 * n ≤ R.locals) (hw : (rest.map fun v => v.category).sum ≤ 8) (K : ∀ (r : Option Value) (z2 : sT), Post r z2 → Kj (pc + 3) L (r.toList ++ rest) z2) : Kj pc L st z := by
  obtain ⟨J, u9, s9, rfl, hJ, hj, hu9, hs9⟩ := hB
  intro h hh
  exact hJ.callVN lk hcd (hM hj h hh) hci (show h (ad b) = some (mO ci (sFs ad z b ks)) by rw [hh b hi, hk]; rfl) hd hst hLn hrm hw ⟨hu9, hs9⟩ (fun r h2 q => by obtain ⟨w, q1, q2⟩ := q; exact K r w q1 h2 q2)
theorem sB.callS (hB : sB l Kj cc own nL R g ad) (lk : mLkS own idx y As.length) (hcd : mCd y cy nY ry) (hM : sC l y cy nY ry n g ad (As) z Post) (hd : decode cc pc = .ok (.invokestatic idx, 3)) (hst : st = As.reverse ++ rest) (hLn : L.length = nL) (hrm : n + 1 ≤ R.frames ∧ 8 + (nY + 11) + 32 * n ≤ R.locals) (hw : (rest.map fun v => v.category).sum ≤ 8) (K : ∀ (r : Option Value) (z2 : sT), Post r z2 → Kj (pc + 3) L (r.toList ++ rest) z2) : Kj pc L st z := by
  obtain ⟨J, u9, s9, rfl, hJ, hj, hu9, hs9⟩ := hB
  intro h hh
  exact hJ.callS lk hcd (hM hj h hh) hd hst hLn hrm hw ⟨hu9, hs9⟩ (fun r h2 q => by obtain ⟨w, q1, q2⟩ := q; exact K r w q1 h2 q2)
theorem sB.callSN (hB : sB l Kj cc own nL R g ad) (lk : mLkSN own idx y As.length) (hcd : mCd y cy nY ry) (hM : sC l y cy nY ry n g ad (As) z Post) (hd : decode cc pc = .ok (.invokestatic idx, 3)) (hst : st = As.reverse ++ rest) (hLn : L.length = nL) (hrm : n + 1 ≤ R.frames ∧ 8 + (nY + 11) + 32 * n ≤ R.locals) (hw : (rest.map fun v => v.category).sum ≤ 8) (K : ∀ (r : Option Value) (z2 : sT), Post r z2 → Kj (pc + 3) L (r.toList ++ rest) z2) : Kj pc L st z := by
  obtain ⟨J, u9, s9, rfl, hJ, hj, hu9, hs9⟩ := hB
  intro h hh
  exact hJ.callSN lk hcd (hM hj h hh) hd hst hLn hrm hw ⟨hu9, hs9⟩ (fun r h2 q => by obtain ⟨w, q1, q2⟩ := q; exact K r w q1 h2 q2)
theorem sB.copyi (hB : sB l Kj cc own nL R g ad) {i i0 n n0 : Nat} (q1 : Cond.methodLink own idx arraycopyName ∈ mWS) (q2 : Cond.native arraycopyName ∈ mWS) (q3 : Cond.static arraycopyName ∈ mWS) (q4 : Cond.initialized "java/lang/System" ∈ mWS) (hLn : L.length = nL) (hd : decode cc pc = .ok (.invokestatic idx, 3)) (hi : i < 145) (hk : sK i = (1, 0, [n])) (hi0 : i0 < 145) (hk0 : sK i0 = (1, 0, [n])) (hn0 : n = n0) {c9 : Int32} (hc9 : c9 = nI n) (hn9 : n < 2 ^ 31) (hfr : 1 ≤ R.frames) (hlo : (st.map fun v => v.category).sum + (nativeFrameWords "java/lang/System" "arraycopy" 5 + 11) ≤ R.locals) (K : Kj (pc + 3) L st (sCp z i0 i n)) : Kj pc L (.int c9 :: .int 0 :: .ref (ad i) :: .int 0 :: .ref (ad i0) :: st) z := by
  obtain ⟨J, u9, s9, rfl, hJ, hj, hu9, hs9⟩ := hB
  intro h hh
  subst hc9
  have e0 : (nI n).toNatClampNeg = n := nI_clamp hn9
  have e1 : (0 : Int32).toNatClampNeg = 0 := rfl
  refine hJ.copyi q1 q2 q3 q4 hLn hd (f := z.1 i0) (f1 := z.1 i) (n0 := n) (n1 := n) (show h (ad i0) = _ by rw [hh i0 hi0, hk0]; rfl) (show h (ad i) = _ by rw [hh i hi, hk]; rfl) (by decide) (by decide) (nI_pos hn9) (by rw [e0, e1]; omega) (by rw [e0, e1]; omega) hfr hlo ?_
  rw [e0, e1]
  refine K _ (hh.upd hj hi ?_ (fun m9 _ q => sCell_ne (by funext b; simp [sCp, q]) rfl rfl))
  rw [hk, sCell_i]
  congr 3
  funext b
  simp [sCp, va_cpy]
end SB4
