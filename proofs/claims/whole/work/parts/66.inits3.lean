theorem inQ.iff {g : mG} {D D2 : Nat → Prop} {q a : Nat} {h h2 : mHp} {r : Option Value} (hi : inQ g D q a h r h2) (hd : ∀ i, D2 i → D i) : inQ g D2 q a h r h2 := by
  obtain ⟨r1, f, f1, f2, f3, f4, f5⟩ := hi
  exact ⟨r1, f, f1, fun i a b => f2 i (hd i a) b, fun i a => f3 i (hd i a), fun i j a b => f4 i j (hd i a) (hd j b), f5⟩
def dG (k : Nat) : Nat → Prop := fun i => i < 145 ∧ 1 ≤ grp i ∧ grp i ≤ k
theorem gStep {g : mG} {f : Nat → Nat} {h hc h2 : mHp} {k q r a : Nat} {e0 e2 : va_E} {r9 : Option Value} (n : nw g (dG k) f h hc) (hr : hc r = none) (hi : inQ g (fun i => i < 145 ∧ grp i = k + 1) q r (mU hc r e0) r9 h2) (hq : q < 145 ∧ grp q = k + 1) (hdn : ∀ x, hc x = none → h x = none) (hkp : ∀ (x : Nat) (e : va_E), x ≠ a → h x = some e → hc x = some e) (ha : h a ≠ none) :
    r9 = none ∧ kp hc h2 ∧ ∃ f2 : Nat → Nat, (∀ i, dG k i → f2 i = f i) ∧ f2 q = r ∧ nw g (dG (k + 1)) f2 h (mU h2 a e2) ∧ (∀ x, mU h2 a e2 x = none → h x = none) ∧ (∀ (x : Nat) (e : va_E), x ≠ a → h x = some e → mU h2 a e2 x = some e) := by
  obtain ⟨rfl, f3, g1, n3, k3⟩ := inQ.nw (D := fun i => i < 145 ∧ grp i = k + 1) hr hq hi
  obtain ⟨f2, e1, e3, n2⟩ := n.merge n3 k3 hdn (fun i hi p => by have h1 := hi.2.2; have h2 := p.2; omega) (fun i hi c hc p => by
    have h1 := (g_ch i hi.1 c hc).2 (fun q => by
      rw [q] at hi
      exact absurd hi.2.1 (by decide))
    have h2 := p.2
    have h3 := hi.2.2
    omega) (fun i hi c hc => by
    have h1 := g_ch i hi.1 c hc
    refine ⟨h1.1, (h1.2 (fun q => ?_)).trans hi.2⟩
    rw [q] at hi
    have h2 : grp 0 = k + 1 := hi.2
    have h3 : grp 0 = 0 := rfl
    omega)
  refine ⟨rfl, k3, f2, e1, (e3 q hq).trans g1, (n2.put ha).iff (fun i hi => ?_), fun x hx => ?_, fun x e hx he => ?_⟩
  · obtain ⟨a1, a2, a3⟩ := hi
    by_cases hk : grp i = k + 1
    · exact Or.inr ⟨a1, hk⟩
    · exact Or.inl ⟨a1, a2, by omega⟩
  · by_cases p : x = a
    · rw [p, mU_self] at hx; cases hx
    · rw [mU_ne p] at hx
      cases hx2 : hc x with
      | none => exact hdn x hx2
      | some e => rw [k3 _ _ hx2] at hx; cases hx
  · rw [mU_ne hx]
    exact k3 _ _ (hkp x e hx he)
set_option maxHeartbeats 2000000 in
theorem n_Pw (l : Launch) (g : mG) (a : Nat) (h : mHp) (ha : h a = some (mO 0 [.null, .null, .null, .null, .null, .null, .int 0, .int 0, .int 0, .int 0, .int 0, .int 0])) : mC l y_Pw_init c_Pw_init 1 none 3 125 1536 g [.ref a] h (inQ g (fun i => i < 145 ∧ grp i ≤ 6) 0 a h) := by
  have hna : h a ≠ none := by rw [ha]; intro q; cases q
  refine mC.intro (by decide) (by simp [Value.category]) (Nat.le_of_ble_eq_true rfl) (fun J hJ hE => ?_)
  show J 0 [some (.ref a)] [] h 0 0
  have s6 : ∀ (hc : mHp) (f : Nat → Nat), nw g (dG 6) f h hc → hc a = some (mO 0 [.ref (f 1), .ref (f 3), .ref (f 5), .ref (f 7), .ref (f 8), .ref (f 11), .int 0, .int 0, .int 0, .int 0, .int 0, .int 0]) → (∀ x, hc x = none → h x = none) → (∀ (x : Nat) (e : va_E), x ≠ a → h x = some e → hc x = some e) → J 70 [some (.ref a)] [] hc 125 1536 := by
    intro hc f hn hca hdn hkp
    refine hJ.aload_n d_Pw_init_70 rfl ?_
    refine hJ.iconst d_Pw_init_71 (v := -1) rfl ?_
    refine hJ.putf fa_Pw_43 d_Pw_init_72 hca rfl rfl (Nat.le_of_ble_eq_true rfl) (fs2 := [.ref (f 1), .ref (f 3), .ref (f 5), .ref (f 7), .ref (f 8), .ref (f 11), .int (-1), .int 0, .int 0, .int 0, .int 0, .int 0]) rfl ?_
    refine hE.2.2 _ _ _ _ _ d_Pw_init_75 rfl ?_ (by decide) (by decide)
    refine (hn.put hna).done hna (fun p => absurd p.2.1 (by decide)) (fun i hi c hc p => ?_) mU_self (fun f2 k1 _ => Or.inl ?_) (fun x e hx he => by rw [mU_ne hx]; exact hkp x e hx he) (fun i hi => ?_)
    · have h1 := (g_ch i hi.1 c hc).2 (fun q => by
        rw [q] at hi
        exact absurd hi.2.1 (by decide))
      rw [p] at h1
      have h2 : grp 0 = 0 := rfl
      have h3 := hi.2.1
      omega
    · rw [← k1 1 ⟨by decide, by decide, by decide⟩, ← k1 3 ⟨by decide, by decide, by decide⟩, ← k1 5 ⟨by decide, by decide, by decide⟩, ← k1 7 ⟨by decide, by decide, by decide⟩, ← k1 8 ⟨by decide, by decide, by decide⟩, ← k1 11 ⟨by decide, by decide, by decide⟩]
      rfl
    · by_cases h0 : i = 0
      · exact Or.inr h0
      · refine Or.inl ⟨hi.1, ?_, hi.2⟩
        have h9 : ∀ i, i < 145 → i ≠ 0 → 1 ≤ grp i := by decide +kernel
        exact h9 i hi.1 h0
  have s5 : ∀ (hc : mHp) (f : Nat → Nat), nw g (dG 5) f h hc → hc a = some (mO 0 [.ref (f 1), .ref (f 3), .ref (f 5), .ref (f 7), .ref (f 8), .null, .int 0, .int 0, .int 0, .int 0, .int 0, .int 0]) → (∀ x, hc x = none → h x = none) → (∀ (x : Nat) (e : va_E), x ≠ a → h x = some e → hc x = some e) → J 59 [some (.ref a)] [] hc 114 1466 := by
    intro hc f hn hca hdn hkp
    refine hJ.aload_n d_Pw_init_59 rfl ?_
    refine hJ.new nl_Pw_33 d_Pw_init_60 (by decide) (Nat.le_of_ble_eq_true rfl) (fun r hr => ?_)
    refine hJ.dup d_Pw_init_63 rfl ?_
    refine hJ.callIN (As := []) (rest := [.ref r, .ref a]) lk_Pw_35 cd_Pt_init ((n_Pt l g r 11 22 _ (Or.inr ⟨rfl, rfl⟩) mU_self).mono (fun r9 h9 p => p.iff (D2 := fun i => i < 145 ∧ grp i = 6) (fun i hi => by have := g_6 i hi.1 hi.2; unfold dEl; omega))) d_Pw_init_64 rfl rfl (by decide) (by simp [Value.category]) ⟨by decide, Nat.le_of_ble_eq_true rfl⟩ (fun r9 h2 hp => ?_)
    obtain ⟨rfl, k3, f2, k1, k2, n2, dn2, kp2⟩ := gStep (k := 5) (q := 11) (a := a) (e2 := mO 0 [.ref (f 1), .ref (f 3), .ref (f 5), .ref (f 7), .ref (f 8), .ref r, .int 0, .int 0, .int 0, .int 0, .int 0, .int 0]) hn hr hp ⟨by decide, rfl⟩ hdn hkp hna
    refine hJ.putf fa_Pw_40 d_Pw_init_67 (k3 _ _ hca) rfl rfl (Nat.le_of_ble_eq_true rfl) (fs2 := [.ref (f 1), .ref (f 3), .ref (f 5), .ref (f 7), .ref (f 8), .ref r, .int 0, .int 0, .int 0, .int 0, .int 0, .int 0]) rfl ?_
    refine s6 _ f2 n2 ?_ dn2 kp2
    rw [mU_self, k1 1 ⟨by decide, by decide, by decide⟩, k1 3 ⟨by decide, by decide, by decide⟩, k1 5 ⟨by decide, by decide, by decide⟩, k1 7 ⟨by decide, by decide, by decide⟩, k1 8 ⟨by decide, by decide, by decide⟩, k2]
  have s4 : ∀ (hc : mHp) (f : Nat → Nat), nw g (dG 4) f h hc → hc a = some (mO 0 [.ref (f 1), .ref (f 3), .ref (f 5), .ref (f 7), .null, .null, .int 0, .int 0, .int 0, .int 0, .int 0, .int 0]) → (∀ x, hc x = none → h x = none) → (∀ (x : Nat) (e : va_E), x ≠ a → h x = some e → hc x = some e) → J 48 [some (.ref a)] [] hc 103 1396 := by
    intro hc f hn hca hdn hkp
    refine hJ.aload_n d_Pw_init_48 rfl ?_
    refine hJ.new nl_Pw_33 d_Pw_init_49 (by decide) (Nat.le_of_ble_eq_true rfl) (fun r hr => ?_)
    refine hJ.dup d_Pw_init_52 rfl ?_
    refine hJ.callIN (As := []) (rest := [.ref r, .ref a]) lk_Pw_35 cd_Pt_init ((n_Pt l g r 8 14 _ (Or.inl ⟨rfl, rfl⟩) mU_self).mono (fun r9 h9 p => p.iff (D2 := fun i => i < 145 ∧ grp i = 5) (fun i hi => by have := g_5 i hi.1 hi.2; unfold dEl; omega))) d_Pw_init_53 rfl rfl (by decide) (by simp [Value.category]) ⟨by decide, Nat.le_of_ble_eq_true rfl⟩ (fun r9 h2 hp => ?_)
    obtain ⟨rfl, k3, f2, k1, k2, n2, dn2, kp2⟩ := gStep (k := 4) (q := 8) (a := a) (e2 := mO 0 [.ref (f 1), .ref (f 3), .ref (f 5), .ref (f 7), .ref r, .null, .int 0, .int 0, .int 0, .int 0, .int 0, .int 0]) hn hr hp ⟨by decide, rfl⟩ hdn hkp hna
    refine hJ.putf fa_Pw_36 d_Pw_init_56 (k3 _ _ hca) rfl rfl (Nat.le_of_ble_eq_true rfl) (fs2 := [.ref (f 1), .ref (f 3), .ref (f 5), .ref (f 7), .ref r, .null, .int 0, .int 0, .int 0, .int 0, .int 0, .int 0]) rfl ?_
    refine s5 _ f2 n2 ?_ dn2 kp2
    rw [mU_self, k1 1 ⟨by decide, by decide, by decide⟩, k1 3 ⟨by decide, by decide, by decide⟩, k1 5 ⟨by decide, by decide, by decide⟩, k1 7 ⟨by decide, by decide, by decide⟩, k2]
  have s3 : ∀ (hc : mHp) (f : Nat → Nat), nw g (dG 3) f h hc → hc a = some (mO 0 [.ref (f 1), .ref (f 3), .ref (f 5), .null, .null, .null, .int 0, .int 0, .int 0, .int 0, .int 0, .int 0]) → (∀ x, hc x = none → h x = none) → (∀ (x : Nat) (e : va_E), x ≠ a → h x = some e → hc x = some e) → J 37 [some (.ref a)] [] hc 102 1391 := by
    intro hc f hn hca hdn hkp
    refine hJ.aload_n d_Pw_init_37 rfl ?_
    refine hJ.new nl_Pw_26 d_Pw_init_38 (by decide) (Nat.le_of_ble_eq_true rfl) (fun r hr => ?_)
    refine hJ.dup d_Pw_init_41 rfl ?_
    refine hJ.callIN (As := []) (rest := [.ref r, .ref a]) lk_Pw_28 cd_Ev_init (n_Ev l g r _ mU_self) d_Pw_init_42 rfl rfl (by decide) (by simp [Value.category]) ⟨by decide, Nat.le_of_ble_eq_true rfl⟩ (fun r9 h2 hp => ?_)
    obtain ⟨rfl, k3, f2, k1, k2, n2, dn2, kp2⟩ := gStep (k := 3) (q := 7) (a := a) (e2 := mO 0 [.ref (f 1), .ref (f 3), .ref (f 5), .ref r, .null, .null, .int 0, .int 0, .int 0, .int 0, .int 0, .int 0]) hn hr hp ⟨by decide, rfl⟩ hdn hkp hna
    refine hJ.putF fa_Pw_29 rfl d_Pw_init_45 (k3 _ _ hca) rfl rfl (Nat.le_of_ble_eq_true rfl) (fs2 := [.ref (f 1), .ref (f 3), .ref (f 5), .ref r, .null, .null, .int 0, .int 0, .int 0, .int 0, .int 0, .int 0]) rfl ?_
    refine s4 _ f2 n2 ?_ dn2 kp2
    rw [mU_self, k1 1 ⟨by decide, by decide, by decide⟩, k1 3 ⟨by decide, by decide, by decide⟩, k1 5 ⟨by decide, by decide, by decide⟩, k2]
  have s2 : ∀ (hc : mHp) (f : Nat → Nat), nw g (dG 2) f h hc → hc a = some (mO 0 [.ref (f 1), .ref (f 3), .null, .null, .null, .null, .int 0, .int 0, .int 0, .int 0, .int 0, .int 0]) → (∀ x, hc x = none → h x = none) → (∀ (x : Nat) (e : va_E), x ≠ a → h x = some e → hc x = some e) → J 26 [some (.ref a)] [] hc 52 717 := by
    intro hc f hn hca hdn hkp
    refine hJ.aload_n d_Pw_init_26 rfl ?_
    refine hJ.new nl_Pw_16 d_Pw_init_27 (by decide) (Nat.le_of_ble_eq_true rfl) (fun r hr => ?_)
    refine hJ.dup d_Pw_init_30 rfl ?_
    refine hJ.callIN (As := []) (rest := [.ref r, .ref a]) lk_Pw_18 cd_RL_init ((n_RL l g r 5 54 _ (Or.inr ⟨rfl, rfl⟩) mU_self).mono (fun r9 h9 p => p.iff (D2 := fun i => i < 145 ∧ grp i = 3) (fun i hi => by have := g_3 i hi.1 hi.2; unfold dRu; omega))) d_Pw_init_31 rfl rfl (by decide) (by simp [Value.category]) ⟨by decide, Nat.le_of_ble_eq_true rfl⟩ (fun r9 h2 hp => ?_)
    obtain ⟨rfl, k3, f2, k1, k2, n2, dn2, kp2⟩ := gStep (k := 2) (q := 5) (a := a) (e2 := mO 0 [.ref (f 1), .ref (f 3), .ref r, .null, .null, .null, .int 0, .int 0, .int 0, .int 0, .int 0, .int 0]) hn hr hp ⟨by decide, rfl⟩ hdn hkp hna
    refine hJ.putF fa_Pw_23 rfl d_Pw_init_34 (k3 _ _ hca) rfl rfl (Nat.le_of_ble_eq_true rfl) (fs2 := [.ref (f 1), .ref (f 3), .ref r, .null, .null, .null, .int 0, .int 0, .int 0, .int 0, .int 0, .int 0]) rfl ?_
    refine s3 _ f2 n2 ?_ dn2 kp2
    rw [mU_self, k1 1 ⟨by decide, by decide, by decide⟩, k1 3 ⟨by decide, by decide, by decide⟩, k2]
  have s1 : ∀ (hc : mHp) (f : Nat → Nat), nw g (dG 1) f h hc → hc a = some (mO 0 [.ref (f 1), .null, .null, .null, .null, .null, .int 0, .int 0, .int 0, .int 0, .int 0, .int 0]) → (∀ x, hc x = none → h x = none) → (∀ (x : Nat) (e : va_E), x ≠ a → h x = some e → hc x = some e) → J 15 [some (.ref a)] [] hc 2 43 := by
    intro hc f hn hca hdn hkp
    refine hJ.aload_n d_Pw_init_15 rfl ?_
    refine hJ.new nl_Pw_16 d_Pw_init_16 (by decide) (Nat.le_of_ble_eq_true rfl) (fun r hr => ?_)
    refine hJ.dup d_Pw_init_19 rfl ?_
    refine hJ.callIN (As := []) (rest := [.ref r, .ref a]) lk_Pw_18 cd_RL_init ((n_RL l g r 3 30 _ (Or.inl ⟨rfl, rfl⟩) mU_self).mono (fun r9 h9 p => p.iff (D2 := fun i => i < 145 ∧ grp i = 2) (fun i hi => by have := g_2 i hi.1 hi.2; unfold dRu; omega))) d_Pw_init_20 rfl rfl (by decide) (by simp [Value.category]) ⟨by decide, Nat.le_of_ble_eq_true rfl⟩ (fun r9 h2 hp => ?_)
    obtain ⟨rfl, k3, f2, k1, k2, n2, dn2, kp2⟩ := gStep (k := 1) (q := 3) (a := a) (e2 := mO 0 [.ref (f 1), .ref r, .null, .null, .null, .null, .int 0, .int 0, .int 0, .int 0, .int 0, .int 0]) hn hr hp ⟨by decide, rfl⟩ hdn hkp hna
    refine hJ.putF fa_Pw_19 rfl d_Pw_init_23 (k3 _ _ hca) rfl rfl (Nat.le_of_ble_eq_true rfl) (fs2 := [.ref (f 1), .ref r, .null, .null, .null, .null, .int 0, .int 0, .int 0, .int 0, .int 0, .int 0]) rfl ?_
    refine s2 _ f2 n2 ?_ dn2 kp2
    rw [mU_self, k1 1 ⟨by decide, by decide, by decide⟩, k2]
  have s0 : ∀ (hc : mHp) (f : Nat → Nat), nw g (dG 0) f h hc → hc a = some (mO 0 [.null, .null, .null, .null, .null, .null, .int 0, .int 0, .int 0, .int 0, .int 0, .int 0]) → (∀ x, hc x = none → h x = none) → (∀ (x : Nat) (e : va_E), x ≠ a → h x = some e → hc x = some e) → J 4 [some (.ref a)] [] hc 0 0 := by
    intro hc f hn hca hdn hkp
    refine hJ.aload_n d_Pw_init_4 rfl ?_
    refine hJ.new nl_Pw_9 d_Pw_init_5 (by decide) (Nat.le_of_ble_eq_true rfl) (fun r hr => ?_)
    refine hJ.dup d_Pw_init_8 rfl ?_
    refine hJ.callIN (As := []) (rest := [.ref r, .ref a]) lk_Pw_11 cd_Rd_init (n_Rd l g r _ mU_self) d_Pw_init_9 rfl rfl (by decide) (by simp [Value.category]) ⟨by decide, Nat.le_of_ble_eq_true rfl⟩ (fun r9 h2 hp => ?_)
    obtain ⟨rfl, k3, f2, k1, k2, n2, dn2, kp2⟩ := gStep (k := 0) (q := 1) (a := a) (e2 := mO 0 [.ref r, .null, .null, .null, .null, .null, .int 0, .int 0, .int 0, .int 0, .int 0, .int 0]) hn hr hp ⟨by decide, rfl⟩ hdn hkp hna
    refine hJ.putF fa_Pw_12 rfl d_Pw_init_12 (k3 _ _ hca) rfl rfl (Nat.le_of_ble_eq_true rfl) (fs2 := [.ref r, .null, .null, .null, .null, .null, .int 0, .int 0, .int 0, .int 0, .int 0, .int 0]) rfl ?_
    refine s1 _ f2 n2 ?_ dn2 kp2
    rw [mU_self, k2]
  refine hJ.aload_n d_Pw_init_0 rfl ?_
  refine hJ.objInit oi_Pw oi_i oi_c rfl d_Pw_init_1 (by decide) (by decide) ?_
  exact s0 h (fun _ => 0) ⟨fun i hi => by have := hi.2; omega, fun i hi => by have := hi.2; omega, fun i j hi => by have := hi.2; omega⟩ ha (fun x hx => hx) (fun x e _ he => he)
