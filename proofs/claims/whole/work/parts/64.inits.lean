theorem oi_Pw : Cond.methodLink R_Pw 3 Lib.objectInit ∈ mWS := List.mem_filter.mpr (by decide +kernel)
theorem oi_Rd : Cond.methodLink R_Rd 3 Lib.objectInit ∈ mWS := List.mem_filter.mpr (by decide +kernel)
theorem oi_RL : Cond.methodLink R_RL 3 Lib.objectInit ∈ mWS := List.mem_filter.mpr (by decide +kernel)
theorem oi_Ev : Cond.methodLink R_Ev 1 Lib.objectInit ∈ mWS := List.mem_filter.mpr (by decide +kernel)
theorem oi_Pt : Cond.methodLink R_Pt 3 Lib.objectInit ∈ mWS := List.mem_filter.mpr (by decide +kernel)
theorem oi_El : Cond.methodLink R_El 3 Lib.objectInit ∈ mWS := List.mem_filter.mpr (by decide +kernel)
theorem oi_Ru : Cond.methodLink R_Ru 3 Lib.objectInit ∈ mWS := List.mem_filter.mpr (by decide +kernel)
theorem oi_Md : Cond.methodLink R_Md 1 Lib.objectInit ∈ mWS := List.mem_filter.mpr (by decide +kernel)
theorem oi_i : Cond.instanceMethod Lib.objectInit ∈ mWS := List.mem_filter.mpr (by decide +kernel)
theorem oi_c : Cond.code Lib.objectInit ⟨#[0xb1]⟩ 1 none ∈ mWS := List.mem_filter.mpr (by decide +kernel)
theorem ac_int : Cond.arrayClass .int ∈ mWS := List.mem_filter.mpr (by decide +kernel)
theorem ac_char : Cond.arrayClass .char ∈ mWS := List.mem_filter.mpr (by decide +kernel)
theorem ac_boolean : Cond.arrayClass .boolean ∈ mWS := List.mem_filter.mpr (by decide +kernel)
theorem ac_long : Cond.arrayClass .long ∈ mWS := List.mem_filter.mpr (by decide +kernel)
theorem cl_RL_9 : Cond.classLink R_RL 9 "PatternWatch$Run" ∈ mWS := List.mem_filter.mpr (by decide +kernel)
theorem cl_Pt_9 : Cond.classLink R_Pt 9 "PatternWatch$Element" ∈ mWS := List.mem_filter.mpr (by decide +kernel)
theorem nl_Pw_9 : mNw R_Pw 9 1 [.null, .int 0, .int 0] := ⟨R_Rd, T_Rd, 3, ty_Rd, fd_Rd, List.mem_filter.mpr (by decide +kernel), List.mem_filter.mpr (by decide +kernel), List.mem_filter.mpr (by decide +kernel), rfl, by decide +kernel⟩
theorem nl_Pw_16 : mNw R_Pw 16 2 [.null, .int 0] := ⟨R_RL, T_RL, 2, ty_RL, fd_RL, List.mem_filter.mpr (by decide +kernel), List.mem_filter.mpr (by decide +kernel), List.mem_filter.mpr (by decide +kernel), rfl, by decide +kernel⟩
theorem nl_Pw_26 : mNw R_Pw 26 3 [.int 0, .int 0, .int 0, .int 0, .int 0] := ⟨R_Ev, T_Ev, 5, ty_Ev, fd_Ev, List.mem_filter.mpr (by decide +kernel), List.mem_filter.mpr (by decide +kernel), List.mem_filter.mpr (by decide +kernel), rfl, by decide +kernel⟩
theorem nl_Pw_33 : mNw R_Pw 33 4 [.null, .null, .int 0, .int 0, .int 0, .int 0] := ⟨R_Pt, T_Pt, 6, ty_Pt, fd_Pt, List.mem_filter.mpr (by decide +kernel), List.mem_filter.mpr (by decide +kernel), List.mem_filter.mpr (by decide +kernel), rfl, by decide +kernel⟩
theorem nl_RL_9 : mNw R_RL 9 6 [.null, .int 0, .int 0, .int 0, .int 0, .int 0, .int 0, .int 0] := ⟨R_Ru, T_Ru, 8, ty_Ru, fd_Ru, List.mem_filter.mpr (by decide +kernel), List.mem_filter.mpr (by decide +kernel), List.mem_filter.mpr (by decide +kernel), rfl, by decide +kernel⟩
theorem nl_Pt_9 : mNw R_Pt 9 5 [.int 0, .int 0, .int 0, .int 0, .int 0, .int 0] := ⟨R_El, T_El, 6, ty_El, fd_El, List.mem_filter.mpr (by decide +kernel), List.mem_filter.mpr (by decide +kernel), List.mem_filter.mpr (by decide +kernel), rfl, by decide +kernel⟩
theorem nl_Lw_8 : mNw R_Lw 8 0 [.null, .null, .null, .null, .null, .null, .int 0, .int 0, .int 0, .int 0, .int 0, .int 0] := ⟨R_Pw, T_Pw, 12, ty_Pw, fd_Pw, List.mem_filter.mpr (by decide +kernel), List.mem_filter.mpr (by decide +kernel), List.mem_filter.mpr (by decide +kernel), rfl, by decide +kernel⟩
theorem nl_Lw_38 : mNw R_Lw 38 7 [.int 0, .int 0, .null, .int 0, .int 0, .int 0, .null, .null, .null, .null, .null, .null, .int 0, .int 0, .int 0, .int 0, .int 0, .null, .int 0, .int 0, .null, .null, .null, .null, .int 0, .int 0, .int 0, .null, .null, .null, .int 0, .null, .null, .int 0, .int 0, .int 0, .int 0] := ⟨R_Md, T_Md, 37, ty_Md, fd_Md, List.mem_filter.mpr (by decide +kernel), List.mem_filter.mpr (by decide +kernel), List.mem_filter.mpr (by decide +kernel), rfl, by decide +kernel⟩
theorem z0_i {i : Nat} (h : i ≠ 0) (h2 : i ≠ 126) : z0.1 i = fun _ => 0 := by
  show (if i = 0 then _ else if i = 126 then _ else _) = _
  rw [if_neg h, if_neg h2]
theorem ne_of {h : mHp} {a q : Nat} {e : va_E} (ha : h a = some e) (hq : h q = none) : a ≠ q := fun p => by rw [p, hq] at ha; cases ha
theorem kp_new {h : mHp} {q : Nat} {e : va_E} (hq : h q = none) : kp h (mU h q e) := fun x e2 hx => by rw [mU_ne (ne_of hx hq)]; exact hx
theorem sC_tk {f : Nat → Nat} {g : mG} {i : Nat} (h1 : 78 ≤ i) (h2 : i < 126) : sCell f g z0 i (sK i) = mAI g 0 19 (fun _ => 0) := by
  rw [sK_tk h1 h2, sCell_i, z0_i (by omega) (by omega)]
theorem sC_run {f : Nat → Nat} {g : mG} {i : Nat} (h1 : 30 ≤ i) (h2 : i < 78) : sCell f g z0 i (sK i) = mO 6 [.ref (f (i + 48)), .int 0, .int 0, .int 0, .int 0, .int 0, .int 0, .int 0] := by
  rw [sK_run h1 h2, sCell_o]
  have e : sFs f z0 i [i + 50, 0, 0, 0, 0, 0, 0, 0] = [sV f z0 i 0 (i + 50), sV f z0 i 1 0, sV f z0 i 2 0, sV f z0 i 3 0, sV f z0 i 4 0, sV f z0 i 5 0, sV f z0 i 6 0, sV f z0 i 7 0] := rfl
  rw [e]
  unfold sV
  rw [if_neg (by omega), if_neg (by omega), z0_i (by omega) (by omega)]
  rfl
theorem sC_el {f : Nat → Nat} {g : mG} {i : Nat} (h1 : 14 ≤ i) (h2 : i < 30) : sCell f g z0 i (sK i) = mO 5 [.int 0, .int 0, .int 0, .int 0, .int 0, .int 0] := by
  rw [sK_el h1 h2, sCell_o]
  have e : sFs f z0 i [0, 0, 0, 0, 0, 0] = [.int (z0.1 i 0), .int (z0.1 i 1), .int (z0.1 i 2), .int (z0.1 i 3), .int (z0.1 i 4), .int (z0.1 i 5)] := rfl
  rw [e, z0_i (by omega) (by omega)]
theorem n_Ev (l : Launch) (g : mG) (a : Nat) (h : mHp) (ha : h a = some (mO 3 [.int 0, .int 0, .int 0, .int 0, .int 0])) : mC l y_Ev_init c_Ev_init 1 none 1 0 0 g [.ref a] h (inQ g (fun i => i < 145 ∧ grp i = 4) 7 a h) := by
  refine mC.intro (by decide) (by simp [Value.category]) (Nat.le_of_ble_eq_true rfl) (fun J hJ hE => ?_)
  show J 0 [some (.ref a)] [] h 0 0
  refine hJ.aload_n d_Ev_init_0 rfl ?_
  refine hJ.objInit oi_Ev oi_i oi_c rfl d_Ev_init_1 (by decide) (by decide) ?_
  refine hE.2.2 _ _ _ _ _ d_Ev_init_4 rfl ?_ (Nat.zero_le _) (Nat.zero_le _)
  exact (nw.no (f := fun _ => 0)).done (by rw [ha]; intro q; cases q) (fun q => q) (fun _ q => q.elim) ha (fun f2 _ _ => Or.inl rfl) (fun x e _ hx => hx) (fun i hi => Or.inr (g_4 i hi.1 hi.2))
theorem n_El (l : Launch) (g : mG) (a i : Nat) (h : mHp) (h1 : 14 ≤ i) (h2 : i < 30) (ha : h a = some (mO 5 [.int 0, .int 0, .int 0, .int 0, .int 0, .int 0])) : mC l y_El_init c_El_init 1 none 1 0 0 g [.ref a] h (inQ g (fun j => j = i) i a h) := by
  refine mC.intro (by decide) (by simp [Value.category]) (Nat.le_of_ble_eq_true rfl) (fun J hJ hE => ?_)
  show J 0 [some (.ref a)] [] h 0 0
  refine hJ.aload_n d_El_init_0 rfl ?_
  refine hJ.objInit oi_El oi_i oi_c rfl d_El_init_1 (by decide) (by decide) ?_
  refine hE.2.2 _ _ _ _ _ d_El_init_4 rfl ?_ (Nat.zero_le _) (Nat.zero_le _)
  exact (nw.no (f := fun _ => 0)).done (by rw [ha]; intro q; cases q) (fun q => q) (fun _ q => q.elim) ha (fun f2 _ _ => Or.inl (sC_el h1 h2).symm) (fun x e _ hx => hx) (fun j hj => Or.inr hj)
theorem n_Ru (l : Launch) (g : mG) (a i : Nat) (h : mHp) (h1 : 30 ≤ i) (h2 : i < 78) (ha : h a = some (mO 6 [.null, .int 0, .int 0, .int 0, .int 0, .int 0, .int 0, .int 0])) : mC l y_Ru_init c_Ru_init 1 none 1 1 19 g [.ref a] h (inQ g (fun j => j = i + 48 ∨ j = i) i a h) := by
  refine mC.intro (by decide) (by simp [Value.category]) (Nat.le_of_ble_eq_true rfl) (fun J hJ hE => ?_)
  show J 0 [some (.ref a)] [] h 0 0
  refine hJ.aload_n d_Ru_init_0 rfl ?_
  refine hJ.objInit oi_Ru oi_i oi_c rfl d_Ru_init_1 (by decide) (by decide) ?_
  refine hJ.aload_n d_Ru_init_4 rfl ?_
  refine hJ.bipush d_Ru_init_5 (v := 19) rfl ?_
  refine hJ.newI ac_int d_Ru_init_7 (by decide) (N := 19) rfl (by decide) (by decide) (by decide) (fun q hq => ?_)
  refine hJ.putF fa_Ru_9 rfl d_Ru_init_9 (kp_new hq _ _ ha) rfl rfl (by decide) rfl ?_
  refine hE.2.2 _ _ _ _ _ d_Ru_init_12 rfl ?_ (by decide) (by decide)
  have n0 : nw g (fun _ => False) (fun _ => 0) h (mU h q (mAI g 0 19 (fun _ => 0))) := nw.no
  obtain ⟨f, -, f1, n1⟩ := n0.cell (i := i + 48) hq mU_self (fun f2 _ _ => Or.inl (sC_tk (by omega) (by omega)).symm) (fun p => p) (fun _ p => p.elim) (fun _ p => p.elim)
  have hna : h a ≠ none := by rw [ha]; intro q; cases q
  refine (n1.put hna).done hna (fun p => p.elim id (fun p => by omega)) (fun j hj c hc => ?_) mU_self (fun f2 e2 _ => Or.inl ?_) (fun x e hx he => by rw [mU_ne hx]; exact kp_new hq _ _ he) (fun j hj => hj.elim (fun p => Or.inl (Or.inr p)) Or.inr)
  · rcases hj with p | p
    · exact p.elim
    · rw [p, ch_tk _ (by omega) (by omega)] at hc
      cases hc
  · rw [sC_run h1 h2, e2 (i + 48) (Or.inr rfl), f1]
    rfl
theorem n_Rd (l : Launch) (g : mG) (a : Nat) (h : mHp) (ha : h a = some (mO 1 [.null, .int 0, .int 0])) : mC l y_Rd_init c_Rd_init 1 none 1 1 40 g [.ref a] h (inQ g (fun i => i < 145 ∧ grp i = 1) 1 a h) := by
  refine mC.intro (by decide) (by simp [Value.category]) (Nat.le_of_ble_eq_true rfl) (fun J hJ hE => ?_)
  show J 0 [some (.ref a)] [] h 0 0
  refine hJ.aload_n d_Rd_init_0 rfl ?_
  refine hJ.objInit oi_Rd oi_i oi_c rfl d_Rd_init_1 (by decide) (by decide) ?_
  refine hJ.aload_n d_Rd_init_4 rfl ?_
  refine hJ.bipush d_Rd_init_5 (v := 40) rfl ?_
  refine hJ.newC ac_char d_Rd_init_7 (by decide) (N := 40) rfl (by decide) (by decide) (by decide) (fun q hq => ?_)
  refine hJ.putF fa_Rd_9 rfl d_Rd_init_9 (kp_new hq _ _ ha) rfl rfl (by decide) rfl ?_
  refine hE.2.2 _ _ _ _ _ d_Rd_init_12 rfl ?_ (by decide) (by decide)
  have n0 : nw g (fun _ => False) (fun _ => 0) h (mU h q (mAI g 2 40 (fun _ => 0))) := nw.no
  obtain ⟨f, -, f1, n1⟩ := n0.cell (i := 2) hq mU_self (fun f2 _ _ => Or.inl rfl) (fun p => p) (fun _ p => p.elim) (fun _ p => p.elim)
  have hna : h a ≠ none := by rw [ha]; intro q; cases q
  refine (n1.put hna).done hna (fun p => p.elim id (fun p => by omega)) (fun j hj c hc => ?_) mU_self (fun f2 e2 _ => Or.inl ?_) (fun x e hx he => by rw [mU_ne hx]; exact kp_new hq _ _ he) (fun j hj => (g_1 j hj.1 hj.2).elim (fun p => Or.inl (Or.inr p)) Or.inr)
  · rcases hj with p | p
    · exact p.elim
    · rw [p, show chL 2 = [] from rfl] at hc
      cases hc
  · have e3 : f2 2 = q := (e2 2 (Or.inr rfl)).trans f1
    rw [← e3]
    rfl
theorem sC_rl {f : Nat → Nat} {g : mG} {q : Nat} (hq : q = 3 ∨ q = 5) : sCell f g z0 q (sK q) = mO 2 [.ref (f (q + 1)), .int 0] := by
  rcases hq with rfl | rfl <;> rfl
theorem sC_rw {f : Nat → Nat} {g : mG} {q rb : Nat} (hq : (q = 3 ∧ rb = 30) ∨ (q = 5 ∧ rb = 54)) : sCell f g z0 (q + 1) (sK (q + 1)) = mAR g 4 24 (fun j => some (f (rb + j))) := by
  rcases hq with ⟨rfl, rfl⟩ | ⟨rfl, rfl⟩ <;> rfl
def dRu (rb j : Nat) : Nat → Prop := fun i => (rb ≤ i ∧ i < rb + j) ∨ (rb + 48 ≤ i ∧ i < rb + 48 + j)
theorem ch_ru {rb : Nat} (hb : rb = 30 ∨ rb = 54) {i j c : Nat} (hj : j ≤ 24) (hi : dRu rb j i) (hc : c ∈ chL i) : c = i + 48 ∧ 30 ≤ i ∧ i < 78 ∧ rb ≤ i ∧ i < rb + j := by
  unfold dRu at hi
  by_cases h : i < 78
  · rw [ch_run i h (by omega)] at hc
    exact ⟨List.mem_singleton.mp hc, by omega, h, by omega, by omega⟩
  · rw [ch_tk i (by omega) (by omega)] at hc
    cases hc
set_option maxHeartbeats 1000000 in
theorem n_RL (l : Launch) (g : mG) (a q rb : Nat) (h : mHp) (hq : (q = 3 ∧ rb = 30) ∨ (q = 5 ∧ rb = 54)) (ha : h a = some (mO 2 [.null, .int 0])) : mC l y_RL_init c_RL_init 2 none 2 49 672 g [.ref a] h (inQ g (fun i => (i = q + 1 ∨ dRu rb 24 i) ∨ i = q) q a h) := by
  have hb : rb = 30 ∨ rb = 54 := by omega
  have hna : h a ≠ none := by rw [ha]; intro q; cases q
  refine mC.intro (by decide) (by simp [Value.category]) (Nat.le_of_ble_eq_true rfl) (fun J hJ hE => ?_)
  show J 0 [some (.ref a), none] [] h 0 0
  refine hJ.aload_n d_RL_init_0 rfl ?_
  refine hJ.objInit oi_RL oi_i oi_c rfl d_RL_init_1 (by decide) (by decide) ?_
  refine hJ.aload_n d_RL_init_4 rfl ?_
  refine hJ.bipush d_RL_init_5 (v := 24) rfl ?_
  refine hJ.newA4 cl_RL_9 d_RL_init_7 (by decide) (N := 24) rfl (by decide) (by decide) (by decide) (fun w hw => ?_)
  have haw := ne_of ha hw
  refine hJ.putF fa_RL_11 rfl d_RL_init_10 (kp_new hw _ _ ha) rfl rfl (by decide) rfl ?_
  refine hJ.iconst d_RL_init_13 (v := 0) rfl ?_
  refine hJ.istore_n d_RL_init_14 (Nat.le_of_ble_eq_true rfl) ?_
  show J 15 [some (.ref a), some (.int (nI 0))] [] (mU (mU h w (mAR g 4 24 (fun _ => none))) a (mO 2 [.ref w, .int 0])) 1 24
  generalize h1e : mU (mU h w (mAR g 4 24 (fun _ => none))) a (mO 2 [.ref w, .int 0]) = h1
  have h1a : h1 a = some (mO 2 [.ref w, .int 0]) := by rw [← h1e, mU_self]
  have h1w : h1 w = some (mAR g 4 24 (fun _ => none)) := by rw [← h1e, mU_ne (Ne.symm haw), mU_self]
  have h1n : ∀ x, h1 x = none → h x = none := fun x hx => by
    rw [← h1e] at hx
    by_cases p1 : x = a
    · subst p1; rw [mU_self] at hx; cases hx
    · rw [mU_ne p1] at hx
      by_cases p2 : x = w
      · rw [p2]; exact hw
      · rw [mU_ne p2] at hx; exact hx
  have h1k : ∀ (x : Nat) (e : va_E), x ≠ a → h x = some e → h1 x = some e := fun x e hx he => by rw [← h1e, mU_ne hx]; exact kp_new hw _ _ he
  have h15 : ∀ (n j : Nat) (hc : mHp) (f : Nat → Nat) (fn : Nat → Option Nat) (cs sl : Nat), j + n = 24 → cs = 1 + 2 * j → sl = 24 + 27 * j → nw g (dRu rb j) f h1 hc → hc a = some (mO 2 [.ref w, .int 0]) → hc w = some (mAR g 4 24 fn) → (∀ k, k < j → fn k = some (f (rb + k))) → (∀ x, hc x = none → h1 x = none) → (∀ (x : Nat) (e : va_E), x ≠ w → h1 x = some e → hc x = some e) → J 15 [some (.ref a), some (.int (nI j))] [] hc cs sl := by
    intro n
    induction n with
    | zero =>
      intro j hc f fn cs sl hj hcs hsl hn hca hcw hfn hdn hkp
      have hj24 : j = 24 := hj
      subst hj24
      refine hJ.iload_n d_RL_init_15 rfl ?_
      refine hJ.bipush d_RL_init_16 (v := 24) rfl ?_
      refine hJ.icmp_ge d_RL_init_18 (tgt := 40) rfl (fun _ => ?_) (fun p => absurd (nI_le (a := 24) (Nat.le_refl _) (by decide)) p)
      refine hE.2.2 _ _ _ _ _ d_RL_init_40 rfl ?_ (by rw [hcs]; decide) (by rw [hsl]; decide)
      obtain ⟨f2, e2, e3, n2⟩ := (hn.base h1n).cell (i := q + 1) hw hcw (fun f2 k1 k2 => by rw [sC_rw hq]; exact Or.inr ⟨_, _, _, _, rfl, rfl, fun k hk => by rw [hfn k hk, k1 (rb + k) (Or.inl (by omega))]⟩) (fun p => by unfold dRu at p; omega) (fun k hk p => by
        have := hn.1 k hk
        rw [p, h1w] at this
        cases this) (fun k hk c hc => by
        have := ch_ru hb (Nat.le_refl _) hk hc
        omega)
      refine n2.done hna (fun p => by unfold dRu at p; omega) (fun k hk c hc => ?_) hca (fun f3 k1 k2 => Or.inl ?_) (fun x e hx he => hkp x e (ne_of he hw) (h1k x e hx he)) (fun k hk => ?_)
      · rcases hk with p | p
        · have := ch_ru hb (Nat.le_refl _) p hc
          omega
        · subst p
          have h9 : ∀ c ∈ chL (q + 1), 30 ≤ c := by rcases hq with ⟨rfl, -⟩ | ⟨rfl, -⟩ <;> decide
          have := h9 c hc
          omega
      · rw [sC_rl (by omega), k1 (q + 1) (Or.inr rfl), e3]
      · rcases hk with (p | p) | p
        · exact Or.inl (Or.inr p)
        · exact Or.inl (Or.inl p)
        · exact Or.inr p
    | succ n ih =>
      intro j hc f fn cs sl hj hcs hsl hn hca hcw hfn hdn hkp
      refine hJ.iload_n d_RL_init_15 rfl ?_
      refine hJ.bipush d_RL_init_16 (v := 24) rfl ?_
      refine hJ.icmp_ge d_RL_init_18 (tgt := 40) rfl (fun p => absurd p (nI_ge (b := 24) (by omega) (by decide))) (fun _ => ?_)
      refine hJ.aload_n d_RL_init_21 rfl ?_
      refine hJ.getf fa_RL_11 d_RL_init_22 hca rfl ?_
      refine hJ.iload_n d_RL_init_25 rfl ?_
      refine hJ.new nl_RL_9 d_RL_init_26 (by show cs + 1 ≤ 49; omega) (by show sl + 8 ≤ 672; omega) (fun r hr => ?_)
      refine hJ.dup d_RL_init_29 rfl ?_
      refine hJ.callIN (As := []) (rest := [.ref r, .int (nI j), .ref w]) lk_RL_17 cd_Ru_init (n_Ru l g r (rb + j) _ (by omega) (by omega) mU_self) d_RL_init_30 rfl rfl (by decide) (by simp [Value.category]) ⟨by show cs + 1 + 1 ≤ 49; omega, by show sl + 8 + 19 ≤ 672; omega⟩ (fun r9 h2 hp => ?_)
      obtain ⟨rfl, f2, e2, n2, k2⟩ := hp.nw hr (Or.inr rfl)
      obtain ⟨e9, q1, q2⟩ := n2.2.1 (rb + j) (Or.inr rfl)
      rw [sC_run (by omega) (by omega)] at q2
      rw [e2, q2.obj] at q1
      refine hJ.aast4 d_RL_init_33 (k2 _ _ hcw) (ci := 6) rfl rfl q1 (vp_in_nI (by omega) (by decide)) ?_
      rw [nI_clamp (by omega)]
      refine hJ.iinc d_RL_init_34 rfl (v := nI (j + 1)) (nI_succ j).symm ?_
      refine hJ.goto d_RL_init_37 (tgt := 15) rfl ?_
      obtain ⟨f3, e31, e32, n3⟩ := hn.merge n2 k2 hdn (fun i hi p => by unfold dRu at hi; omega) (fun i hi c hc p => by
        have := ch_ru hb (by omega) hi hc
        omega) (fun i hi c hc => by
        rcases hi with p | p
        · rw [p, ch_tk _ (by omega) (by omega)] at hc
          cases hc
        · rw [p, ch_run _ (by omega) (by omega)] at hc
          exact Or.inl (List.mem_singleton.mp hc))
      have h1wn : h1 w ≠ none := by rw [h1w]; intro q; cases q
      refine ih (j + 1) _ f3 _ _ _ (by omega) (by omega) (by show sl + 8 + 19 = _; omega) ((n3.put h1wn).iff (fun i hi => ?_)) (by rw [mU_ne haw]; exact k2 _ _ hca) mU_self (fun k hk => ?_) (fun x hx => ?_) (fun x e hx he => by rw [mU_ne hx]; exact k2 _ _ (hkp x e hx he))
      · unfold dRu at hi ⊢
        omega
      · unfold va_up
        by_cases hkj : k = j
        · rw [if_pos hkj, hkj, e32 (rb + j) (Or.inr rfl), e2]
        · rw [if_neg hkj, hfn k (by omega), e31 (rb + k) (Or.inl (by omega))]
      · by_cases p : x = w
        · rw [p, mU_self] at hx; cases hx
        · rw [mU_ne p] at hx
          cases hx2 : hc x with
          | none => exact hdn x hx2
          | some e => rw [k2 _ _ hx2] at hx; cases hx
  exact h15 24 0 h1 (fun _ => 0) (fun _ => none) 1 24 rfl rfl rfl ⟨fun i hi => by unfold dRu at hi; omega, fun i hi => by unfold dRu at hi; omega, fun i j hi => by unfold dRu at hi; omega⟩ h1a h1w (fun k hk => absurd hk (Nat.not_lt_zero k)) (fun x hx => hx) (fun x e _ he => he)
