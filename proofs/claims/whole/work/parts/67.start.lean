theorem mK_start {s : State} {args : Array Value} (hts : ∀ w ∈ lw_tbl, w.before args s = true) : ∃ g : mG, mK g s := by
  have hw : ∀ w ∈ mWS, w.before args s = true := fun w h => hts w (List.mem_filter.mp h).1
  obtain ⟨c0, i0, k0⟩ := u_known (C := R_Pw) (T := T_Pw) (N := 12) (n := 12) hw fd_Pw.2.1 (hw _ (List.mem_filter.mpr (by decide +kernel)))
  obtain ⟨c1, i1, k1⟩ := u_known (C := R_Rd) (T := T_Rd) (N := 3) (n := 3) hw fd_Rd.2.1 (hw _ (List.mem_filter.mpr (by decide +kernel)))
  obtain ⟨c2, i2, k2⟩ := u_known (C := R_RL) (T := T_RL) (N := 2) (n := 2) hw fd_RL.2.1 (hw _ (List.mem_filter.mpr (by decide +kernel)))
  obtain ⟨c3, i3, k3⟩ := u_known (C := R_Ev) (T := T_Ev) (N := 5) (n := 5) hw fd_Ev.2.1 (hw _ (List.mem_filter.mpr (by decide +kernel)))
  obtain ⟨c4, i4, k4⟩ := u_known (C := R_Pt) (T := T_Pt) (N := 6) (n := 6) hw fd_Pt.2.1 (hw _ (List.mem_filter.mpr (by decide +kernel)))
  obtain ⟨c5, i5, k5⟩ := u_known (C := R_El) (T := T_El) (N := 6) (n := 6) hw fd_El.2.1 (hw _ (List.mem_filter.mpr (by decide +kernel)))
  obtain ⟨c6, i6, k6⟩ := u_known (C := R_Ru) (T := T_Ru) (N := 8) (n := 8) hw fd_Ru.2.1 (hw _ (List.mem_filter.mpr (by decide +kernel)))
  obtain ⟨c7, i7, k7⟩ := u_known (C := R_Md) (T := T_Md) (N := 37) (n := 37) hw fd_Md.2.1 (hw _ (List.mem_filter.mpr (by decide +kernel)))
  obtain ⟨a0, d0, e0, p0, q0, r0⟩ := Cond.arrayClass_spec (hw _ ac_int)
  obtain ⟨a1, d1, e1, p1, q1, r1⟩ := Cond.arrayClass_spec (hw _ ac_long)
  obtain ⟨a2, d2, e2, p2, q2, r2⟩ := Cond.arrayClass_spec (hw _ ac_char)
  obtain ⟨a3, d3, e3, p3, q3, r3⟩ := Cond.arrayClass_spec (hw _ ac_boolean)
  have w4 : va_AO "PatternWatch$Run" s := va_AO.of (hts (Cond.arrayOver (.object "PatternWatch$Run")) (by decide +kernel))
  obtain ⟨e4, a4, d4, t4, -, q4, r4, p4⟩ := Cond.arrayOver_spec w4
  have w5 : va_AO "PatternWatch$Element" s := va_AO.of (hts (Cond.arrayOver (.object "PatternWatch$Element")) (by decide +kernel))
  obtain ⟨e5, a5, d5, t5, -, q5, r5, p5⟩ := Cond.arrayOver_spec w5
  refine ⟨((fun c => match c with | 0 => c0 | 1 => c1 | 2 => c2 | 3 => c3 | 4 => c4 | 5 => c5 | 6 => c6 | _ => c7, fun c => match c with | 0 => i0 | 1 => i1 | 2 => i2 | 3 => i3 | 4 => i4 | 5 => i5 | 6 => i6 | _ => i7), fun c => match c with | 0 => a0 | 1 => a1 | 2 => a2 | 3 => a3 | 4 => a4 | _ => a5), ⟨fun c q hq => ?_, fun k q hq => ?_⟩, fun q hq => ?_, fun q hq => ?_, w4, w5⟩
  · have hc : c < 8 := (List.getElem?_eq_some_iff.mp hq).1
    rcases (show c = 0 ∨ c = 1 ∨ c = 2 ∨ c = 3 ∨ c = 4 ∨ c = 5 ∨ c = 6 ∨ c = 7 by omega) with rfl | rfl | rfl | rfl | rfl | rfl | rfl | rfl
    · cases (show some (R_Pw, T_Pw, 12) = some q from hq)
      exact k0
    · cases (show some (R_Rd, T_Rd, 3) = some q from hq)
      exact k1
    · cases (show some (R_RL, T_RL, 2) = some q from hq)
      exact k2
    · cases (show some (R_Ev, T_Ev, 5) = some q from hq)
      exact k3
    · cases (show some (R_Pt, T_Pt, 6) = some q from hq)
      exact k4
    · cases (show some (R_El, T_El, 6) = some q from hq)
      exact k5
    · cases (show some (R_Ru, T_Ru, 8) = some q from hq)
      exact k6
    · cases (show some (R_Md, T_Md, 37) = some q from hq)
      exact k7
  · have hc : k < 6 := (List.getElem?_eq_some_iff.mp hq).1
    rcases (show k = 0 ∨ k = 1 ∨ k = 2 ∨ k = 3 ∨ k = 4 ∨ k = 5 by omega) with rfl | rfl | rfl | rfl | rfl | rfl
    · cases (show some (a0, (.int : FieldType)) = some q from hq)
      exact ⟨fun n z => ⟨fun k h => (by cases h), d0, q0, e0, r0⟩, p0⟩
    · cases (show some (a1, (.long : FieldType)) = some q from hq)
      exact ⟨fun n z => ⟨fun k h => (by cases h), d1, q1, e1, r1⟩, p1⟩
    · cases (show some (a2, (.char : FieldType)) = some q from hq)
      exact ⟨fun n z => ⟨fun k h => (by cases h), d2, q2, e2, r2⟩, p2⟩
    · cases (show some (a3, (.boolean : FieldType)) = some q from hq)
      exact ⟨fun n z => ⟨fun k h => (by cases h), d3, q3, e3, r3⟩, p3⟩
    · cases (show some (a4, (.object "PatternWatch$Run" : FieldType)) = some q from hq)
      exact ⟨fun n z => ⟨fun k h => (by cases h), d4, q4, e4, r4⟩, d4, e4, q4, r4, t4, p4⟩
    · cases (show some (a5, (.object "PatternWatch$Element" : FieldType)) = some q from hq)
      exact ⟨fun n z => ⟨fun k h => (by cases h), d5, q5, e5, r5⟩, d5, e5, q5, r5, t5, p5⟩
  · have h9 : ∀ q ∈ mNF, Cond.fieldLinkNest q.1 q.2.1 q.2.2.1 q.2.2.2.1 q.2.2.2.2.1 q.2.2.2.2.2 ∈ lw_tbl := by decide +kernel
    exact va_Nw.of rfl (hts _ (h9 q hq))
  · have h9 : ∀ q ∈ mNM, Cond.methodLinkNest q.1 q.2.1 q.2.2.1 q.2.2.2 ∈ lw_tbl := by decide +kernel
    exact va_Nw.of rfl (hts _ (h9 q hq))
theorem xT_start {s : State} {args : Array Value} (hts : ∀ w ∈ lw_tbl, w.before args s = true) (hgv : (Jvm.Cond.and given_1 narrow_1).before args s = true) : xT (fun q => s.heap.size ≤ q) s s.heap := by
  have hs := flat_of_before _ hgv
  have hA : ∀ a : Nat, a < s.heap.size → ¬ (s.heap.size ≤ a) := fun a h => Nat.not_le.mpr h
  have hcs : ∀ q ∈ xCs, (Cond.castable q q).before args s = true := fun q hq => by
    have h9 : ∀ q ∈ xCs, Cond.castable q q ∈ lw_tbl := by decide +kernel
    exact hts _ (h9 q hq)
  refine ⟨xS.of (hts _ (by decide +kernel)) (hs (Cond.isRef (.static Bundle.tN "UNASSIGNED_STACK" Bundle.steD)) (by decide +kernel)) hA, xS.of (hts _ (by decide +kernel)) (hs (Cond.isRef (.static Bundle.tN "SUPPRESSED_SENTINEL" Bundle.listD)) (by decide +kernel)) hA, fun q hq => ?_, fun q hq => ?_, fun q hq => ?_, fun q hq => ?_⟩
  · have h9 : ∀ q ∈ xStr, Cond.stringRef R_Pw q.1 q.2 ∈ lw_tbl := by decide +kernel
    have h8 := hts _ (h9 q hq)
    simp only [Cond.before, Cond.holds, Cond.value] at h8 ⊢
    exact h8
  · have h9 : ∀ q ∈ xDc, Cond.declares q ∈ lw_tbl := by decide +kernel
    exact va_Nw.of rfl (hts _ (h9 q hq))
  · exact va_Nw.of rfl (hcs q hq)
  · have h9 : ∀ q ∈ xNc, q.1 ∈ xCs ∧ q.2 ∈ xCs := by decide +kernel
    have hn : (Cond.not (.castable q.1 q.2)).before args s = true := by
      simp only [xNc, List.mem_cons, List.mem_nil_iff, or_false] at hq
      rcases hq with rfl | rfl
      · exact hs _ (by decide +kernel)
      · exact hs _ (by decide +kernel)
    obtain ⟨ca, ca2, g1, -, -⟩ := Cond.castable_spec (hcs _ (h9 q hq).1)
    obtain ⟨cb, cb2, g2, -, -⟩ := Cond.castable_spec (hcs _ (h9 q hq).2)
    refine ⟨ca, cb, g1, g2, ?_⟩
    have hv := Cond.holds_not_iff.mp hn
    simp only [Cond.value, g1, g2] at hv
    exact Option.some.inj hv
