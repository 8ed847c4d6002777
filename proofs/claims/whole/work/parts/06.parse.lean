def pA (tx : Nat → Int32) (n p : Nat) : Int32 := if p < n then tx p else 32
def pKd (c : Int32) : Bool := decide (c = 42) || (decide (65 ≤ c) && decide (c ≤ 70))
def pTs (c : Int32) : Bool := decide (c = 60) || (decide (c = 61) || decide (c = 62))
def pDg (c : Int32) : Bool := decide (48 ≤ c) && decide (c ≤ 57)
abbrev pE : Type := Int32 × Int32 × Int32 × Int32 × Int32 × Int32
def pE0 : pE := (0, 0, 0, 0, 0, 0)
def uE (els : Nat → pE) (k : Nat) (e : pE) : Nat → pE := fun j => if j = k then e else els j
abbrev cR : Type := Bool × Nat × Nat × (Nat → pE) × Int32 × Int32
def cF (p : Nat) : cR := (false, p, 0, fun _ => pE0, 0, 0)
def cDs (tx : Nat → Int32) (n : Nat) : Nat → Nat → Int32 → Nat → Int32 × Nat
  | 0, _, num, p => (num, p)
  | m + 1, i, num, p => if pDg (pA tx n p) then cDs tx n m (i + 1) (if i = 0 then pA tx n p - 48 else 10 * num + (pA tx n p - 48)) (p + 1) else (num, p)
def cC2 (tx : Nat → Int32) (n k p : Nat) : Bool × Nat × Int32 × Int32 :=
  if 0 < k ∧ pA tx n p = 112 then (true, p + 1, 1, 0)
  else if pA tx n p = 45 then (decide (0 ≤ (cDs tx n 2 0 (-1) (p + 1)).1), (cDs tx n 2 0 (-1) (p + 1)).2, 0, -(cDs tx n 2 0 (-1) (p + 1)).1)
  else (decide (0 ≤ (cDs tx n 2 0 (-1) p).1), (cDs tx n 2 0 (-1) p).2, 0, (cDs tx n 2 0 (-1) p).1)
def cE3 (tx : Nat → Int32) (n k p : Nat) (bar kd rep : Int32) : Bool × Nat × pE :=
  if pTs (pA tx n p) then ((cC2 tx n k (p + 1)).1, (cC2 tx n k (p + 1)).2.1, (bar, kd, rep, pA tx n p, (cC2 tx n k (p + 1)).2.2)) else (true, p, (bar, kd, rep, 32, 0, 0))
def cE2 (tx : Nat → Int32) (n k p : Nat) (bar kd : Int32) : Bool × Nat × pE :=
  if pA tx n p = 43 then (if bar = 1 ∨ k = 7 then (false, p, pE0) else cE3 tx n k (p + 1) bar kd 1) else cE3 tx n k p bar kd 0
def cE1 (tx : Nat → Int32) (n k p : Nat) (bar : Int32) : Bool × Nat × pE :=
  if pKd (pA tx n p) then cE2 tx n k (p + 1) bar (pA tx n p) else (false, p, pE0)
def cEl (tx : Nat → Int32) (n k p : Nat) : Bool × Nat × pE :=
  if pA tx n p = 33 then (if k = 0 ∨ k = 7 then (false, p, pE0) else cE1 tx n k (p + 1) 1) else cE1 tx n k p 0
def cEn (tx : Nat → Int32) (n p : Nat) (keyed : Int32) : Bool × Nat × Int32 × Int32 :=
  if pA tx n p = 64 then (decide (0 ≤ (cDs tx n 3 0 (-1) (p + 1)).1), (cDs tx n 3 0 (-1) (p + 1)).2, keyed, (cDs tx n 3 0 (-1) (p + 1)).1) else (false, p, keyed, 0)
def cEd (tx : Nat → Int32) (n p : Nat) : Bool × Nat × Int32 × Int32 := if pA tx n p = 35 then cEn tx n (p + 1) 1 else cEn tx n p 0
def cMy (k : Nat) (els : Nat → pE) : Bool := decide (0 < k) && (decide ((els (k - 1)).1 = 0) && decide ((els (k - 1)).2.2.1 = 0))
def cFi (tx : Nat → Int32) (n k p : Nat) (els : Nat → pE) : cR :=
  if cMy k els then (if (cEd tx n p).1 = true ∧ (cEd tx n p).2.1 = n then (true, n, k, els, (cEd tx n p).2.2) else cF (cEd tx n p).2.1) else cF p
def cLo (tx : Nat → Int32) (n : Nat) : Nat → Nat → Nat → (Nat → pE) → cR
  | 0, k, p, els => cFi tx n k p els
  | m + 1, k, p, els => if pA tx n p = 33 ∨ pKd (pA tx n p) = true then (if (cEl tx n k p).1 = true then cLo tx n m (k + 1) (cEl tx n k p).2.1 (uE els k (cEl tx n k p).2.2) else cF (cEl tx n k p).2.1) else cFi tx n k p els
def cRd (tx : Nat → Int32) (n : Nat) : cR := cLo tx n 8 0 0 (fun _ => pE0)
abbrev qC : Type := Nat × Nat × (Nat → pE) × Int32 × Int32
def qBg (c : qC) (x bar : Int32) : Option qC := if pKd x then some (2, c.2.1 + 1, uE c.2.2.1 c.2.1 (bar, x, 0, 32, 0, 0), c.2.2.2) else none
def qE (c : qC) : pE := c.2.2.1 (c.2.1 - 1)
def qSet (c : qC) (s : Nat) (e : pE) : qC := (s, c.2.1, uE c.2.2.1 (c.2.1 - 1) e, c.2.2.2)
def qAf (c : qC) (x : Int32) : Option qC :=
  if x = 35 then (if (qE c).1 = 0 ∧ (qE c).2.2.1 = 0 then some (9, c.2.1, c.2.2.1, 1, c.2.2.2.2) else none)
  else if x = 64 then (if (qE c).1 = 0 ∧ (qE c).2.2.1 = 0 then some (10, c.2) else none)
  else if c.2.1 = 8 then none
  else if x = 33 then (if c.2.1 < 7 then some (1, c.2) else none)
  else qBg c x 0
def qCm (c : qC) (x : Int32) : Option qC := if pTs x then some (qSet c 4 ((qE c).1, (qE c).2.1, (qE c).2.2.1, x, (qE c).2.2.2.2)) else qAf c x
def qNum (c : qC) (s : Nat) (v : Int32) : qC := qSet c s ((qE c).1, (qE c).2.1, (qE c).2.2.1, (qE c).2.2.2.1, (qE c).2.2.2.2.1, v)
def qNeg (c : qC) : qC := qNum c c.1 (-(qE c).2.2.2.2.2)
def qNx (c : qC) (x : Int32) : Option qC :=
  if c.1 = 0 then qBg c x 0
  else if c.1 = 1 then qBg c x 1
  else if c.1 = 2 then (if x = 43 then (if (qE c).1 = 0 ∧ c.2.1 < 8 then some (qSet c 3 ((qE c).1, (qE c).2.1, 1, (qE c).2.2.2)) else none) else qCm c x)
  else if c.1 = 3 then qCm c x
  else if c.1 = 4 then (if x = 112 ∧ 1 < c.2.1 then some (qSet c 8 ((qE c).1, (qE c).2.1, (qE c).2.2.1, (qE c).2.2.2.1, 1, 0)) else if x = 45 then some (5, c.2) else if pDg x then some (qNum c 6 (x - 48)) else none)
  else if c.1 = 5 then (if pDg x then some (qNum c 14 (x - 48)) else none)
  else if c.1 = 6 then (if pDg x then some (qNum c 7 (10 * (qE c).2.2.2.2.2 + (x - 48))) else qAf c x)
  else if c.1 = 14 then (if pDg x then some (qNum c 15 (10 * (qE c).2.2.2.2.2 + (x - 48))) else qAf (qNeg c) x)
  else if c.1 = 15 then qAf (qNeg c) x
  else if c.1 = 9 then (if x = 64 then some (10, c.2) else none)
  else if c.1 = 10 ∨ c.1 = 11 ∨ c.1 = 12 then (if pDg x then some (c.1 + 1, c.2.1, c.2.2.1, c.2.2.2.1, 10 * c.2.2.2.2 + (x - 48)) else none)
  else if c.1 = 13 then none
  else qAf c x
def qFin (p : Nat) (c : qC) : cR := if 11 ≤ c.1 ∧ c.1 ≤ 13 then (true, p, c.2) else cF p
def qR (tx : Nat → Int32) : Nat → Nat → qC → cR
  | 0, p, c => qFin p c
  | f + 1, p, c => match qNx c (tx p) with
    | none => cF p
    | some d => qR tx f (p + 1) d
theorem pA_in {tx : Nat → Int32} {n p : Nat} (h : p < n) : pA tx n p = tx p := if_pos h
theorem pA_out {tx : Nat → Int32} {n p : Nat} (h : n ≤ p) : pA tx n p = 32 := if_neg (Nat.not_lt.mpr h)
theorem pKd_32 : pKd 32 = false := by decide
theorem pTs_32 : pTs 32 = false := by decide
theorem pDg_32 : pDg 32 = false := by decide
theorem qR_s {tx : Nat → Int32} {f p : Nat} {c d : qC} (h : qNx c (tx p) = some d) : qR tx (f + 1) p c = qR tx f (p + 1) d := by
  simp only [qR, h]
theorem qR_n {tx : Nat → Int32} {f p : Nat} {c : qC} (h : qNx c (tx p) = none) : qR tx (f + 1) p c = cF p := by
  simp only [qR, h]
theorem pDg_nI {c : Int32} (h : pDg c = true) : ∃ j : Nat, j < 10 ∧ c - 48 = nI j := by
  simp only [pDg, Bool.and_eq_true, decide_eq_true_eq] at h
  have h0 : ¬ c < 0 := fun q => by
    have h1 := Int32.le_iff_toInt_le.mp h.1
    have h2 := Int32.lt_iff_toInt_lt.mp q
    have e1 : (48 : Int32).toInt = 48 := by decide
    have e2 : (0 : Int32).toInt = 0 := by decide
    omega
  obtain ⟨j, hj, rfl⟩ := nI_of2 (M := 57) (n := 57) (by decide) h0 h.2
  have h3 : 48 ≤ j := (nI_leI (a := 48) (by omega) (by omega)).mp h.1
  exact ⟨j - 48, by omega, pk_sub h3⟩
theorem pDg_ge {c : Int32} (h : pDg c = true) : 0 ≤ c - 48 := by
  obtain ⟨j, hj, e⟩ := pDg_nI h
  rw [e]
  exact nI_pos' (by omega)
theorem pDg_ge2 {c d : Int32} (h : pDg c = true) (h2 : pDg d = true) : 0 ≤ 10 * (c - 48) + (d - 48) := by
  obtain ⟨j, hj, e⟩ := pDg_nI h
  obtain ⟨i, hi, e2⟩ := pDg_nI h2
  rw [e, e2, show (10 : Int32) = nI 10 from rfl, pk_mul, nI_add]
  exact nI_pos' (by omega)
theorem pDg_ge3 {c d b : Int32} (h : pDg c = true) (h2 : pDg d = true) (h3 : pDg b = true) : 0 ≤ 10 * (10 * (c - 48) + (d - 48)) + (b - 48) := by
  obtain ⟨j, hj, e⟩ := pDg_nI h
  obtain ⟨i, hi, e2⟩ := pDg_nI h2
  obtain ⟨k, hk, e3⟩ := pDg_nI h3
  rw [e, e2, e3, show (10 : Int32) = nI 10 from rfl, pk_mul, nI_add, pk_mul, nI_add]
  exact nI_pos' (by omega)
theorem m1_neg : ¬ (0 : Int32) ≤ -1 := by decide
theorem cDs_s {tx : Nat → Int32} {n m i p : Nat} {num : Int32} (h : pDg (pA tx n p) = true) : cDs tx n (m + 1) i num p = cDs tx n m (i + 1) (if i = 0 then pA tx n p - 48 else 10 * num + (pA tx n p - 48)) (p + 1) := by
  simp only [cDs, h, if_true]
theorem cDs_0 {tx : Nat → Int32} {n m p : Nat} {num : Int32} (h : pDg (pA tx n p) = true) : cDs tx n (m + 1) 0 num p = cDs tx n m 1 (pA tx n p - 48) (p + 1) := by
  rw [cDs_s h, if_pos rfl]
theorem cDs_t {tx : Nat → Int32} {n m i p : Nat} {num : Int32} (h : pDg (pA tx n p) = true) : cDs tx n (m + 1) (i + 1) num p = cDs tx n m (i + 2) (10 * num + (pA tx n p - 48)) (p + 1) := by
  rw [cDs_s h, if_neg (by omega)]
theorem cDs_z {tx : Nat → Int32} {n i p : Nat} {num : Int32} : cDs tx n 0 i num p = (num, p) := rfl
theorem cDs_n {tx : Nat → Int32} {n m i p : Nat} {num : Int32} (h : pDg (pA tx n p) = false) : cDs tx n (m + 1) i num p = (num, p) := by
  simp [cDs, h]
theorem z10 (x : Int32) : 10 * 0 + x = x := by simp
theorem qR_win {tx : Nat → Int32} {n k : Nat} {els : Nat → pE} {kd : Int32} (f p : Nat) (hn : n = p + f) : qR tx f p (10, k, els, kd, 0) = if 0 ≤ (cDs tx n 3 0 (-1) p).1 ∧ (cDs tx n 3 0 (-1) p).2 = n then (true, n, k, els, kd, (cDs tx n 3 0 (-1) p).1) else cF (cDs tx n 3 0 (-1) p).2 := by
  rcases f with _ | f
  · rw [cDs_n (by rw [pA_out (by omega)]; exact pDg_32), if_neg (fun q => m1_neg q.1)]
    rfl
  · have a0 : pA tx n p = tx p := pA_in (by omega)
    cases h1 : pDg (tx p)
    · rw [qR_n (by simp [qNx, h1]), cDs_n (by rw [a0]; exact h1), if_neg (fun q => m1_neg q.1)]
    · rw [qR_s (d := (11, k, els, kd, tx p - 48)) (by simp [qNx, h1]), cDs_0 (by rw [a0]; exact h1), a0]
      rcases f with _ | f
      · rw [cDs_n (by rw [pA_out (by omega)]; exact pDg_32), if_pos ⟨pDg_ge h1, by omega⟩]
        simp [qR, qFin, hn]
      · have a1 : pA tx n (p + 1) = tx (p + 1) := pA_in (by omega)
        cases h2 : pDg (tx (p + 1))
        · rw [qR_n (by simp [qNx, h2]), cDs_n (by rw [a1]; exact h2), if_neg (fun q => by have := q.2; simp only at this; omega)]
        · rw [qR_s (d := (12, k, els, kd, 10 * (tx p - 48) + (tx (p + 1) - 48))) (by simp [qNx, h2]), cDs_t (by rw [a1]; exact h2), a1]
          rcases f with _ | f
          · rw [cDs_n (by rw [pA_out (by omega)]; exact pDg_32), if_pos ⟨pDg_ge2 h1 h2, by omega⟩]
            simp [qR, qFin, hn]
          · have a2 : pA tx n (p + 1 + 1) = tx (p + 1 + 1) := pA_in (by omega)
            cases h3 : pDg (tx (p + 1 + 1))
            · rw [qR_n (by simp [qNx, h3]), cDs_n (by rw [a2]; exact h3), if_neg (fun q => by have := q.2; simp only at this; omega)]
            · rw [qR_s (d := (13, k, els, kd, 10 * (10 * (tx p - 48) + (tx (p + 1) - 48)) + (tx (p + 1 + 1) - 48))) (by simp [qNx, h3]), cDs_t (by rw [a2]; exact h3), a2]
              rw [cDs_z]
              rcases f with _ | f
              · rw [if_pos ⟨pDg_ge3 h1 h2 h3, by omega⟩]
                simp [qR, qFin, hn]
              · rw [qR_n (by simp [qNx]), if_neg (fun q => by have := q.2; omega)]
theorem qR_at {tx : Nat → Int32} {n k : Nat} {els : Nat → pE} {kd : Int32} (f p : Nat) (hn : n = p + f) : qR tx f p (9, k, els, kd, 0) = if (cEn tx n p kd).1 = true ∧ (cEn tx n p kd).2.1 = n then (true, n, k, els, (cEn tx n p kd).2.2) else cF (cEn tx n p kd).2.1 := by
  rcases f with _ | f
  · have a0 : cEn tx n p kd = (false, p, kd, 0) := by unfold cEn; rw [pA_out (by omega), if_neg (by decide)]
    rw [a0]
    rfl
  · have a0 : pA tx n p = tx p := pA_in (by omega)
    by_cases h1 : tx p = 64
    · have e0 : cEn tx n p kd = (decide (0 ≤ (cDs tx n 3 0 (-1) (p + 1)).1), (cDs tx n 3 0 (-1) (p + 1)).2, kd, (cDs tx n 3 0 (-1) (p + 1)).1) := by unfold cEn; rw [a0, if_pos h1]
      rw [qR_s (d := (10, k, els, kd, 0)) (by simp [qNx, h1]), qR_win (n := n) f (p + 1) (by omega), e0]
      simp only [decide_eq_true_eq]
    · have e0 : cEn tx n p kd = (false, p, kd, 0) := by unfold cEn; rw [a0, if_neg h1]
      rw [qR_n (by simp [qNx, h1]), e0]
      rfl
def qB (tx : Nat → Int32) : Nat → Nat → qC → cR
  | 0, p, _ => cF p
  | f + 1, p, c => match qAf c (tx p) with
    | none => cF p
    | some d => qR tx f (p + 1) d
def cK (tx : Nat → Int32) (n m k : Nat) (els : Nat → pE) (e : Bool × Nat × pE) : cR := if e.1 = true then cLo tx n m (k + 1) e.2.1 (uE els k e.2.2) else cF e.2.1
def qIH (tx : Nat → Int32) (n m k : Nat) : Prop := ∀ (s p f : Nat) (els : Nat → pE), n = p + f → qB tx f p (s, k, els, 0, 0) = cLo tx n m k p els
theorem qR_bd {tx : Nat → Int32} {f p : Nat} {c : qC} (h : ∀ x, qNx c x = qAf c x) (hs : c.1 < 11 ∨ 13 < c.1) : qR tx f p c = qB tx f p c := by
  rcases f with _ | f
  · simp only [qR, qB, qFin]
    rw [if_neg (by omega)]
  · simp only [qR, qB, h]
theorem uE_at {els : Nat → pE} {k : Nat} {e : pE} : uE els k e k = e := if_pos rfl
theorem uE_uE {els : Nat → pE} {k : Nat} {e e2 : pE} : uE (uE els k e) k e2 = uE els k e2 := by
  funext j
  unfold uE
  by_cases h : j = k
  · rw [if_pos h, if_pos h]
  · rw [if_neg h, if_neg h, if_neg h]
theorem qE_u {s k : Nat} {els : Nat → pE} {e : pE} {r : Int32 × Int32} : qE (s, k + 1, uE els k e, r) = e := by
  unfold qE
  exact uE_at
theorem qSet_u {s t k : Nat} {els : Nat → pE} {e e2 : pE} {r : Int32 × Int32} : qSet (s, k + 1, uE els k e, r) t e2 = (t, k + 1, uE els k e2, r) := by
  unfold qSet
  simp only [Nat.add_sub_cancel, uE_uE]
section QP
variable {tx : Nat → Int32} {n m k : Nat} {els : Nat → pE} {bar kd rep t : Int32}
theorem q_8 (ih : qIH tx n m (k + 1)) (s f p : Nat) (e : pE) (hs : s = 7 ∨ s = 8) (hn : n = p + f) : qR tx f p (s, k + 1, uE els k e, 0, 0) = cLo tx n m (k + 1) p (uE els k e) := by
  rw [qR_bd (by intro x; rcases hs with rfl | rfl <;> simp [qNx]) (by rcases hs with rfl | rfl <;> simp)]
  exact ih _ _ _ _ hn
theorem q_15 (ih : qIH tx n m (k + 1)) (f p : Nat) (a b c d w v : Int32) (hn : n = p + f) : qR tx f p (15, k + 1, uE els k (a, b, c, d, w, v), 0, 0) = cLo tx n m (k + 1) p (uE els k (a, b, c, d, w, -v)) := by
  have h : qR tx f p (15, k + 1, uE els k (a, b, c, d, w, v), 0, 0) = qB tx f p (15, k + 1, uE els k (a, b, c, d, w, -v), 0, 0) := by
    rcases f with _ | f
    · simp [qR, qB, qFin]
    · simp [qR, qB, qNx, qNeg, qNum, qE_u, qSet_u]
  rw [h]
  exact ih _ _ _ _ hn
theorem q_6 (ih : qIH tx n m (k + 1)) (f p : Nat) (a b c d w v : Int32) (hn : n = p + f) : qR tx f p (6, k + 1, uE els k (a, b, c, d, w, v), 0, 0) = cLo tx n m (k + 1) (cDs tx n 1 1 v p).2 (uE els k (a, b, c, d, w, (cDs tx n 1 1 v p).1)) := by
  rcases f with _ | f
  · rw [cDs_n (by rw [pA_out (by omega)]; exact pDg_32)]
    have := ih 6 p 0 (uE els k (a, b, c, d, w, v)) hn
    rw [← this]
    simp [qR, qB, qFin]
  · have a0 : pA tx n p = tx p := pA_in (by omega)
    cases h1 : pDg (tx p)
    · rw [cDs_n (by rw [a0]; exact h1)]
      have := ih 6 p (f + 1) (uE els k (a, b, c, d, w, v)) hn
      rw [← this]
      simp [qR, qB, qNx, h1]
    · rw [qR_s (d := (7, k + 1, uE els k (a, b, c, d, w, 10 * v + (tx p - 48)), 0, 0)) (by simp [qNx, h1, qNum, qE_u, qSet_u]), cDs_t (by rw [a0]; exact h1), a0]
      rw [cDs_z]
      exact q_8 ih 7 f (p + 1) _ (Or.inl rfl) (by omega)
theorem q_14 (ih : qIH tx n m (k + 1)) (f p : Nat) (a b c d w v : Int32) (hn : n = p + f) : qR tx f p (14, k + 1, uE els k (a, b, c, d, w, v), 0, 0) = cLo tx n m (k + 1) (cDs tx n 1 1 v p).2 (uE els k (a, b, c, d, w, -(cDs tx n 1 1 v p).1)) := by
  rcases f with _ | f
  · rw [cDs_n (by rw [pA_out (by omega)]; exact pDg_32)]
    have := ih 14 p 0 (uE els k (a, b, c, d, w, -v)) hn
    rw [← this]
    simp [qR, qB, qFin]
  · have a0 : pA tx n p = tx p := pA_in (by omega)
    cases h1 : pDg (tx p)
    · rw [cDs_n (by rw [a0]; exact h1)]
      have := ih 14 p (f + 1) (uE els k (a, b, c, d, w, -v)) hn
      rw [← this]
      simp [qR, qB, qNx, h1, qNeg, qNum, qE_u, qSet_u]
    · rw [qR_s (d := (15, k + 1, uE els k (a, b, c, d, w, 10 * v + (tx p - 48)), 0, 0)) (by simp [qNx, h1, qNum, qE_u, qSet_u]), cDs_t (by rw [a0]; exact h1), a0]
      rw [cDs_z]
      exact q_15 ih f (p + 1) _ _ _ _ _ _ (by omega)
theorem cDs_ok {v : Int32} {p : Nat} (h : 0 ≤ v) (hv : ∃ j : Nat, j < 10 ∧ v = nI j) : 0 ≤ (cDs tx n 1 1 v p).1 := by
  cases h1 : pDg (pA tx n p)
  · rw [cDs_n h1]; exact h
  · rw [cDs_t h1]
    rw [cDs_z]
    obtain ⟨j, hj, rfl⟩ := hv
    obtain ⟨i, hi, e⟩ := pDg_nI h1
    rw [e, show (10 : Int32) = nI 10 from rfl, pk_mul, nI_add]
    exact nI_pos' (by omega)
theorem q_5 (ih : qIH tx n m (k + 1)) (f p : Nat) (a b c d : Int32) (hn : n = p + f) : qR tx f p (5, k + 1, uE els k (a, b, c, d, 0, 0), 0, 0) = if 0 ≤ (cDs tx n 2 0 (-1) p).1 then cLo tx n m (k + 1) (cDs tx n 2 0 (-1) p).2 (uE els k (a, b, c, d, 0, -(cDs tx n 2 0 (-1) p).1)) else cF (cDs tx n 2 0 (-1) p).2 := by
  rcases f with _ | f
  · rw [cDs_n (by rw [pA_out (by omega)]; exact pDg_32), if_neg m1_neg]
    simp [qR, qFin]
  · have a0 : pA tx n p = tx p := pA_in (by omega)
    cases h1 : pDg (tx p)
    · rw [cDs_n (by rw [a0]; exact h1), if_neg m1_neg, qR_n (by simp [qNx, h1])]
    · rw [qR_s (d := (14, k + 1, uE els k (a, b, c, d, 0, tx p - 48), 0, 0)) (by simp [qNx, h1, qNum, qE_u, qSet_u]), cDs_0 (by rw [a0]; exact h1), a0, if_pos (cDs_ok (pDg_ge h1) (pDg_nI h1))]
      exact q_14 ih f (p + 1) _ _ _ _ _ _ (by omega)
theorem q_4 (ih : qIH tx n m (k + 1)) (f p : Nat) (hn : n = p + f) : qR tx f p (4, k + 1, uE els k (bar, kd, rep, t, 0, 0), 0, 0) = cK tx n m k els ((cC2 tx n k p).1, (cC2 tx n k p).2.1, (bar, kd, rep, t, (cC2 tx n k p).2.2)) := by
  unfold cK
  rcases f with _ | f
  · have a0 : pA tx n p = 32 := pA_out (by omega)
    have e0 : cC2 tx n k p = (decide (0 ≤ (-1 : Int32)), p, 0, -1) := by
      unfold cC2
      rw [a0, if_neg (fun q => absurd q.2 (by decide)), if_neg (by decide), cDs_n (by rw [a0]; exact pDg_32)]
    rw [e0]
    simp [qR, qFin, m1_neg]
  · have a0 : pA tx n p = tx p := pA_in (by omega)
    by_cases h1 : tx p = 112 ∧ 0 < k
    · have e0 : cC2 tx n k p = (true, p + 1, 1, 0) := by unfold cC2; rw [a0, if_pos ⟨h1.2, h1.1⟩]
      rw [e0, qR_s (d := (8, k + 1, uE els k (bar, kd, rep, t, 1, 0), 0, 0)) (by simp [qNx, h1.1, h1.2, qE_u, qSet_u])]
      simp only [if_true]
      exact q_8 ih 8 f (p + 1) _ (Or.inr rfl) (by omega)
    · have hk : ¬ (0 < k ∧ pA tx n p = 112) := fun q => h1 ⟨a0 ▸ q.2, q.1⟩
      by_cases h2 : tx p = 45
      · have e0 : cC2 tx n k p = (decide (0 ≤ (cDs tx n 2 0 (-1) (p + 1)).1), (cDs tx n 2 0 (-1) (p + 1)).2, 0, -(cDs tx n 2 0 (-1) (p + 1)).1) := by unfold cC2; rw [if_neg hk, a0, if_pos h2]
        rw [e0, qR_s (d := (5, k + 1, uE els k (bar, kd, rep, t, 0, 0), 0, 0)) (by simp [qNx, h2]), q_5 ih f (p + 1) _ _ _ _ (by omega)]
        simp only [decide_eq_true_eq]
      · have e0 : cC2 tx n k p = (decide (0 ≤ (cDs tx n 2 0 (-1) p).1), (cDs tx n 2 0 (-1) p).2, 0, (cDs tx n 2 0 (-1) p).1) := by unfold cC2; rw [if_neg hk, a0, if_neg h2]
        rw [e0]
        cases h3 : pDg (tx p)
        · rw [qR_n (by
            have h4 : ¬ (tx p = 112 ∧ 1 < k + 1) := fun q => h1 ⟨q.1, by omega⟩
            simp [qNx, h2, h3] at h4 ⊢
            intro q9
            exact h4 q9), cDs_n (by rw [a0]; exact h3)]
          simp [m1_neg]
        · have h4 : ¬ tx p = 112 := fun q => by rw [q] at h3; exact absurd h3 (by decide)
          rw [qR_s (d := (6, k + 1, uE els k (bar, kd, rep, t, 0, tx p - 48), 0, 0)) (by simp [qNx, h2, h3, h4, qNum, qE_u, qSet_u]), cDs_0 (by rw [a0]; exact h3), a0]
          simp only [decide_eq_true_eq]
          rw [if_pos (cDs_ok (pDg_ge h3) (pDg_nI h3))]
          exact q_6 ih f (p + 1) _ _ _ _ _ _ (by omega)
theorem q_3 (ih : qIH tx n m (k + 1)) (s f p : Nat) (hs : s = 2 ∨ s = 3) (h43 : s = 2 → ¬ pA tx n p = 43) (hn : n = p + f) : qR tx f p (s, k + 1, uE els k (bar, kd, rep, 32, 0, 0), 0, 0) = cK tx n m k els (cE3 tx n k p bar kd rep) := by
  rcases f with _ | f
  · have a0 : pA tx n p = 32 := pA_out (by omega)
    have e0 : cE3 tx n k p bar kd rep = (true, p, (bar, kd, rep, 32, 0, 0)) := by unfold cE3; rw [a0, pTs_32]; rfl
    rw [e0]
    unfold cK
    simp only [if_true]
    rw [← ih s p 0 _ hn]
    rcases hs with rfl | rfl <;> simp [qR, qB, qFin]
  · have a0 : pA tx n p = tx p := pA_in (by omega)
    have hc : qNx (s, k + 1, uE els k (bar, kd, rep, 32, 0, 0), 0, 0) (tx p) = qCm (s, k + 1, uE els k (bar, kd, rep, 32, 0, 0), 0, 0) (tx p) := by
      rcases hs with rfl | rfl
      · have := h43 rfl
        rw [a0] at this
        simp [qNx, this]
      · simp [qNx]
    cases h1 : pTs (tx p)
    · have e0 : cE3 tx n k p bar kd rep = (true, p, (bar, kd, rep, 32, 0, 0)) := by unfold cE3; rw [a0, h1]; rfl
      rw [e0]
      unfold cK
      simp only [if_true]
      rw [← ih s p (f + 1) _ hn]
      simp [qR, qB, hc, qCm, h1]
    · have e0 : cE3 tx n k p bar kd rep = ((cC2 tx n k (p + 1)).1, (cC2 tx n k (p + 1)).2.1, (bar, kd, rep, tx p, (cC2 tx n k (p + 1)).2.2)) := by unfold cE3; rw [a0, h1]; rfl
      rw [e0, qR_s (d := (4, k + 1, uE els k (bar, kd, rep, tx p, 0, 0), 0, 0)) (by rw [hc]; simp [qCm, h1, qE_u, qSet_u])]
      exact q_4 ih f (p + 1) (by omega)
theorem q_2 (ih : qIH tx n m (k + 1)) (f p : Nat) (hb : bar = 0 ∨ bar = 1) (hk : k < 8) (hn : n = p + f) : qR tx f p (2, k + 1, uE els k (bar, kd, 0, 32, 0, 0), 0, 0) = cK tx n m k els (cE2 tx n k p bar kd) := by
  by_cases h1 : pA tx n p = 43
  · rcases f with _ | f
    · rw [pA_out (by omega)] at h1
      exact absurd h1 (by decide)
    · have a0 : pA tx n p = tx p := pA_in (by omega)
      rw [a0] at h1
      by_cases h2 : bar = 1 ∨ k = 7
      · have e0 : cE2 tx n k p bar kd = (false, p, pE0) := by unfold cE2; rw [a0, if_pos h1, if_pos h2]
        rw [e0, qR_n (by
          have h3 : ¬ (bar = 0 ∧ k + 1 < 8) := fun q => by
            rcases h2 with h | h
            · rw [h] at q; exact absurd q.1 (by decide)
            · omega
          have e9 : qNx (2, k + 1, uE els k (bar, kd, 0, 32, 0, 0), 0, 0) (tx p) = (if bar = 0 ∧ k + 1 < 8 then some (qSet (2, k + 1, uE els k (bar, kd, 0, 32, 0, 0), 0, 0) 3 (bar, kd, 1, 32, 0, 0)) else none) := by
            unfold qNx
            rw [if_neg (by simp), if_neg (by simp), if_pos rfl, if_pos h1, qE_u]
          rw [e9, if_neg h3])]
        simp [cK]
      · have e0 : cE2 tx n k p bar kd = cE3 tx n k (p + 1) bar kd 1 := by unfold cE2; rw [a0, if_pos h1, if_neg h2]
        have hb0 : bar = 0 := by
          rcases hb with h | h
          · exact h
          · exact absurd (Or.inl h) h2
        rw [e0, qR_s (d := (3, k + 1, uE els k (bar, kd, 1, 32, 0, 0), 0, 0)) (by
          have : k + 1 < 8 := by
            have : ¬ k = 7 := fun q => h2 (Or.inr q)
            omega
          simp [qNx, h1, qE_u, qSet_u, hb0, this])]
        exact q_3 ih 3 f (p + 1) (Or.inr rfl) (fun q => by cases q) (by omega)
  · have e0 : cE2 tx n k p bar kd = cE3 tx n k p bar kd 0 := by unfold cE2; rw [if_neg h1]
    rw [e0]
    exact q_3 ih 2 f p (Or.inl rfl) (fun _ => h1) hn
end QP
section QM
variable {tx : Nat → Int32} {n m k : Nat} {els : Nat → pE}
theorem q_fi (s f p : Nat) (hk : 1 ≤ k) (hn : n = p + f) (hx : 0 < f → tx p = 35 ∨ tx p = 64 ∨ qAf (s, k, els, 0, 0) (tx p) = none) : qB tx f p (s, k, els, 0, 0) = cFi tx n k p els := by
  have e1 : qE (s, k, els, 0, 0) = els (k - 1) := rfl
  have hm : cMy k els = decide ((els (k - 1)).1 = 0 ∧ (els (k - 1)).2.2.1 = 0) := by
    unfold cMy
    rw [show decide (0 < k) = true from decide_eq_true hk]
    simp
  unfold cFi
  rw [hm]
  rcases f with _ | f
  · have a0 : pA tx n p = 32 := pA_out (by omega)
    have e0 : cEd tx n p = (false, p, 0, 0) := by
      unfold cEd cEn
      rw [a0, if_neg (by decide), if_neg (by decide)]
    rw [e0]
    simp [qB]
  · have a0 : pA tx n p = tx p := pA_in (by omega)
    by_cases hl : (els (k - 1)).1 = 0 ∧ (els (k - 1)).2.2.1 = 0
    · rw [decide_eq_true hl]
      simp only [if_true]
      by_cases h1 : tx p = 35
      · have e0 : cEd tx n p = cEn tx n (p + 1) 1 := by unfold cEd; rw [a0, if_pos h1]
        rw [e0, ← qR_at (k := k) (els := els) f (p + 1) (by omega)]
        simp [qB, qAf, h1, e1, hl]
      · have e0 : cEd tx n p = cEn tx n p 0 := by unfold cEd; rw [a0, if_neg h1]
        rw [e0, ← qR_at (k := k) (els := els) (f + 1) p hn]
        by_cases h2 : tx p = 64
        · simp [qB, qR, qNx, qAf, h2, e1, hl]
        · have h3 : qAf (s, k, els, 0, 0) (tx p) = none := by
            rcases hx (by omega) with h | h | h
            · exact absurd h h1
            · exact absurd h h2
            · exact h
          rw [qR_n (by simp [qNx, h2])]
          simp [qB, h3]
    · rw [decide_eq_false hl]
      simp only [Bool.false_eq_true, if_false]
      have h3 : qAf (s, k, els, 0, 0) (tx p) = none := by
        rcases hx (by omega) with h | h | h
        · simp only [qAf, h, e1, if_neg hl, if_true]
        · simp only [qAf, h, e1, if_neg hl, if_true]
          rfl
        · exact h
      simp [qB, h3]
theorem q_1 (ih : qIH tx n m (k + 1)) (f p : Nat) (hk : k < 8) (hn : n = p + f) : qR tx f p (1, k, els, 0, 0) = cK tx n m k els (cE1 tx n k p 1) := by
  rcases f with _ | f
  · have e0 : cE1 tx n k p 1 = (false, p, pE0) := by unfold cE1; rw [pA_out (by omega), pKd_32]; rfl
    rw [e0]
    simp [cK, qR, qFin]
  · have a0 : pA tx n p = tx p := pA_in (by omega)
    cases h1 : pKd (tx p)
    · have e0 : cE1 tx n k p 1 = (false, p, pE0) := by unfold cE1; rw [a0, h1]; rfl
      rw [e0, qR_n (by simp [qNx, qBg, h1])]
      simp [cK]
    · have e0 : cE1 tx n k p 1 = cE2 tx n k (p + 1) 1 (tx p) := by unfold cE1; rw [a0, h1]; rfl
      rw [e0, qR_s (d := (2, k + 1, uE els k (1, tx p, 0, 32, 0, 0), 0, 0)) (by simp [qNx, qBg, h1])]
      exact q_2 ih f (p + 1) (Or.inr rfl) hk (by omega)
theorem pKd_ne {x : Int32} (h : pKd x = true) : ¬ x = 35 ∧ ¬ x = 64 ∧ ¬ x = 33 := by
  refine ⟨fun q => ?_, fun q => ?_, fun q => ?_⟩ <;> (rw [q] at h; exact absurd h (by decide))
theorem q_main : ∀ (m k : Nat), m + k = 8 → 1 ≤ k → qIH tx n m k := by
  intro m
  induction m with
  | zero =>
    intro k hmk hk s p f els hn
    have h8 : k = 8 := by omega
    show _ = cFi tx n k p els
    refine q_fi s f p hk hn (fun hf => ?_)
    by_cases h1 : tx p = 35
    · exact Or.inl h1
    · by_cases h2 : tx p = 64
      · exact Or.inr (Or.inl h2)
      · exact Or.inr (Or.inr (by simp [qAf, h1, h2, h8]))
  | succ m ih =>
    intro k hmk hk s p f els hn
    have ih1 := ih (k + 1) (by omega) (by omega)
    have h8 : ¬ k = 8 := by omega
    by_cases hel : pA tx n p = 33 ∨ pKd (pA tx n p) = true
    · have hpn : 0 < f := by
        rcases Nat.eq_zero_or_pos f with h | h
        · rw [pA_out (by omega)] at hel
          rcases hel with h9 | h9
          · exact absurd h9 (by decide)
          · exact absurd h9 (by decide)
        · exact h
      obtain ⟨f, rfl⟩ : ∃ f', f = f' + 1 := ⟨f - 1, by omega⟩
      have a0 : pA tx n p = tx p := pA_in (by omega)
      have hL : cLo tx n (m + 1) k p els = cK tx n m k els (cEl tx n k p) := by
        show (if pA tx n p = 33 ∨ pKd (pA tx n p) = true then _ else _) = _
        rw [if_pos hel]
        rfl
      rw [hL]
      rw [a0] at hel
      by_cases h33 : tx p = 33
      · by_cases h7 : k = 7
        · have e0 : cEl tx n k p = (false, p, pE0) := by unfold cEl; rw [a0, if_pos h33, if_pos (Or.inr h7)]
          rw [e0]
          simp [qB, qAf, h33, h7, cK]
        · have e0 : cEl tx n k p = cE1 tx n k (p + 1) 1 := by unfold cEl; rw [a0, if_pos h33, if_neg (by omega)]
          rw [e0, ← q_1 ih1 f (p + 1) (by omega) (by omega)]
          have h6 : k < 7 := by omega
          simp [qB, qAf, h33, h8, h6]
      · have hkd : pKd (tx p) = true := by
          rcases hel with h | h
          · exact absurd h h33
          · exact h
        obtain ⟨n1, n2, -⟩ := pKd_ne hkd
        have e0 : cEl tx n k p = cE2 tx n k (p + 1) 0 (tx p) := by
          unfold cEl cE1
          rw [a0, if_neg h33, if_pos hkd]
        rw [e0, ← q_2 ih1 f (p + 1) (Or.inl rfl) (by omega) (by omega)]
        simp [qB, qAf, n1, n2, h8, h33, qBg, hkd]
    · have hL : cLo tx n (m + 1) k p els = cFi tx n k p els := by
        show (if pA tx n p = 33 ∨ pKd (pA tx n p) = true then _ else _) = _
        rw [if_neg hel]
      rw [hL]
      refine q_fi s f p hk hn (fun hf => ?_)
      have a0 : pA tx n p = tx p := pA_in (by omega)
      rw [a0] at hel
      by_cases h1 : tx p = 35
      · exact Or.inl h1
      · by_cases h2 : tx p = 64
        · exact Or.inr (Or.inl h2)
        · refine Or.inr (Or.inr ?_)
          have h3 : ¬ tx p = 33 := fun q => hel (Or.inl q)
          have h4 : pKd (tx p) = false := by
            cases h : pKd (tx p)
            · rfl
            · exact absurd (Or.inr h) hel
          simp [qAf, h1, h2, h8, h3, qBg, h4]
theorem q_all : qR tx n 0 (0, 0, fun _ => pE0, 0, 0) = cRd tx n := by
  unfold cRd
  have hM : ∀ els, cFi tx n 0 0 els = cF 0 := fun els => by simp [cFi, cMy]
  rcases n with _ | n
  · have a0 : pA tx 0 0 = 32 := rfl
    have hL : cLo tx 0 8 0 0 (fun _ => pE0) = cFi tx 0 0 0 (fun _ => pE0) := by
      show (if pA tx 0 0 = 33 ∨ pKd (pA tx 0 0) = true then _ else _) = _
      rw [a0, if_neg (by decide)]
    rw [hL]
    simp [cFi, cMy, qR, qFin]
  · have a0 : pA tx (n + 1) 0 = tx 0 := pA_in (by omega)
    by_cases h33 : tx 0 = 33
    · have hL : cLo tx (n + 1) 8 0 0 (fun _ => pE0) = cF 0 := by
        show (if pA tx (n + 1) 0 = 33 ∨ pKd (pA tx (n + 1) 0) = true then _ else _) = _
        rw [a0, if_pos (Or.inl h33)]
        have e0 : cEl tx (n + 1) 0 0 = (false, 0, pE0) := by unfold cEl; rw [a0, if_pos h33, if_pos (Or.inl rfl)]
        rw [e0]
        simp
      rw [hL, qR_n (by
        have : pKd 33 = false := by decide
        simp [qNx, qBg, h33, this])]
    · cases hkd : pKd (tx 0)
      · have hL : cLo tx (n + 1) 8 0 0 (fun _ => pE0) = cFi tx (n + 1) 0 0 (fun _ => pE0) := by
          show (if pA tx (n + 1) 0 = 33 ∨ pKd (pA tx (n + 1) 0) = true then _ else _) = _
          rw [a0, if_neg (fun q => by rcases q with q | q; exact h33 q; rw [hkd] at q; cases q)]
        rw [hL, hM, qR_n (by simp [qNx, qBg, hkd])]
      · have hL : cLo tx (n + 1) 8 0 0 (fun _ => pE0) = cK tx (n + 1) 7 0 (fun _ => pE0) (cE2 tx (n + 1) 0 (0 + 1) 0 (tx 0)) := by
          show (if pA tx (n + 1) 0 = 33 ∨ pKd (pA tx (n + 1) 0) = true then _ else _) = _
          rw [a0, if_pos (Or.inr hkd)]
          have e0 : cEl tx (n + 1) 0 0 = cE2 tx (n + 1) 0 (0 + 1) 0 (tx 0) := by
            unfold cEl cE1
            rw [a0, if_neg h33, if_pos hkd]
          rw [e0]
          rfl
        rw [hL, ← q_2 (q_main 7 1 (by omega) (by omega)) n (0 + 1) (Or.inl rfl) (by omega) (by omega)]
        rw [qR_s (d := (2, 0 + 1, uE (fun _ => pE0) 0 (0, tx 0, 0, 32, 0, 0), 0, 0)) (by simp [qNx, qBg, hkd])]
end QM
