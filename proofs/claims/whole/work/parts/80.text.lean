/-! ===== texts: what both read ===== -/
section TX
variable {t : Nat → Int32} {n : Nat}
/-- a step of reading: bad or not, and where -/
def stp (t : Nat → Int32) (n : Nat) (lo hi : Int32) (s : Bool × Nat) : Bool × Nat := if s.1 = true then s else if s.2 < n ∧ btw (t s.2) lo hi = true then (false, s.2 + 1) else (true, s.2)
def dV (t : Nat → Int32) (n : Nat) (lo hi : Int32) (s : Bool × Nat) : Int32 := if (stp t n lo hi s).1 = true then nI 0 else t s.2 - nI 48
/-- a guest's number may have a second digit -/
def gT (t : Nat → Int32) (n : Nat) (s : Bool × Nat) : Bool := !(stp t n (nI 48) (nI 57) s).1 && decide (dV t n (nI 48) (nI 57) s = nI 1) && decide ((stp t n (nI 48) (nI 57) s).2 < n) && btw (t (stp t n (nI 48) (nI 57) s).2) (nI 48) (nI 53)
def gS (t : Nat → Int32) (n : Nat) (s : Bool × Nat) : Bool × Nat := if gT t n s = true then stp t n (nI 48) (nI 53) (stp t n (nI 48) (nI 57) s) else stp t n (nI 48) (nI 57) s
def gV (t : Nat → Int32) (n : Nat) (s : Bool × Nat) : Int32 := if gT t n s = true then nI 10 + dV t n (nI 48) (nI 53) (stp t n (nI 48) (nI 57) s) else dV t n (nI 48) (nI 57) s
def hr (t : Nat → Int32) (n c : Nat) : Int32 := if c < n then t c else -1
def kd (k : Int32) : Bool := decide (k = nI 103) || (decide (k = nI 113) || (decide (k = nI 115) || (decide (k = nI 119) || decide (k = nI 116))))
/-- behind the sign of an entry -/
def p0 (t : Nat → Int32) (n c : Nat) : Bool × Nat := if kd (hr t n c) = true then (false, c + 1) else (true, c)
/-- behind an entry's numbers, the sign before it -/
def pN (t : Nat → Int32) (n c : Nat) : Bool × Nat := if hr t n c = nI 113 then stp t n (nI 48) (nI 53) (stp t n (nI 45) (nI 45) (gS t n (p0 t n c))) else if hr t n c = nI 115 then stp t n (nI 48) (nI 57) (stp t n (nI 45) (nI 45) (gS t n (p0 t n c))) else if hr t n c = nI 103 then stp t n (nI 49) (nI 51) (stp t n (nI 48) (nI 55) (p0 t n c)) else if hr t n c = nI 116 then stp t n (nI 49) (nI 57) (p0 t n c) else stp t n (nI 48) (nI 57) (p0 t n c)
def pS (t : Nat → Int32) (n c : Nat) : Bool × Nat := stp t n (nI 59) (nI 59) (pN t n c)
def pA (t : Nat → Int32) (n c : Nat) : Int32 := if hr t n c = nI 113 ∨ hr t n c = nI 115 then gV t n (p0 t n c) else if hr t n c = nI 103 then dV t n (nI 48) (nI 55) (p0 t n c) else if hr t n c = nI 116 then dV t n (nI 49) (nI 57) (p0 t n c) else dV t n (nI 48) (nI 57) (p0 t n c)
def pB (t : Nat → Int32) (n c : Nat) : Int32 := if hr t n c = nI 113 then dV t n (nI 48) (nI 53) (stp t n (nI 45) (nI 45) (gS t n (p0 t n c))) else if hr t n c = nI 115 then dV t n (nI 48) (nI 57) (stp t n (nI 45) (nI 45) (gS t n (p0 t n c))) else if hr t n c = nI 103 then dV t n (nI 49) (nI 51) (stp t n (nI 48) (nI 55) (p0 t n c)) else nI 0
theorem stp_bad {lo hi : Int32} {s : Bool × Nat} (h : s.1 = true) : stp t n lo hi s = s := by
  unfold stp
  rw [if_pos h]
theorem stp_c {lo hi : Int32} {s : Bool × Nat} : s.2 ≤ (stp t n lo hi s).2 ∧ (s.2 ≤ n → (stp t n lo hi s).2 ≤ n) ∧ ((stp t n lo hi s).1 = false → s.1 = false ∧ (stp t n lo hi s).2 = s.2 + 1 ∧ s.2 < n ∧ btw (t s.2) lo hi = true) := by
  unfold stp
  by_cases h : s.1 = true
  · rw [if_pos h]
    exact ⟨Nat.le_refl _, fun h => h, fun z => by rw [h] at z; cases z⟩
  · rw [if_neg h]
    by_cases h2 : s.2 < n ∧ btw (t s.2) lo hi = true
    · rw [if_pos h2]
      exact ⟨Nat.le_succ _, fun _ => h2.1, fun _ => ⟨by cases hs : s.1 <;> simp_all, rfl, h2⟩⟩
    · rw [if_neg h2]
      exact ⟨Nat.le_refl _, fun h => h, fun z => by cases z⟩
theorem gS_c {s : Bool × Nat} : s.2 ≤ (gS t n s).2 ∧ (s.2 ≤ n → (gS t n s).2 ≤ n) ∧ ((gS t n s).1 = false → s.1 = false ∧ s.2 + 1 ≤ (gS t n s).2) := by
  have a := stp_c (t := t) (n := n) (lo := nI 48) (hi := nI 57) (s := s)
  have b := stp_c (t := t) (n := n) (lo := nI 48) (hi := nI 53) (s := stp t n (nI 48) (nI 57) s)
  unfold gS
  by_cases h : gT t n s = true
  · rw [if_pos h]
    refine ⟨by omega, fun h => b.2.1 (a.2.1 h), fun h => ?_⟩
    have q1 := b.2.2 h
    have q2 := a.2.2 q1.1
    exact ⟨q2.1, by omega⟩
  · rw [if_neg h]
    refine ⟨by omega, fun h => a.2.1 h, fun h => ?_⟩
    have q2 := a.2.2 h
    exact ⟨q2.1, by omega⟩
theorem p0_c {c : Nat} : c ≤ (p0 t n c).2 ∧ (c ≤ n → (p0 t n c).2 ≤ n) ∧ ((p0 t n c).1 = false → (p0 t n c).2 = c + 1 ∧ kd (hr t n c) = true) := by
  unfold p0
  by_cases h : kd (hr t n c) = true
  · rw [if_pos h]
    refine ⟨Nat.le_succ _, fun _ => ?_, fun _ => ⟨rfl, h⟩⟩
    show c + 1 ≤ n
    unfold hr at h
    by_cases hc : c < n
    · exact hc
    · rw [if_neg hc] at h; exact absurd h (by decide)
  · rw [if_neg h]
    exact ⟨Nat.le_refl _, fun h => h, fun z => by cases z⟩
theorem pS_c {c : Nat} (hc : c ≤ n) : c ≤ (pS t n c).2 ∧ (pS t n c).2 ≤ n ∧ ((pS t n c).1 = false → c + 3 ≤ (pS t n c).2) := by
  have a := p0_c (t := t) (n := n) (c := c)
  have key : ∀ s : Bool × Nat, (p0 t n c).2 ≤ s.2 → s.2 ≤ n → (s.1 = false → (p0 t n c).1 = false ∧ (p0 t n c).2 + 1 ≤ s.2) → c ≤ (stp t n (nI 59) (nI 59) s).2 ∧ (stp t n (nI 59) (nI 59) s).2 ≤ n ∧ ((stp t n (nI 59) (nI 59) s).1 = false → c + 3 ≤ (stp t n (nI 59) (nI 59) s).2) := fun s h1 h2 h3 => by
    have b := stp_c (t := t) (n := n) (lo := nI 59) (hi := nI 59) (s := s)
    refine ⟨by omega, b.2.1 h2, fun h => ?_⟩
    have b1 := b.2.2 h
    have b2 := h3 b1.1
    have b3 := a.2.2 b2.1
    omega
  have one : ∀ lo hi, (p0 t n c).2 ≤ (stp t n lo hi (p0 t n c)).2 ∧ (stp t n lo hi (p0 t n c)).2 ≤ n ∧ ((stp t n lo hi (p0 t n c)).1 = false → (p0 t n c).1 = false ∧ (p0 t n c).2 + 1 ≤ (stp t n lo hi (p0 t n c)).2) := fun lo hi => by
    have b := stp_c (t := t) (n := n) (lo := lo) (hi := hi) (s := p0 t n c)
    refine ⟨b.1, b.2.1 (a.2.1 hc), fun h => ?_⟩
    have q2 := b.2.2 h
    exact ⟨q2.1, by omega⟩
  have more : ∀ lo hi (s : Bool × Nat), ((p0 t n c).2 ≤ s.2 ∧ s.2 ≤ n ∧ (s.1 = false → (p0 t n c).1 = false ∧ (p0 t n c).2 + 1 ≤ s.2)) → (p0 t n c).2 ≤ (stp t n lo hi s).2 ∧ (stp t n lo hi s).2 ≤ n ∧ ((stp t n lo hi s).1 = false → (p0 t n c).1 = false ∧ (p0 t n c).2 + 1 ≤ (stp t n lo hi s).2) := fun lo hi s h => by
    have b := stp_c (t := t) (n := n) (lo := lo) (hi := hi) (s := s)
    refine ⟨by omega, b.2.1 h.2.1, fun h1 => ?_⟩
    have b1 := b.2.2 h1
    have b2 := h.2.2 b1.1
    exact ⟨b2.1, by omega⟩
  have gu : (p0 t n c).2 ≤ (gS t n (p0 t n c)).2 ∧ (gS t n (p0 t n c)).2 ≤ n ∧ ((gS t n (p0 t n c)).1 = false → (p0 t n c).1 = false ∧ (p0 t n c).2 + 1 ≤ (gS t n (p0 t n c)).2) := by
    have b := gS_c (t := t) (n := n) (s := p0 t n c)
    exact ⟨b.1, b.2.1 (a.2.1 hc), b.2.2⟩
  have fin : (p0 t n c).2 ≤ (pN t n c).2 ∧ (pN t n c).2 ≤ n ∧ ((pN t n c).1 = false → (p0 t n c).1 = false ∧ (p0 t n c).2 + 1 ≤ (pN t n c).2) := by
    unfold pN
    split
    · exact more _ _ _ (more _ _ _ gu)
    · split
      · exact more _ _ _ (more _ _ _ gu)
      · split
        · exact more _ _ _ (one _ _)
        · split
          · exact one _ _
          · exact one _ _
  exact key _ fin.1 fin.2.1 fin.2.2
/-- where entry e begins -/
def pC (t : Nat → Int32) (n : Nat) : Nat → Nat
  | 0 => 0
  | e + 1 => (pS t n (pC t n e)).2
def TxOk (t : Nat → Int32) (n E : Nat) : Prop := 1 ≤ E ∧ (∀ e, e < E → (pS t n (pC t n e)).1 = false) ∧ (∀ e, 1 ≤ e → e < E → pC t n e < n) ∧ pC t n E = n
def TxBad (t : Nat → Int32) (n E : Nat) : Prop := (∀ e, e < E → (pS t n (pC t n e)).1 = false) ∧ (∀ e, 1 ≤ e → e ≤ E → pC t n e < n) ∧ (pS t n (pC t n E)).1 = true
theorem pC_c (e : Nat) : pC t n e ≤ n := by
  induction e with
  | zero => exact Nat.zero_le _
  | succ e ih => exact (pS_c ih).2.1
theorem pC_3 {E : Nat} (h : ∀ e, e < E → (pS t n (pC t n e)).1 = false) : ∀ e, e ≤ E → 3 * e ≤ pC t n e := by
  intro e
  induction e with
  | zero => intro _; exact Nat.zero_le _
  | succ e ih =>
    intro he
    have h1 := ih (by omega)
    have h2 := (pS_c (pC_c (t := t) (n := n) e)).2.2 (h e (by omega))
    show 3 * (e + 1) ≤ (pS t n (pC t n e)).2
    omega
theorem TxOk.uni {E E' : Nat} (h : TxOk t n E) (h' : TxOk t n E') : E = E' := by
  rcases Nat.lt_trichotomy E E' with c | c | c
  · have h1 := h'.2.2.1 E h.1 c
    have h2 := h.2.2.2
    omega
  · exact c
  · have h1 := h.2.2.1 E' h'.1 c
    have h2 := h'.2.2.2
    omega
theorem TxOk.bad {E E' : Nat} (h : TxOk t n E) (h' : TxBad t n E') : False := by
  rcases Nat.lt_or_ge E' E with c | c
  · have := h.2.1 E' c
    rw [h'.2.2] at this; cases this
  · have h1 := h'.2.1 E h.1 c
    have h2 := h.2.2.2
    omega
theorem TxBad.uni {E E' : Nat} (h : TxBad t n E) (h' : TxBad t n E') : E = E' := by
  rcases Nat.lt_trichotomy E E' with c | c | c
  · have := h'.1 E c
    rw [h.2.2] at this; cases this
  · exact c
  · have := h.1 E' c
    rw [h'.2.2] at this; cases this
end TX
