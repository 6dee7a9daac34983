/-! ===== the class reads an entry ===== -/
theorem btw_n {x : Int32} {lo hi : Nat} (hh : hi < 2 ^ 31) (hl : lo < 2 ^ 31) : btw x (nI lo) (nI hi) = true ↔ isN x lo hi := by
  unfold btw
  rw [Bool.and_eq_true, decide_eq_true_eq, decide_eq_true_eq, Int32.le_iff_toInt_le, Int32.le_iff_toInt_le, nI_toInt hh, nI_toInt hl]
  constructor
  · intro h
    refine ⟨x.toInt.toNat, by omega, by omega, Int32.toInt_inj.mp ?_⟩
    have := x.toInt_lt
    rw [nI_toInt (by omega)]; omega
  · rintro ⟨m, h1, h2, rfl⟩
    rw [nI_toInt (by omega)]
    omega
/-- the text in the class's input -/
def Tc (μ : St) (t : Nat → Int32) (n : Nat) : Prop := μ 5 0 0 1 = nI n ∧ n ≤ 60 ∧ (∀ j, j < n → μ 24 0 0 j = t j) ∧ ∀ j, j < n → isN (t j) 32 126
def K2 (μ μ' : St) : Prop := ∀ k b i s, ¬ (k = 5 ∧ s = 2) → μ' k b i s = μ k b i s
def Kq (μ μ' : St) : Prop := ∀ k b i s, ¬ (k = 5 ∧ (s = 2 ∨ 4 ≤ s)) → μ' k b i s = μ k b i s
theorem Tc.kq {μ μ' : St} {t : Nat → Int32} {n : Nat} (h : Tc μ t n) (hk : Kq μ μ') : Tc μ' t n := ⟨by rw [hk _ _ _ _ (by omega)]; exact h.1, h.2.1, fun j hj => by rw [hk _ _ _ _ (by omega)]; exact h.2.2.1 j hj, h.2.2.2⟩
theorem K2.kq {μ μ' : St} (h : K2 μ μ') : Kq μ μ' := fun k b i s hk => h k b i s (by omega)
theorem Kq.trans {μ μ' μ'' : St} (h : Kq μ μ') (h' : Kq μ' μ'') : Kq μ μ'' := fun k b i s hk => by rw [h' k b i s hk, h k b i s hk]
theorem kq_up {μ μ' : St} (h : Kq μ μ') {s : Nat} {x : Int32} (hs : s = 2 ∨ 4 ≤ s) : Kq μ (up μ' 5 0 0 s x) := fun k b i s' hk => by
  rw [show up μ' 5 0 0 s x k b i s' = μ' k b i s' by unfold up; rw [if_neg (by omega)], h k b i s' hk]
section CT
variable {t : Nat → Int32} {n c : Nat} {μ : St} (G : Gl)
theorem s_X3_isHere (hT : Tc μ t n) (h2 : μ 5 0 0 2 = nI c) (hc : c ≤ n) (x1 x2 : Int32) : Con G mX3_isHere [.ref (zad G.1 5 0 0), .int x1, .int x2] μ (fun v μ9 => v = some (.int (bI (decide (c < n) && btw (t c) x1 x2))) ∧ μ9 = μ) noX := by
  have hn := hT.2.1
  apply wX3_isHere
  rw [h2, hT.1]
  refine ⟨fun z => absurd z (by rw [← nI_0]; exact i_nlt.mpr ((nI_leI (by decide) (by omega)).mpr (Nat.zero_le _))), fun _ => ⟨fun z => ?_, fun z => ⟨fun z2 => absurd ((nI_leI (by decide) (by omega)).mp z2) (by
    have : ¬ n ≤ c := fun w => z ((nI_leI (by omega) (by omega)).mpr w)
    omega), fun _ => ?_⟩⟩⟩
  · have : ¬ c < n := by
      have := (nI_leI (by omega) (by omega)).mp z
      omega
    rw [decide_eq_false this]
    exact ⟨rfl, rfl⟩
  · have hcn : c < n := by
      have : ¬ n ≤ c := fun w => z ((nI_leI (by omega) (by omega)).mpr w)
      omega
    refine ⟨c, rfl, by omega, ?_⟩
    rw [hT.2.2.1 c hcn, decide_eq_true hcn]
    refine ⟨fun z => ⟨?_, rfl⟩, fun z => ⟨c, rfl, by omega, ?_⟩⟩
    · rw [show btw (t c) x1 x2 = false by rw [btw, decide_eq_false (i_nle.mpr z)]; rfl]; rfl
    · rw [hT.2.2.1 c hcn]
      refine ⟨fun z2 => ⟨?_, rfl⟩, fun z2 => ⟨?_, rfl⟩⟩
      · rw [show btw (t c) x1 x2 = false by rw [btw, decide_eq_false (p := t c ≤ x2) (i_nle.mpr z2), Bool.and_false]]; rfl
      · rw [show btw (t c) x1 x2 = true by rw [btw, decide_eq_true (i_nlt.mp z), decide_eq_true (i_nlt.mp z2)]; rfl]; rfl
theorem stp_ok {lo hi : Int32} (h : (decide (c < n) && btw (t c) lo hi) = true) : stp t n lo hi (false, c) = (false, c + 1) := by
  rw [Bool.and_eq_true, decide_eq_true_eq] at h
  unfold stp
  rw [if_neg (fun z => by cases z), if_pos h]
theorem stp_no {lo hi : Int32} (h : (decide (c < n) && btw (t c) lo hi) = false) : stp t n lo hi (false, c) = (true, c) := by
  unfold stp
  rw [if_neg (fun z => by cases z), if_neg]
  intro z
  rw [decide_eq_true z.1, z.2] at h
  cases h
theorem s_X3_takeSign (hT : Tc μ t n) (h2 : μ 5 0 0 2 = nI c) (hc : c ≤ n) (x : Int32) : Con G mX3_takeSign [.ref (zad G.1 5 0 0), .int x] μ (fun v μ9 => v = some (.int (bI (!(stp t n x x (false, c)).1))) ∧ K2 μ μ9 ∧ μ9 5 0 0 2 = nI (stp t n x x (false, c)).2) noX := by
  apply wX3_takeSign
  refine (s_X3_isHere G hT h2 hc x x).mono (fun v μ1 hp => ⟨_, hp.1, ?_⟩) (fun _ _ hp => hp)
  obtain ⟨-, rfl⟩ := hp
  refine ⟨fun z => ?_, fun z => ?_⟩
  · rw [stp_ok z]
    exact ⟨rfl, fun k b i s hk => by unfold up; rw [if_neg (by omega)], by rw [up_self, h2, nI_add]⟩
  · rw [stp_no z]
    exact ⟨rfl, fun k b i s hk => rfl, h2⟩
theorem s_X3_takeDigit (hT : Tc μ t n) (h2 : μ 5 0 0 2 = nI c) (hc : c ≤ n) (lo hi : Int32) : Con G mX3_takeDigit [.ref (zad G.1 5 0 0), .int lo, .int hi] μ (fun v μ9 => v = some (.int (if (stp t n lo hi (false, c)).1 = true then -1 else t c - nI 48)) ∧ K2 μ μ9 ∧ μ9 5 0 0 2 = nI (stp t n lo hi (false, c)).2) noX := by
  have hn := hT.2.1
  apply wX3_takeDigit
  refine (s_X3_isHere G hT h2 hc lo hi).mono (fun v μ1 hp => ⟨_, hp.1, ?_⟩) (fun _ _ hp => hp)
  obtain ⟨-, rfl⟩ := hp
  refine ⟨fun z => ?_, fun z => ?_⟩
  · have hcn : c < n := by
      rw [Bool.and_eq_true, decide_eq_true_eq] at z
      exact z.1
    rw [stp_ok z]
    exact ⟨c, h2, by omega, by rw [if_neg (fun z => by cases z), hT.2.2.1 c hcn], fun k b i s hk => by unfold up; rw [if_neg (by omega)], by rw [up_self, h2, nI_add]⟩
  · rw [stp_no z]
    exact ⟨by rw [if_pos rfl], fun k b i s hk => rfl, h2⟩
/-- a digit read is no -1 -/
theorem dig_ne {lo hi : Nat} (hT : Tc μ t n) (hl : 48 ≤ lo) (hh : hi < 2 ^ 31) (hl2 : lo < 2 ^ 31) (h : (stp t n (nI lo) (nI hi) (false, c)).1 = false) : dV t n (nI lo) (nI hi) (false, c) = t c - nI 48 ∧ isN (t c - nI 48) (lo - 48) (hi - 48) ∧ ¬ t c - nI 48 = -1 := by
  have h1 := stp_c (t := t) (n := n) (lo := nI lo) (hi := nI hi) (s := (false, c))
  have h3 := h1.2.2 h
  obtain ⟨m, m1, m2, m3⟩ := (btw_n hh hl2).mp h3.2.2.2
  obtain ⟨m', m4, m5, m6⟩ := hT.2.2.2 c h3.2.2.1
  have h3' : t c = nI m := m3
  have e : t c - nI 48 = nI (m - 48) := by rw [h3', nI_sub (by omega)]
  obtain rfl : m = m' := nI_inj (by omega) (by omega) (h3'.symm.trans m6)
  have nn : ∀ n, n < 127 → ¬ nI n = -1 := by decide +kernel
  refine ⟨?_, by rw [e]; exact ⟨m - 48, by omega, by omega, rfl⟩, by rw [e]; exact nn _ (by omega)⟩
  unfold dV
  rw [if_neg (by rw [h]; decide)]
theorem s_X3_takeNumber (hT : Tc μ t n) (h2 : μ 5 0 0 2 = nI c) (hc : c ≤ n) (lo hi : Nat) (hl : 48 ≤ lo) (hh : hi < 2 ^ 31) (hl2 : lo < 2 ^ 31) : Con G mX3_takeNumber [.ref (zad G.1 5 0 0), .int (nI lo), .int (nI hi)] μ (fun v μ9 => v = some (.int (bI (!(stp t n (nI lo) (nI hi) (false, c)).1))) ∧ (∀ k b i s, ¬ (k = 5 ∧ (s = 2 ∨ s = 5)) → μ9 k b i s = μ k b i s) ∧ μ9 5 0 0 2 = nI (stp t n (nI lo) (nI hi) (false, c)).2 ∧ ((stp t n (nI lo) (nI hi) (false, c)).1 = false → μ9 5 0 0 5 = dV t n (nI lo) (nI hi) (false, c))) noX := by
  apply wX3_takeNumber
  refine (s_X3_takeDigit G hT h2 hc (nI lo) (nI hi)).mono (fun v μ1 hp => ⟨_, hp.1, ?_⟩) (fun _ _ hp => hp)
  obtain ⟨-, p1, p2⟩ := hp
  have pk : ∀ x k b i s, ¬ (k = 5 ∧ (s = 2 ∨ s = 5)) → up μ1 5 0 0 5 x k b i s = μ k b i s := fun x k b i s hk => by
    rw [show up μ1 5 0 0 5 x k b i s = μ1 k b i s by unfold up; rw [if_neg (by omega)], p1 k b i s (by omega)]
  cases hb : (stp t n (nI lo) (nI hi) (false, c)).1
  · obtain ⟨d1, d2, d3⟩ := dig_ne hT hl hh hl2 hb
    rw [if_neg (by decide)]
    exact ⟨fun z => absurd z d3, fun _ => ⟨rfl, pk _, by rw [up_sl (by decide), p2], fun _ => by rw [up_self, d1]⟩⟩
  · rw [if_pos rfl]
    exact ⟨fun _ => ⟨rfl, pk _, by rw [up_sl (by decide), p2], fun z => by cases z⟩, fun z => absurd rfl z⟩
theorem s_X3_takeTarget (hT : Tc μ t n) (h2 : μ 5 0 0 2 = nI c) (hc : c ≤ n) (lo hi : Nat) (hl : 48 ≤ lo) (hh : hi < 2 ^ 31) (hl2 : lo < 2 ^ 31) : Con G mX3_takeTarget [.ref (zad G.1 5 0 0), .int (nI lo), .int (nI hi)] μ (fun v μ9 => v = some (.int (bI (!(stp t n (nI lo) (nI hi) (false, c)).1))) ∧ (∀ k b i s, ¬ (k = 5 ∧ (s = 2 ∨ s = 6)) → μ9 k b i s = μ k b i s) ∧ μ9 5 0 0 2 = nI (stp t n (nI lo) (nI hi) (false, c)).2 ∧ ((stp t n (nI lo) (nI hi) (false, c)).1 = false → μ9 5 0 0 6 = dV t n (nI lo) (nI hi) (false, c))) noX := by
  apply wX3_takeTarget
  refine (s_X3_takeDigit G hT h2 hc (nI lo) (nI hi)).mono (fun v μ1 hp => ⟨_, hp.1, ?_⟩) (fun _ _ hp => hp)
  obtain ⟨-, p1, p2⟩ := hp
  have pk : ∀ x k b i s, ¬ (k = 5 ∧ (s = 2 ∨ s = 6)) → up μ1 5 0 0 6 x k b i s = μ k b i s := fun x k b i s hk => by
    rw [show up μ1 5 0 0 6 x k b i s = μ1 k b i s by unfold up; rw [if_neg (by omega)], p1 k b i s (by omega)]
  cases hb : (stp t n (nI lo) (nI hi) (false, c)).1
  · obtain ⟨d1, d2, d3⟩ := dig_ne hT hl hh hl2 hb
    rw [if_neg (by decide)]
    exact ⟨fun z => absurd z d3, fun _ => ⟨rfl, pk _, by rw [up_sl (by decide), p2], fun _ => by rw [up_self, d1]⟩⟩
  · rw [if_pos rfl]
    exact ⟨fun _ => ⟨rfl, pk _, by rw [up_sl (by decide), p2], fun z => by cases z⟩, fun z => absurd rfl z⟩
theorem s_X3_takeGuest (hT : Tc μ t n) (h2 : μ 5 0 0 2 = nI c) (hc : c ≤ n) : Con G mX3_takeGuest [.ref (zad G.1 5 0 0)] μ (fun v μ9 => v = some (.int (bI (!(gS t n (false, c)).1))) ∧ (∀ k b i s, ¬ (k = 5 ∧ (s = 2 ∨ s = 5)) → μ9 k b i s = μ k b i s) ∧ μ9 5 0 0 2 = nI (gS t n (false, c)).2 ∧ ((gS t n (false, c)).1 = false → μ9 5 0 0 5 = gV t n (false, c))) noX := by
  apply wX3_takeGuest
  refine (s_X3_takeNumber G hT h2 hc 48 57 (by decide) (by decide) (by decide)).mono (fun v μ1 hp => ⟨_, hp.1, ?_⟩) (fun _ _ hp => hp)
  obtain ⟨-, p1, p2, p3⟩ := hp
  have s1 := stp_c (t := t) (n := n) (lo := nI 48) (hi := nI 57) (s := (false, c))
  have hc1 := s1.2.1 hc
  cases hb : (stp t n (nI 48) (nI 57) (false, c)).1
  · refine ⟨fun _ => ⟨fun z => ⟨fun _ => ?_, fun z => absurd rfl z⟩, fun z => ?_⟩, fun z => by cases z⟩
    · -- not 1: no second digit
      have hg : gT t n (false, c) = false := by
        unfold gT
        rw [decide_eq_false (p := dV t n (nI 48) (nI 57) (false, c) = nI 1) (by rw [← p3 hb]; exact z), Bool.and_false, Bool.false_and, Bool.false_and]
      unfold gS gV
      rw [hg, if_neg (by decide), hb]
      exact ⟨rfl, p1, p2, fun _ => by rw [if_neg (by decide)]; exact p3 hb⟩
    · -- a 1: perhaps a second digit
      have hd : dV t n (nI 48) (nI 57) (false, c) = nI 1 := by rw [← p3 hb]; exact z
      have hT1 : Tc μ1 t n := hT.kq (fun k b i s hk => p1 k b i s (by omega))
      have es : stp t n (nI 48) (nI 57) (false, c) = (false, (stp t n (nI 48) (nI 57) (false, c)).2) := Prod.ext hb rfl
      generalize hq : (stp t n (nI 48) (nI 57) (false, c)).2 = q at *
      refine (s_X3_takeDigit G hT1 p2 hc1 (nI 48) (nI 53)).mono (fun v μ2 hp => ⟨_, hp.1, ?_⟩) (fun _ _ hp => hp)
      obtain ⟨-, r1, r2⟩ := hp
      have pk2 : ∀ k b i s, ¬ (k = 5 ∧ (s = 2 ∨ s = 5)) → μ2 k b i s = μ k b i s := fun k b i s hk => by rw [r1 k b i s (by omega), p1 k b i s hk]
      have pk : ∀ x k b i s, ¬ (k = 5 ∧ (s = 2 ∨ s = 5)) → up μ2 5 0 0 5 x k b i s = μ k b i s := fun x k b i s hk => by
        rw [show up μ2 5 0 0 5 x k b i s = μ2 k b i s by unfold up; rw [if_neg (by omega)], pk2 k b i s hk]
      cases hb2 : (stp t n (nI 48) (nI 53) (false, q)).1
      · obtain ⟨d1, d2, d3⟩ := dig_ne (lo := 48) (hi := 53) hT1 (by decide) (by decide) (by decide) hb2
        have s2 := (stp_c (t := t) (n := n) (lo := nI 48) (hi := nI 53) (s := (false, q))).2.2 hb2
        have hg : gT t n (false, c) = true := by
          unfold gT
          rw [es, hd]
          rw [decide_eq_true s2.2.2.1, s2.2.2.2]; rfl
        rw [if_neg (by decide)]
        unfold gS gV
        rw [hg, if_pos rfl, es, hb2]
        exact ⟨fun z => absurd z d3, fun _ => ⟨rfl, pk _, by rw [up_sl (by decide), r2], fun _ => by rw [if_pos rfl, up_self, d1]⟩⟩
      · have hg : gT t n (false, c) = false := by
          cases hgt : gT t n (false, c)
          · rfl
          · exfalso
            unfold gT at hgt
            rw [es] at hgt
            simp only [Bool.and_eq_true, decide_eq_true_eq] at hgt
            have := stp_ok (lo := nI 48) (hi := nI 53) (c := q) (t := t) (n := n) (by rw [decide_eq_true hgt.1.2, hgt.2]; rfl)
            rw [this] at hb2
            cases hb2
        have sq : (stp t n (nI 48) (nI 53) (false, q)).2 = q := by
          unfold stp at hb2 ⊢
          rw [if_neg (fun z => by cases z)] at hb2 ⊢
          by_cases c2 : q < n ∧ btw (t q) (nI 48) (nI 53) = true
          · rw [if_pos c2] at hb2; cases hb2
          · rw [if_neg c2]
        rw [if_pos rfl]
        unfold gS gV
        rw [hg, if_neg (by decide), es]
        exact ⟨fun _ => ⟨rfl, pk2, by rw [r2, sq], fun _ => by rw [if_neg (by decide), r1 5 0 0 5 (by omega)]; exact p3 (by rw [es])⟩, fun z => absurd rfl z⟩
  · refine ⟨fun z => (by cases z), fun _ => ?_⟩
    have hg : gT t n (false, c) = false := by
      unfold gT
      rw [hb]; rfl
    unfold gS gV
    rw [hg, if_neg (by decide), hb]
    exact ⟨rfl, p1, p2, fun z => by cases z⟩
end CT
