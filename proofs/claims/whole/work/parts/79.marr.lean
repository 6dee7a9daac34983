/-! ===== the reference's arrivals ===== -/
section MARR
variable {σ μ : St} {b nl np ng W : Nat} (G : Gl)
/-- what an arrival's trial leaves -/
def ArvP (μ μ9 : St) : Prop := (∀ k b i s, k ≠ 26 → k ≠ 29 → (k = 10 → s ≠ 7) → μ9 k b i s = μ k b i s) ∧ ∀ i, i < 372 → row μ9 i = row μ i
theorem t_arrival {P : Option Value → St → Prop} (hW : W < 2 ^ 30) (hR : Rok σ b nl np ng W) (h : Rel σ b nl np ng (row μ)) {g : Nat} (hg : g < ng) (h29 : ∀ i, i < 372 → μ 29 0 0 i = row μ i)
    (hP : (∀ μ9, ArvP μ μ9 → (ttsF σ b g = -1 ∨ ¬ ttsF σ b g ≤ nI 60) → P (some (.int (nI 0))) (up μ9 10 0 0 6 (nI 2))) ∧ ∀ μ9, ArvP μ μ9 → ¬ ttsF σ b g = -1 → ttsF σ b g ≤ nI 60 → P (some (.int (ttsF σ b g))) μ9) (h4 : ¬ σ 3 b g 4 = nI 4) : VL G mX8_arrival P noX 46 [(0, .ref (zad G.1 10 0 0)), (1, .int (nI g)), (2, .int (nI 0))] [] μ := by
  have hn3 := hR.1.2.2.2
  have ej : ∀ k, (nI 212 + nI 10 * nI g) + nI k = nI (212 + 10 * g + k) := fun k => by rw [pk_mul, nI_add, nI_add]
  -- the trial's end
  have back : ∀ {μ' : St}, Mt μ μ' → ∀ {Q : Option Value → St → Prop}, (∀ μ9, ArvP μ μ9 → Q none μ9) → Con G mX8_takeBack [.ref (zad G.1 10 0 0)] μ' Q noX := fun {μ'} hM {Q} hQ => by
    refine (s_X8_takeBack G μ').mono (fun v μ1 hp => ?_) (fun _ _ hp => hp)
    obtain ⟨rfl, rfl⟩ := hp
    refine hQ _ ⟨fun k b i s h26 h29 h10 => by rw [cpR_k h26, hM k b i s h26 h10], fun i hi => ?_⟩
    show cpR _ _ _ _ _ 26 0 0 i = _
    rw [cpR_at (by omega) (by omega), Nat.sub_zero, hM 29 0 0 i (by decide) (fun w => by cases w), h29 i hi]
  have e0 : ∀ {x : Int32}, x = 0 ↔ x = nI 0 := fun {x} => by rw [nI_0]
  have T : ∀ k n (σ' μ' : St), n + k = 60 → Rok σ' b nl np ng W → Rel σ' b nl np ng (row μ') → Mt μ μ' → ((∃ m, Ar σ' b nl g m ∧ 1 ≤ m ∧ ttsF σ b g = nI (n + m) ∧ m < 1000) ∨ (σ' 3 b g 4 = nI 0 ∧ ttsF σ b g = nI n) ∨ (Nv σ' b nl g ∧ ttsF σ b g = -1)) → VL G mX8_arrival P noX 46 [(0, .ref (zad G.1 10 0 0)), (1, .int (nI g)), (2, .int (nI n))] [] μ' := by
    intro k
    induction k with
    | zero =>
      intro n σ' μ' hn hR' hr hM hc
      obtain rfl : n = 60 := by omega
      have es := hr.gs hg (k := 4) (by decide)
      apply wX8_arrival_46
      refine ⟨fun _ => ⟨212 + 10 * g + 4, ej 4, by omega, ?_⟩, fun z => absurd ((nI_leI (by omega) (by omega)).mpr (Nat.le_refl _)) z⟩
      rw [es]
      rcases hc with ⟨m, m1, m2, m3, m4⟩ | ⟨c1, c2⟩ | ⟨c1, c2⟩
      · refine ⟨fun _ => back hM (fun μ9 h9 => ⟨rfl, hP.1 μ9 h9 (Or.inr ?_)⟩), fun z => absurd (e0.mp z) (ar_st m1).1⟩
        rw [m3, nI_leI (by omega) (by omega)]; omega
      · refine ⟨fun z => absurd (e0.mpr c1) z, fun _ => back hM (fun μ9 h9 => ⟨rfl, ?_⟩)⟩
        have := hP.2 μ9 h9 (by rw [c2]; decide) (by rw [c2]; exact Int32.le_refl _)
        rw [c2] at this; exact this
      · exact ⟨fun _ => back hM (fun μ9 h9 => ⟨rfl, hP.1 μ9 h9 (Or.inl c2)⟩), fun z => absurd (e0.mp z) (nv_st c1).1⟩
    | succ k ih =>
      intro n σ' μ' hn hR' hr hM hc
      have es := hr.gs hg (k := 4) (by decide)
      have step : ((∃ m, Ar (tk1 b nl np ng σ') b nl g m ∧ 1 ≤ m ∧ ttsF σ b g = nI (n + 1 + m) ∧ m < 1000) ∨ ((tk1 b nl np ng σ') 3 b g 4 = nI 0 ∧ ttsF σ b g = nI (n + 1)) ∨ (Nv (tk1 b nl np ng σ') b nl g ∧ ttsF σ b g = -1)) → Con G mX8_tick [.ref (zad G.1 10 0 0)] μ' (fun v μ5 => v = none ∧ VL G mX8_arrival P noX 46 [(0, .ref (zad G.1 10 0 0)), (1, .int (nI g)), (2, .int (nI (n + 1)))] [] μ5) noX := fun hc' => by
        refine (s_X8_tick G hW hR' hr (μ' 10 0 0 7) 0 rfl).mono (fun v μ1 hp => ?_) (fun _ _ hp => hp)
        obtain ⟨p1, p2, p3, -⟩ := hp
        exact ⟨p1, ih (n + 1) _ μ1 (by omega) (tk1_ok hW hR') p3 (hM.trans p2) hc'⟩
      apply wX8_arrival_46
      refine ⟨fun z => absurd ((nI_leI (by omega) (by omega)).mp z) (by omega), fun _ => ⟨212 + 10 * g + 4, ej 4, by omega, ?_⟩⟩
      rw [es]
      rcases hc with ⟨m, m1, m2, m3, m4⟩ | ⟨c1, c2⟩ | ⟨c1, c2⟩
      · refine ⟨fun z => absurd (e0.mp z) (ar_st m1).1, fun _ => step ?_⟩
        obtain ⟨m', rfl⟩ : ∃ m', m = m' + 1 := ⟨m - 1, by omega⟩
        rcases ar_tick hR' hg m1 with ⟨rfl, q2⟩ | ⟨q1, q2⟩
        · exact Or.inr (Or.inl ⟨q2, m3⟩)
        · exact Or.inl ⟨m', q2, q1, by rw [m3]; congr 1; omega, by omega⟩
      · refine ⟨fun _ => ⟨212 + 10 * g + 4, ej 4, by omega, ?_⟩, fun z => absurd (e0.mpr c1) z⟩
        rw [es]
        refine ⟨fun z => absurd (e0.mpr c1) z, fun _ => back hM (fun μ9 h9 => ⟨rfl, ?_⟩)⟩
        have nn : ∀ n, n < 1000 → ¬ nI n = -1 := by decide +kernel
        have := hP.2 μ9 h9 (by rw [c2]; exact nn n (by omega)) (by rw [c2]; exact (nI_leI (by omega) (by omega)).mpr (by omega))
        rw [c2] at this; exact this
      · exact ⟨fun z => absurd (e0.mp z) (nv_st c1).1, fun _ => step (Or.inr (Or.inr ⟨nv_tick hR' hg c1, c2⟩))⟩
  refine T 60 0 σ μ (by omega) hR h (Mt.rfl' μ) ?_
  rcases tts_cases hR hg with ⟨c1, c2⟩ | ⟨c1, c2⟩ | ⟨m, m1, m2, m3, m4⟩ | ⟨c1, c2⟩
  · exact Or.inr (Or.inl ⟨c1, c2⟩)
  · exact absurd c1 h4
  · exact Or.inl ⟨m, m3, m1, by rw [m4, Nat.zero_add], m2⟩
  · exact Or.inr (Or.inr ⟨c1, c2⟩)
end MARR
