/-! ===== the steps keep what is sound ===== -/
theorem nI_sub {a b : Nat} (h : b ≤ a) : nI a - nI b = nI (a - b) := by
  have e : nI a = nI (a - b) + nI b := by rw [nI_add]; congr 1; omega
  rw [e, Int32.add_sub_cancel]
theorem nI_subpos {a b : Nat} (ha : a < 2 ^ 31) (hb : b < 2 ^ 31) : 0 < nI a - nI b ↔ b < a := by
  rcases Nat.lt_or_ge a b with h | h
  · refine ⟨fun h1 => ?_, fun h1 => absurd h1 (by omega)⟩
    exfalso
    rw [Int32.lt_iff_toInt_lt, Int32.toInt_sub, nI_toInt ha, nI_toInt hb, Int.bmod_eq_of_le (by omega) (by omega)] at h1
    have : (0 : Int32).toInt = 0 := rfl
    omega
  · rw [nI_sub h, ← nI_0, nI_ltI (by decide) (by omega)]
    omega
theorem gbc_r (μ : St) (b i : Nat) (s w r p : Int32) (k b' g t : Nat) : gbc μ b i s w r p k b' g t = if k = 3 ∧ b' = b ∧ g = i then (if t = 4 then s else if t = 5 then w else if t = 6 then r else if t = 7 then p else μ k b' g t) else μ k b' g t := by
  unfold gbc up
  by_cases h : k = 3 ∧ b' = b ∧ g = i
  · obtain ⟨rfl, rfl, rfl⟩ := h
    simp only [true_and, and_self, if_true]
    by_cases h7 : t = 7
    · subst h7; simp
    · by_cases h6 : t = 6
      · subst h6; simp
      · by_cases h5 : t = 5
        · subst h5; simp
        · by_cases h4 : t = 4
          · subst h4; simp
          · simp [h4, h5, h6, h7]
  · have h' : ∀ t', ¬ (k = 3 ∧ b' = b ∧ g = i ∧ t = t') := fun t' z => h ⟨z.1, z.2.1, z.2.2.1⟩
    simp only [h', h, if_false]
theorem gbc_k {μ : St} {b i : Nat} {s w r p : Int32} {k b' g t : Nat} (h : k ≠ 3) : gbc μ b i s w r p k b' g t = μ k b' g t := by
  rw [gbc_r, if_neg (fun z => h z.1)]
theorem gbc_i {μ : St} {b i : Nat} {s w r p : Int32} {k b' g t : Nat} (h : g ≠ i) : gbc μ b i s w r p k b' g t = μ k b' g t := by
  rw [gbc_r, if_neg (fun z => h z.2.2)]
theorem gbc_b {μ : St} {b i : Nat} {s w r p : Int32} {k b' g t : Nat} (h : b' ≠ b) : gbc μ b i s w r p k b' g t = μ k b' g t := by
  rw [gbc_r, if_neg (fun z => h z.2.1)]
theorem gbc_4 {μ : St} {b i : Nat} {s w r p : Int32} : gbc μ b i s w r p 3 b i 4 = s := by rw [gbc_r]; simp
theorem gbc_5 {μ : St} {b i : Nat} {s w r p : Int32} : gbc μ b i s w r p 3 b i 5 = w := by rw [gbc_r]; simp
theorem gbc_6 {μ : St} {b i : Nat} {s w r p : Int32} : gbc μ b i s w r p 3 b i 6 = r := by rw [gbc_r]; simp
theorem gbc_7 {μ : St} {b i : Nat} {s w r p : Int32} : gbc μ b i s w r p 3 b i 7 = p := by rw [gbc_r]; simp
theorem gbc_o {μ : St} {b i : Nat} {s w r p : Int32} {t : Nat} (h : t < 4 ∨ 7 < t) : gbc μ b i s w r p 3 b i t = μ 3 b i t := by
  rw [gbc_r, if_pos ⟨rfl, rfl, rfl⟩, if_neg (by omega), if_neg (by omega), if_neg (by omega), if_neg (by omega)]
theorem gOk_stand {μ : St} {b nl np g : Nat} {x z : Int32} (h : isN (μ 3 b g 0) 1 3) (hx : isN x 0 7) : gOk (gbc μ b g (nI 0) x (nI 0) z) b nl np g := by
  refine ⟨by rw [gbc_o (by decide)]; exact h, Or.inl ⟨gbc_4, by rw [gbc_5]; exact hx, gbc_6⟩⟩
theorem gOk_rest {μ : St} {b nl np g : Nat} {x : Int32} (h : gOk μ b nl np g) (e : μ 3 b g 4 = nI 2 ∨ μ 3 b g 4 = nI 3) (hx : isN x 1 18) : gOk (up μ 3 b g 6 x) b nl np g := by
  refine ⟨by rw [up_sl (by decide)]; exact h.1, ?_⟩
  rw [up_sl (by decide), up_sl (by decide), up_self]
  rcases e with e | e
  · exact Or.inr (Or.inr (Or.inl ⟨e, (h.rides e).1, hx⟩))
  · exact Or.inr (Or.inr (Or.inr (Or.inl ⟨e, (h.skis e).1, hx⟩)))
theorem Rok.guest1 {μ μ' : St} {b nl np ng W i : Nat} (h : Rok μ b nl np ng W) (e : ∀ k i s, k ≠ 3 → μ' k b i s = μ k b i s) (ei : ∀ g s, g ≠ i → μ' 3 b g s = μ 3 b g s) (hg : i < ng → gOk μ' b nl np i) : Rok μ' b nl np ng W := by
  refine h.guests e (fun g hg' => ?_)
  by_cases hgi : g = i
  · subst hgi; exact hg hg'
  · exact (h.2.2.2.2 g hg').congr (fun s _ => ei g s hgi)
theorem Rok.lift1 {μ μ' : St} {b nl np ng W i : Nat} (h : Rok μ b nl np ng W) (e : ∀ k i s, k ≠ 6 → μ' k b i s = μ k b i s) (ei : ∀ g s, g ≠ i → μ' 6 b g s = μ 6 b g s) (hg : i < nl → lOk μ' b i) : Rok μ' b nl np ng W := by
  refine h.lifts e (fun g hg' => ?_)
  by_cases hgi : g = i
  · subst hgi; exact hg hg'
  · exact (h.2.2.1 g hg').congr (fun s _ => ei g s hgi)
theorem pOk.mono {μ : St} {b W W' p : Nat} (h : pOk μ b W p) (hw : W ≤ W') : pOk μ b W' p := by
  obtain ⟨h1, h2, h3, h4, h5, h6, h7⟩ := h
  exact ⟨h1, h2, h3, h4, h5, h6.mono (Nat.le_refl _) hw, fun e => (h7 e).mono (Nat.le_refl _) (by omega)⟩
theorem Rok.piste1 {μ μ' : St} {b nl np ng W W' i : Nat} (h : Rok μ b nl np ng W) (hw : W ≤ W') (e : ∀ k i s, k ≠ 7 → μ' k b i s = μ k b i s) (ei : ∀ g s, g ≠ i → μ' 7 b g s = μ 7 b g s) (hg : i < np → pOk μ' b W' i) : Rok μ' b nl np ng W' := by
  refine h.pistes e (fun g hg' => ?_)
  by_cases hgi : g = i
  · subst hgi; exact hg hg'
  · exact ((h.2.2.2.1 g hg').mono hw).congr (fun s _ => ei g s hgi)
theorem Rok.mono {μ : St} {b nl np ng W W' : Nat} (h : Rok μ b nl np ng W) (hw : W ≤ W') : Rok μ b nl np ng W' := h.piste1 (i := 99) hw (fun _ _ _ _ => rfl) (fun _ _ _ => rfl) (fun hi => (h.2.2.2.1 99 hi).mono hw)
theorem spo_n (μ : St) (b i : Nat) : ∃ z : Nat, z ≤ 2 ∧ spo μ b i = nI z := by
  rcases spf_isN (μ 2 b 0 6 + μ 6 b i 6) with h | h | h
  · exact ⟨0, by omega, h⟩
  · exact ⟨1, by omega, h⟩
  · exact ⟨2, by omega, h⟩
theorem mrS_ok {b nl np ng W i : Nat} {x : St × Int32} (hi : i < ng) (h : Rok x.1 b nl np ng W) : Rok (mrS b x i).1 b nl np ng W := by
  unfold mrS
  by_cases hs : x.1 3 b i 4 = nI 2
  · rw [if_pos hs]
    obtain ⟨⟨l, hl, hw⟩, ⟨r, r1, r2, hr⟩⟩ := (h.2.2.2.2 i hi).rides hs
    obtain ⟨z, hz, hz2⟩ := spo_n x.1 b (tN (x.1 3 b i 5))
    rw [hz2, hr]
    have hnl := h.1.1.2
    by_cases h0 : 0 < nI r - nI z
    · rw [if_pos h0]
      have h1 := (nI_subpos (by omega) (by omega)).mp h0
      exact h.guest1 (i := i) (fun k i s hk => up_k hk) (fun g s hg => up_i hg) (fun _ => gOk_rest (h.2.2.2.2 i hi) (Or.inl hs) ⟨r - z, by omega, by omega, nI_sub (by omega)⟩)
    · rw [if_neg h0, hw, tN_nI (by omega)]
      exact h.guest1 (i := i) (fun k i s hk => by show gbc _ _ _ _ _ _ _ _ _ _ _ = _; rw [gbc_k hk, up_k hk]) (fun g s hg => by show gbc _ _ _ _ _ _ _ _ _ _ _ = _; rw [gbc_i hg, up_i hg]) (fun _ => gOk_stand (by rw [up_sl (by decide)]; exact (h.2.2.2.2 i hi).1) (h.2.2.1 l hl).2.1)
  · rw [if_neg hs]; exact h
theorem msS_ok {b nl np ng W i : Nat} {x : St × Int32} (hi : i < ng) (h : Rok x.1 b nl np ng W) : Rok (msS b x i).1 b nl np ng W := by
  unfold msS
  by_cases hs : x.1 3 b i 4 = nI 3
  · rw [if_pos hs]
    obtain ⟨⟨l, hl, hw⟩, ⟨r, r1, r2, hr⟩⟩ := (h.2.2.2.2 i hi).skis hs
    have hnl := h.1.2.1.2
    rw [hr]
    by_cases h0 : 0 < nI r - nI 1
    · rw [if_pos h0]
      have h1 := (nI_subpos (by omega) (by omega)).mp h0
      exact h.guest1 (i := i) (fun k i s hk => up_k hk) (fun g s hg => up_i hg) (fun _ => gOk_rest (h.2.2.2.2 i hi) (Or.inr hs) ⟨r - 1, by omega, by omega, nI_sub (by omega)⟩)
    · rw [if_neg h0, hw, tN_nI (by omega)]
      exact h.guest1 (i := i) (fun k i s hk => by show gbc _ _ _ _ _ _ _ _ _ _ _ = _; rw [gbc_k hk, up_k hk]) (fun g s hg => by show gbc _ _ _ _ _ _ _ _ _ _ _ = _; rw [gbc_i hg, up_i hg]) (fun _ => gOk_stand (by rw [up_sl (by decide)]; exact (h.2.2.2.2 i hi).1) (h.2.2.2.1 l hl).2.1)
  · rw [if_neg hs]; exact h
theorem gis_y {μ : St} {b i : Nat} {x y : Int32} (h : gis μ b i x y = true) : μ 3 b i 4 = x ∧ μ 3 b i 5 = y := by
  unfold gis at h
  simpa using h
theorem bcS_ok {b nl np ng W i l : Nat} {μ : St} (hi : i < ng) (hl : l < nl) (h : Rok μ b nl np ng W) : Rok (bcS b l μ i) b nl np ng W := by
  unfold bcS
  by_cases hs : gis μ b i (nI 1) (nI l) = true
  · rw [if_pos hs]
    obtain ⟨h4, h5⟩ := gis_y hs
    obtain ⟨-, h6, ⟨k, k1, k2, hk⟩⟩ := (h.2.2.2.2 i hi).waits h4
    obtain ⟨-, -, -, ⟨c, c1, c2, hc⟩, ⟨r, r1, r2, hr⟩, -⟩ := h.2.2.1 l hl
    rw [hk, hc]
    by_cases h0 : nI c ≤ nI k
    · rw [if_pos h0]
      have h1 := (nI_leI (by omega) (by omega)).mp h0
      refine h.guest1 (i := i) (fun k i s hk => up_k hk) (fun g s hg => up_i hg) (fun _ => ⟨by rw [up_sl (by decide)]; exact (h.2.2.2.2 i hi).1, Or.inr (Or.inl ⟨?_, ⟨l, hl, ?_⟩, ?_, ?_⟩)⟩)
      · rw [up_sl (by decide)]; exact h4
      · rw [up_sl (by decide)]; exact h5
      · rw [up_sl (by decide)]; exact h6
      · rw [up_self]; exact ⟨k - c, by omega, by omega, nI_sub h1⟩
    · rw [if_neg h0]
      refine Rok.lift1 (i := l) (Rok.guest1 (i := i) (μ' := up (gbc μ b i (nI 2) (nI l) (nI 2 * μ 6 b l 5) (nI 0)) 3 b i 8 (gbc μ b i (nI 2) (nI l) (nI 2 * μ 6 b l 5) (nI 0) 3 b i 8 + nI 1)) h (fun k i s hk => by rw [up_k hk, gbc_k hk]) (fun g s hg => by rw [up_i hg, gbc_i hg]) (fun _ => ⟨?_, ?_⟩)) (fun k i s hk => up_k hk) (fun g s hg => up_i hg) (fun _ => ?_)
      · rw [up_sl (by decide), gbc_o (by decide)]; exact (h.2.2.2.2 i hi).1
      · refine Or.inr (Or.inr (Or.inl ⟨?_, ⟨l, hl, ?_⟩, ?_⟩))
        · rw [up_sl (by decide), gbc_4]
        · rw [up_sl (by decide), gbc_5]
        · rw [up_sl (by decide), gbc_6, hr, pk_mul]
          exact ⟨2 * r, by omega, by omega, rfl⟩
      · have hq := h.2.2.1 l hl
        unfold lOk at hq ⊢
        simp only [up_sl (show (0 : Nat) ≠ 8 by decide), up_sl (show (1 : Nat) ≠ 8 by decide), up_sl (show (2 : Nat) ≠ 8 by decide), up_sl (show (3 : Nat) ≠ 8 by decide), up_sl (show (4 : Nat) ≠ 8 by decide), up_sl (show (5 : Nat) ≠ 8 by decide), up_sl (show (6 : Nat) ≠ 8 by decide), up_sl (show (7 : Nat) ≠ 8 by decide), up_k (show (6 : Nat) ≠ 3 by decide), gbc_k (show (6 : Nat) ≠ 3 by decide)]
        exact hq
  · rw [if_neg hs]; exact h
theorem bcF_ok {b nl np ng W l : Nat} {μ : St} (hl : l < nl) (h : Rok μ b nl np ng W) : Rok (bcF b l ng μ) b nl np ng W := rn_inv0 (I := fun μ => Rok μ b nl np ng W) (fun _ _ hi hx => bcS_ok hi hl hx) μ h
theorem tlS_ok {b nl np ng W i : Nat} {μ : St} (hi : i < nl) (h : Rok μ b nl np ng W) : Rok (tlS b ng μ i) b nl np ng W := by
  unfold tlS
  obtain ⟨q1, q2, q3, q4, q5, q6, ⟨v, c, v1, v2, v3, hv, hc⟩⟩ := h.2.2.1 i hi
  obtain ⟨z, hz, hz2⟩ := spo_n μ b i
  have e1 : stc (up μ 6 b i 7 (μ 6 b i 7 + spo μ b i)) b i (nI 1) = nI (2 * v) - nI (c + z) := by
    unfold stc
    rw [up_self, up_sl (by decide), hv, hc, hz2, nI_add, pk_mul, pk_mul, Nat.mul_one]
  rw [e1]
  by_cases h0 : 0 < nI (2 * v) - nI (c + z)
  · rw [if_pos h0]
    have h1 := (nI_subpos (by omega) (by omega)).mp h0
    refine h.lift1 (i := i) (fun k i s hk => up_k hk) (fun g s hg => up_i hg) (fun _ => ⟨?_, ?_, ?_, ?_, ?_, ?_, v, c + z, v1, v2, h1, ?_, ?_⟩)
    all_goals first | rw [up_self, hc, hz2, nI_add] | (rw [up_sl (by decide)]; assumption)
  · rw [if_neg h0]
    have h1 : ¬ c + z < 2 * v := fun h => h0 ((nI_subpos (by omega) (by omega)).mpr h)
    refine bcF_ok hi (h.lift1 (i := i) (fun k i s hk => by rw [up_k hk, up_k hk, up_k hk]) (fun g s hg => by rw [up_i hg, up_i hg, up_i hg]) (fun _ => ⟨?_, ?_, ?_, ?_, ?_, ?_, v, c + z - 2 * v, v1, v2, by omega, ?_, ?_⟩))
    all_goals first | rw [up_sl (by decide), up_self, hc, hz2, hv, nI_add, pk_mul, nI_sub (by omega)] | (rw [up_sl (by decide), up_sl (by decide), up_sl (by decide)]; assumption)
theorem gpS_ok {b nl np ng W i : Nat} {μ : St} (hi : i < np) (hW : W < 2 ^ 30) (h : Rok μ b nl np ng W) : Rok (gpS b μ i) b nl np ng W := by
  unfold gpS
  obtain ⟨q1, q2, q3, q4, q5, q6, q7⟩ := h.2.2.2.1 i hi
  by_cases hs : μ 7 b i 4 = nI 2
  · rw [if_pos hs]
    obtain ⟨r, r1, r2, hr⟩ := q7 hs
    rw [hr]
    by_cases h0 : 0 < nI r - nI 1
    · rw [if_pos h0]
      have h1 := (nI_subpos (by omega) (by omega)).mp h0
      refine h.piste1 (i := i) (Nat.le_refl _) (fun k i s hk => up_k hk) (fun g s hg => up_i hg) (fun _ => ⟨?_, ?_, ?_, ?_, ?_, ?_, fun _ => ?_⟩)
      all_goals first | (rw [up_self]; exact ⟨r - 1, by omega, by omega, nI_sub (by omega)⟩) | (rw [up_sl (by decide)]; assumption)
    · rw [if_neg h0]
      unfold pfr
      refine h.piste1 (i := i) (Nat.le_refl _) (fun k i s hk => by rw [up_k hk, up_k hk, up_k hk, up_k hk]) (fun g s hg => by rw [up_i hg, up_i hg, up_i hg, up_i hg]) (fun _ => ⟨?_, ?_, ?_, ?_, ?_, ?_, fun hx => ?_⟩)
      · rw [up_sl (by decide), up_sl (by decide), up_sl (by decide), up_sl (by decide)]; exact q1
      · rw [up_sl (by decide), up_sl (by decide), up_sl (by decide), up_sl (by decide)]; exact q2
      · rw [up_sl (by decide), up_sl (by decide), up_sl (by decide), up_sl (by decide)]; exact q3
      · rw [up_sl (by decide), up_sl (by decide), up_sl (by decide), up_sl (by decide)]; exact q4
      · rw [up_sl (by decide), up_sl (by decide), up_self]; exact ⟨0, by omega, by omega, rfl⟩
      · rw [up_sl (by decide), up_self]; exact ⟨0, by omega, by omega, rfl⟩
      · rw [up_sl (by decide), up_sl (by decide), up_self] at hx
        exact absurd hx (nI_ne (by decide))
  · rw [if_neg hs]; exact h
theorem cpS_ok {b nl np ng W i : Nat} {μ : St} (hi : i < np) (h : Rok μ b nl np ng W) : Rok (cpS b μ i) b nl np ng W := by
  unfold cpS
  obtain ⟨q1, q2, q3, q4, q5, q6, q7⟩ := h.2.2.2.1 i hi
  by_cases hs : μ 7 b i 4 = 0
  · rw [if_pos hs]
    by_cases h0 : μ 7 b i 5 < nI 20
    · rw [if_pos h0]; exact h
    · rw [if_neg h0]
      refine h.piste1 (i := i) (Nat.le_refl _) (fun k i s hk => up_k hk) (fun g s hg => up_i hg) (fun _ => ⟨?_, ?_, ?_, ?_, ?_, ?_, fun hx => ?_⟩)
      · rw [up_sl (by decide)]; exact q1
      · rw [up_sl (by decide)]; exact q2
      · rw [up_sl (by decide)]; exact q3
      · rw [up_sl (by decide)]; exact q4
      · rw [up_self]; exact ⟨1, by omega, by omega, rfl⟩
      · rw [up_sl (by decide)]; exact q6
      · rw [up_self] at hx
        exact absurd hx (nI_ne (by decide))
  · rw [if_neg hs]; exact h
theorem mrF_ok {b nl np ng W : Nat} {μ : St} (h : Rok μ b nl np ng W) : Rok (mrF b ng μ).1 b nl np ng W := rn_inv0 (I := fun x => Rok x.1 b nl np ng W) (fun _ _ hi hx => mrS_ok hi hx) (μ, nI 0) h
theorem msFn_ok {b nl np ng W : Nat} {μ : St} (h : Rok μ b nl np ng W) : Rok (msFn b ng μ).1 b nl np ng W := rn_inv0 (I := fun x => Rok x.1 b nl np ng W) (fun _ _ hi hx => msS_ok hi hx) (μ, nI 0) h
theorem tlF_ok {b nl np ng W : Nat} {μ : St} (h : Rok μ b nl np ng W) : Rok (tlF b nl ng μ) b nl np ng W := rn_inv0 (I := fun μ => Rok μ b nl np ng W) (fun _ _ hi hx => tlS_ok hi hx) μ h
theorem gpF_ok {b nl np ng W : Nat} {μ : St} (hW : W < 2 ^ 30) (h : Rok μ b nl np ng W) : Rok (gpF b np μ) b nl np ng W := rn_inv0 (I := fun μ => Rok μ b nl np ng W) (fun _ _ hi hx => gpS_ok hi hW hx) μ h
theorem cpF_ok {b nl np ng W : Nat} {μ : St} (h : Rok μ b nl np ng W) : Rok (cpF b np μ) b nl np ng W := rn_inv0 (I := fun μ => Rok μ b nl np ng W) (fun _ _ hi hx => cpS_ok hi hx) μ h
theorem Rok.tick {μ : St} {b nl np ng W : Nat} {x : Int32} (h : Rok μ b nl np ng W) : Rok (up μ 2 b 0 7 x) b nl np ng W := by
  obtain ⟨h1, h2, h3, h4, h5⟩ := h
  refine ⟨?_, ?_, fun l hl => (h3 l hl).congr (fun s _ => up_k (by decide)), fun l hl => (h4 l hl).congr (fun s _ => up_k (by decide)), fun l hl => (h5 l hl).congr (fun s _ => up_k (by decide))⟩
  · unfold Cnt at h1 ⊢
    rw [up_sl (by decide), up_sl (by decide), up_sl (by decide)]
    exact h1
  · rw [up_sl (by decide), up_sl (by decide)]
    exact h2
theorem tkS_ok {b nl np ng W i : Nat} {x : St × Int32} (hW : W < 2 ^ 30) (h : Rok x.1 b nl np ng W) : Rok (tkS b nl np ng x i).1 b nl np ng W := (cpF_ok (gpF_ok hW (tlF_ok (msFn_ok (mrF_ok h))))).tick
theorem tkF_ok {b nl np ng W n : Nat} {μ : St} (hW : W < 2 ^ 30) (h : Rok μ b nl np ng W) : Rok (tkF b nl np ng n μ).1 b nl np ng W := rn_inv0 (I := fun x => Rok x.1 b nl np ng W) (fun _ _ _ hx => tkS_ok hW hx) (μ, nI 0) h
