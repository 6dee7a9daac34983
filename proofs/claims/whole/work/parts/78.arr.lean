/-! ===== arrivals ===== -/
section ARR
variable {σ : St} {b nl np ng W : Nat}
def cz (x z : Nat) : Nat := if z = 2 then (x + 1) / 2 else x
/-- what a tick leaves of a lift -/
theorem tk1_lift (hR : Rok σ b nl np ng W) {g : Nat} (hg : g < ng) {l : Nat} (hl : l < nl) : (∀ s, s < 7 → tk1 b nl np ng σ 6 b l s = σ 6 b l s) ∧ spo (tk1 b nl np ng σ) b l = spo σ b l ∧ ∀ (v k z : Nat), σ 6 b l 3 = nI v → σ 6 b l 7 = nI k → spo σ b l = nI z → v ≤ 6 → k < 2 * v → z ≤ 2 → tk1 b nl np ng σ 6 b l 7 = if k + z < 2 * v then nI (k + z) else nI (k + z - 2 * v) := by
  have hn := hR.1.1.2
  obtain ⟨a1, a2⟩ := mrF_cf σ b ng
  obtain ⟨b1, b2⟩ := msFn_cf (mrF b ng σ).1 b ng
  have e : ∀ k b' i s, k ≠ 3 → (msFn b ng (mrF b ng σ).1).1 k b' i s = σ k b' i s := fun k b' i s hk => by rw [b1 k b' i s (by omega), a1 k b' i s (by omega)]
  obtain ⟨c1, c2, c3, -, -⟩ := tlF_cf (msFn b ng (mrF b ng σ).1).1 b nl ng g hn hg
  have s7 : ∀ s, s < 7 → tk1 b nl np ng σ 6 b l s = σ 6 b l s := fun s hs => by rw [tk1_k _ (by decide) (by omega), c2 l s (by omega), e 6 b l s (by decide)]
  have w6 : tk1 b nl np ng σ 2 b 0 6 = σ 2 b 0 6 := by rw [tk1_k _ (by decide) (by omega), c1 2 b 0 6 (by decide) (by decide), e 2 b 0 6 (by decide)]
  refine ⟨s7, by unfold spo; rw [s7 6 (by decide), w6], fun v k z hv hk hz v6 k2 z2 => ?_⟩
  have es : spo (msFn b ng (mrF b ng σ).1).1 b l = spo σ b l := by unfold spo; rw [e 2 b 0 6 (by decide), e 6 b l 6 (by decide)]
  rw [tk1_k _ (by decide) (by omega), c3 l hl]
  unfold stc
  rw [up_self, up_sl (by decide), es, e 6 b l 7 (by decide), e 6 b l 3 (by decide), hv, hk, hz, nI_add, pk_mul, pk_mul, Nat.mul_one]
  by_cases c : k + z < 2 * v
  · rw [if_pos c, if_pos ((nI_subpos (by omega) (by omega)).mpr c)]
  · rw [if_neg c, if_neg (fun h => c ((nI_subpos (by omega) (by omega)).mp h)), nI_sub (by omega)]
/-- a guest comes to a station after so many ticks -/
def Ar (σ : St) (b nl g T : Nat) : Prop := (σ 3 b g 4 = nI 3 ∧ σ 3 b g 6 = nI T ∧ 1 ≤ T ∧ T ≤ 18) ∨ (∃ l z r, l < nl ∧ σ 3 b g 4 = nI 2 ∧ σ 3 b g 5 = nI l ∧ spo σ b l = nI z ∧ 1 ≤ z ∧ z ≤ 2 ∧ σ 3 b g 6 = nI r ∧ 1 ≤ r ∧ r ≤ 18 ∧ T = cz r z) ∨ (∃ l z p c v k R, l < nl ∧ σ 3 b g 4 = nI 1 ∧ σ 3 b g 5 = nI l ∧ spo σ b l = nI z ∧ 1 ≤ z ∧ z ≤ 2 ∧ σ 3 b g 7 = nI p ∧ p ≤ 9 ∧ σ 6 b l 4 = nI c ∧ 1 ≤ c ∧ c ≤ 8 ∧ σ 6 b l 3 = nI v ∧ 1 ≤ v ∧ v ≤ 6 ∧ σ 6 b l 7 = nI k ∧ k < 2 * v ∧ σ 6 b l 5 = nI R ∧ 1 ≤ R ∧ R ≤ 9 ∧ T = cz (2 * (v * (p / c)) + 2 * v - k) z + cz (2 * R) z)
/-- a guest whose lift is held -/
def Nv (σ : St) (b nl g : Nat) : Prop := (σ 3 b g 4 = nI 1 ∨ σ 3 b g 4 = nI 2) ∧ ∃ l, l < nl ∧ σ 3 b g 5 = nI l ∧ spo σ b l = nI 0
theorem tk1_g (hR : Rok σ b nl np ng W) {g : Nat} (hg : g < ng) : (σ 3 b g 4 = nI 2 → ∀ s, tk1 b nl np ng σ 3 b g s = mrG σ b g s) ∧ (σ 3 b g 4 = nI 3 → ∀ s, tk1 b nl np ng σ 3 b g s = msG σ b g s) ∧ (σ 3 b g 4 = nI 1 → ∀ l, l < nl → σ 3 b g 5 = nI l → ∀ s, tk1 b nl np ng σ 3 b g s = tlG σ b l g s) := by
  have hn := hR.1.1.2
  obtain ⟨a1, a2⟩ := mrF_cf σ b ng
  obtain ⟨b1, b2⟩ := msFn_cf (mrF b ng σ).1 b ng
  obtain ⟨-, -, -, c4, c5⟩ := tlF_cf (msFn b ng (mrF b ng σ).1).1 b nl ng g hn hg
  have e : ∀ k b' i s, k ≠ 3 → (msFn b ng (mrF b ng σ).1).1 k b' i s = σ k b' i s := fun k b' i s hk => by rw [b1 k b' i s (by omega), a1 k b' i s (by omega)]
  refine ⟨fun h4 s => ?_, fun h4 s => ?_, fun h4 l hl h5 s => ?_⟩
  · have f4 : (mrF b ng σ).1 3 b g 4 = nI 2 ∨ (mrF b ng σ).1 3 b g 4 = nI 0 := by
      rw [a2 g hg 4]
      unfold mrG
      rw [if_pos h4]
      split
      · rw [if_neg (by decide)]; exact Or.inl h4
      · exact Or.inr rfl
    have f3 : ¬ (mrF b ng σ).1 3 b g 4 = nI 3 := by
      rcases f4 with f | f <;> rw [f] <;> exact nI_ne (by decide)
    have f5 : ∀ s, (msFn b ng (mrF b ng σ).1).1 3 b g s = mrG σ b g s := fun s => by
      rw [b2 g hg s]
      unfold msG
      rw [if_neg f3, a2 g hg s]
    have f1 : ¬ (msFn b ng (mrF b ng σ).1).1 3 b g 4 = nI 1 := by
      rw [f5 4, ← a2 g hg 4]
      rcases f4 with f | f <;> rw [f] <;> exact nI_ne (by decide)
    rw [tk1_k _ (by decide) (by omega), c4 f1 s, f5 s]
  · have f0 : ∀ s, (mrF b ng σ).1 3 b g s = σ 3 b g s := fun s => by
      rw [a2 g hg s]
      unfold mrG
      rw [if_neg (by rw [h4]; exact nI_ne (by decide))]
    have f5 : ∀ s, (msFn b ng (mrF b ng σ).1).1 3 b g s = msG σ b g s := fun s => by
      rw [b2 g hg s]
      unfold msG
      rw [f0, f0, f0, f0, a1 7 b _ 1 (by omega)]
    have f1 : ¬ (msFn b ng (mrF b ng σ).1).1 3 b g 4 = nI 1 := by
      rw [f5 4]
      unfold msG
      rw [if_pos h4]
      split
      · rw [if_neg (by decide), h4]; exact nI_ne (by decide)
      · rw [if_pos rfl]; exact nI_ne (by decide)
    rw [tk1_k _ (by decide) (by omega), c4 f1 s, f5 s]
  · have f0 : ∀ s, (mrF b ng σ).1 3 b g s = σ 3 b g s := fun s => by
      rw [a2 g hg s]
      unfold mrG
      rw [if_neg (by rw [h4]; exact nI_ne (by decide))]
    have f5 : ∀ s, (msFn b ng (mrF b ng σ).1).1 3 b g s = σ 3 b g s := fun s => by
      rw [b2 g hg s]
      unfold msG
      rw [f0, if_neg (by rw [h4]; exact nI_ne (by decide)), f0]
    have es : spo (msFn b ng (mrF b ng σ).1).1 b l = spo σ b l := by unfold spo; rw [e 2 b 0 6 (by decide), e 6 b l 6 (by decide)]
    rw [tk1_k _ (by decide) (by omega), c5 l hl (by rw [f5]; exact h4) (by rw [f5]; exact h5) s]
    unfold tlG stc bg gis
    rw [up_self, up_self, up_sl (by decide), up_sl (by decide), es, e 6 b l 7 (by decide), e 6 b l 3 (by decide), e 6 b l 4 (by decide), e 6 b l 5 (by decide), f5, f5, f5, f5, f5]
theorem ar_tick (hR : Rok σ b nl np ng W) {g T : Nat} (hg : g < ng) (h : Ar σ b nl g (T + 1)) : (T = 0 ∧ tk1 b nl np ng σ 3 b g 4 = nI 0) ∨ (1 ≤ T ∧ Ar (tk1 b nl np ng σ) b nl g T) := by
  have hn := hR.1.1.2
  obtain ⟨t2, t3, t1⟩ := tk1_g hR hg
  rcases h with ⟨h4, h6, r1, r2⟩ | ⟨l, z, r, hl, h4, h5, hz, z1, z2, h6, r1, r2, hT⟩ | ⟨l, z, p, c, v, k, R, hl, h4, h5, hz, z1, z2, h7, p9, hc, c1, c2, hv, v1, v2, hk, k1, hRd, R1, R2, hT⟩
  · have t := t3 h4
    unfold msG at t
    simp only [if_pos h4, h6] at t
    by_cases c : T = 0
    · subst c
      exact Or.inl ⟨rfl, by rw [t 4, if_neg (fun z => absurd ((nI_subpos (a := 0 + 1) (b := 1) (by omega) (by omega)).mp z) (by omega)), if_pos rfl]⟩
    · have hp : 0 < nI (T + 1) - nI 1 := (nI_subpos (by omega) (by omega)).mpr (by omega)
      refine Or.inr ⟨by omega, Or.inl ⟨?_, ?_, by omega, by omega⟩⟩
      · rw [t 4, if_pos hp, if_neg (by decide), h4]
      · rw [t 6, if_pos hp, if_pos rfl, nI_sub (by omega), Nat.add_sub_cancel]
  · have t := t2 h4
    obtain ⟨-, e2, -⟩ := tk1_lift hR hg hl
    unfold mrG at t
    simp only [if_pos h4, h6, h5, tN_nI (show l < 2 ^ 31 by omega), hz] at t
    unfold cz at hT
    by_cases c : z < r
    · have hp : 0 < nI r - nI z := (nI_subpos (by omega) (by omega)).mpr c
      have hz2 : z = 1 ∨ z = 2 := by omega
      refine Or.inr ⟨?_, Or.inr (Or.inl ⟨l, z, r - z, hl, ?_, ?_, by rw [e2, hz], z1, z2, ?_, by omega, by omega, ?_⟩)⟩
      · rcases hz2 with rfl | rfl
        · rw [if_neg (by decide)] at hT; omega
        · rw [if_pos rfl] at hT; omega
      · rw [t 4, if_pos hp, if_neg (by decide), h4]
      · rw [t 5, if_pos hp, if_neg (by decide), h5]
      · rw [t 6, if_pos hp, if_pos rfl, nI_sub (by omega)]
      · unfold cz
        rcases hz2 with rfl | rfl
        · rw [if_neg (by decide)] at hT ⊢; omega
        · rw [if_pos rfl] at hT ⊢; omega
    · have hp : ¬ 0 < nI r - nI z := fun w => c ((nI_subpos (by omega) (by omega)).mp w)
      refine Or.inl ⟨?_, by rw [t 4, if_neg hp, if_pos rfl]⟩
      have hz2 : z = 1 ∨ z = 2 := by omega
      rcases hz2 with rfl | rfl
      · rw [if_neg (by decide)] at hT; omega
      · rw [if_pos rfl] at hT; omega
  · have t := t1 h4 l hl h5
    obtain ⟨e1, e2, e3⟩ := tk1_lift hR hg hl
    have e7 := e3 v k z hv hk hz v2 k1 z2
    unfold tlG stc bg at t
    simp only [show gis σ b g (nI 1) (nI l) = true by unfold gis; rw [h4, h5]; simp, if_pos, up_self, up_sl (show (3 : Nat) ≠ 7 by decide), hv, hk, hz, nI_add, pk_mul, Nat.mul_one, hc, h7, hRd] at t
    have hz2 : z = 1 ∨ z = 2 := by omega
    have hpc : nI c ≤ nI p ↔ c ≤ p := nI_leI (by omega) (by omega)
    by_cases cd : k + z < 2 * v
    · -- no cabin departs
      have hp : 0 < nI (2 * v) - nI (k + z) := (nI_subpos (by omega) (by omega)).mpr cd
      rw [if_pos cd] at e7
      refine Or.inr ⟨?_, Or.inr (Or.inr ⟨l, z, p, c, v, k + z, R, hl, by rw [t 4, if_pos hp, h4], by rw [t 5, if_pos hp, h5], by rw [e2, hz], z1, z2, by rw [t 7, if_pos hp, h7], p9, by rw [e1 4 (by decide), hc], c1, c2, by rw [e1 3 (by decide), hv], v1, v2, e7, by omega, by rw [e1 5 (by decide), hRd], R1, R2, ?_⟩)⟩
      · unfold cz at hT
        rcases hz2 with rfl | rfl
        · rw [if_neg (by decide), if_neg (by decide)] at hT; omega
        · rw [if_pos rfl, if_pos rfl] at hT; omega
      · unfold cz at hT ⊢
        generalize v * (p / c) = q at hT ⊢
        rcases hz2 with rfl | rfl
        · rw [if_neg (by decide), if_neg (by decide)] at hT ⊢; omega
        · rw [if_pos rfl, if_pos rfl] at hT ⊢; omega
    · -- a cabin departs
      have hp : ¬ 0 < nI (2 * v) - nI (k + z) := fun w => cd ((nI_subpos (by omega) (by omega)).mp w)
      rw [if_neg cd] at e7
      by_cases cp : c ≤ p
      · -- without the guest
        have hq : v * (p / c) = v * ((p - c) / c) + v := by
          have : p / c = (p - c) / c + 1 := by
            rw [Nat.div_eq p c, if_pos ⟨by omega, cp⟩]
          rw [this, Nat.mul_add, Nat.mul_one]
        refine Or.inr ⟨?_, Or.inr (Or.inr ⟨l, z, p - c, c, v, k + z - 2 * v, R, hl, by rw [t 4, if_neg hp, if_pos (hpc.mpr cp), if_neg (by decide), h4], by rw [t 5, if_neg hp, if_pos (hpc.mpr cp), if_neg (by decide), h5], by rw [e2, hz], z1, z2, by rw [t 7, if_neg hp, if_pos (hpc.mpr cp), if_pos rfl, nI_sub cp], by omega, by rw [e1 4 (by decide), hc], c1, c2, by rw [e1 3 (by decide), hv], v1, v2, e7, by omega, by rw [e1 5 (by decide), hRd], R1, R2, ?_⟩)⟩
        · unfold cz at hT
          rcases hz2 with rfl | rfl
          · rw [if_neg (by decide), if_neg (by decide)] at hT; omega
          · rw [if_pos rfl, if_pos rfl] at hT; omega
        · unfold cz at hT ⊢
          rw [hq] at hT
          generalize v * ((p - c) / c) = q at hT ⊢
          rcases hz2 with rfl | rfl
          · rw [if_neg (by decide), if_neg (by decide)] at hT ⊢; omega
          · rw [if_pos rfl, if_pos rfl] at hT ⊢; omega
      · -- with the guest
        have hq : v * (p / c) = 0 := by rw [Nat.div_eq_of_lt (by omega), Nat.mul_zero]
        have hn : ¬ nI c ≤ nI p := fun w => cp (hpc.mp w)
        refine Or.inr ⟨?_, Or.inr (Or.inl ⟨l, z, 2 * R, hl, by rw [t 4, if_neg hp, if_neg hn, if_pos rfl], by rw [t 5, if_neg hp, if_neg hn, if_neg (by decide), if_pos rfl], by rw [e2, hz], z1, z2, by rw [t 6, if_neg hp, if_neg hn, if_neg (by decide), if_neg (by decide), if_pos rfl], by omega, by omega, ?_⟩)⟩
        · unfold cz at hT
          rw [hq] at hT
          rcases hz2 with rfl | rfl
          · rw [if_neg (by decide), if_neg (by decide)] at hT; omega
          · rw [if_pos rfl, if_pos rfl] at hT; omega
        · unfold cz at hT ⊢
          rw [hq] at hT
          rcases hz2 with rfl | rfl
          · rw [if_neg (by decide), if_neg (by decide)] at hT; rw [if_neg (by decide)]; omega
          · rw [if_pos rfl, if_pos rfl] at hT; rw [if_pos rfl]; omega
theorem nv_tick (hR : Rok σ b nl np ng W) {g : Nat} (hg : g < ng) (h : Nv σ b nl g) : Nv (tk1 b nl np ng σ) b nl g := by
  have hn := hR.1.1.2
  obtain ⟨t2, t3, t1⟩ := tk1_g hR hg
  obtain ⟨h4, l, hl, h5, hz⟩ := h
  obtain ⟨e1, e2, e3⟩ := tk1_lift hR hg hl
  rcases h4 with h4 | h4
  · have t := t1 h4 l hl h5
    obtain ⟨-, -, -, -, -, -, v, k, v1, v2, v3, hv, hk⟩ := hR.2.2.1 l hl
    unfold tlG stc at t
    simp only [up_self, up_sl (show (3 : Nat) ≠ 7 by decide), hv, hk, hz, nI_add, pk_mul, Nat.mul_one, Nat.add_zero] at t
    have hp : 0 < nI (2 * v) - nI k := (nI_subpos (by omega) (by omega)).mpr (by omega)
    exact ⟨Or.inl (by rw [t 4, if_pos hp, h4]), l, hl, by rw [t 5, if_pos hp, h5], by rw [e2, hz]⟩
  · have t := t2 h4
    obtain ⟨-, r, r1, r2, hr⟩ := (hR.2.2.2.2 g hg).rides h4
    unfold mrG at t
    simp only [if_pos h4, hr, h5, tN_nI (show l < 2 ^ 31 by omega), hz] at t
    have hp : 0 < nI r - nI 0 := (nI_subpos (by omega) (by omega)).mpr (by omega)
    exact ⟨Or.inr (by rw [t 4, if_pos hp, if_neg (by decide), h4]), l, hl, by rw [t 5, if_pos hp, if_neg (by decide), h5], by rw [e2, hz]⟩
theorem ar_st {g T : Nat} (h : Ar σ b nl g T) : ¬ σ 3 b g 4 = nI 0 ∧ ¬ σ 3 b g 4 = nI 4 := by
  rcases h with ⟨h4, -⟩ | ⟨l, z, r, hl, h4, -⟩ | ⟨l, z, p, c, v, k, R, hl, h4, -⟩
  all_goals exact ⟨by rw [h4]; exact nI_ne (by decide), by rw [h4]; exact nI_ne (by decide)⟩
theorem nv_st {g : Nat} (h : Nv σ b nl g) : ¬ σ 3 b g 4 = nI 0 ∧ ¬ σ 3 b g 4 = nI 4 := by
  rcases h.1 with h4 | h4
  all_goals exact ⟨by rw [h4]; exact nI_ne (by decide), by rw [h4]; exact nI_ne (by decide)⟩
theorem tkf_n {x z : Nat} (hx : x < 2 ^ 30) (hz : z ≤ 2) : tkf (nI x) (nI z) = nI (cz x z) := by
  unfold tkf cz
  by_cases c : z = 2
  · subst c
    rw [if_pos rfl, if_pos rfl, nI_add, nI_div (by omega) (by decide) (by decide)]
  · rw [if_neg c, if_neg (fun h => c (nI_inj (by omega) (by decide) h))]
/-- the class's answer -/
theorem tts_cases (hR : Rok σ b nl np ng W) {g : Nat} (hg : g < ng) : (σ 3 b g 4 = nI 0 ∧ ttsF σ b g = nI 0) ∨ (σ 3 b g 4 = nI 4 ∧ ttsF σ b g = -1) ∨ (∃ T, 1 ≤ T ∧ T < 1000 ∧ Ar σ b nl g T ∧ ttsF σ b g = nI T) ∨ (Nv σ b nl g ∧ ttsF σ b g = -1) := by
  have hn := hR.1.1.2
  have hgk := hR.2.2.2.2 g hg
  rcases hgk.2 with h | h | h | h | h
  · exact Or.inl ⟨h.1, by unfold ttsF; rw [if_pos h.1]⟩
  · obtain ⟨h4, ⟨l, hl, h5⟩, h6, p, p0, p1, hp⟩ := h
    obtain ⟨z, z2, hz⟩ := spo_n σ b l
    obtain ⟨-, -, -, ⟨c, c1, c2, hc⟩, ⟨R, R1, R2, hRd⟩, -, v, k, v1, v2, v3, hv, hk⟩ := hR.2.2.1 l hl
    have et : ttsF σ b g = tfqF σ b l (nI p) := by
      unfold ttsF
      rw [if_neg (by rw [h4]; exact nI_ne (by decide)), if_pos h4, h5, tN_nI (by omega), hp]
    by_cases hz0 : z = 0
    · subst hz0
      refine Or.inr (Or.inr (Or.inr ⟨⟨Or.inl h4, l, hl, h5, hz⟩, ?_⟩))
      rw [et]
      unfold tfqF ihd
      rw [hz, if_pos (by decide)]
    · have hh : ihd σ b l = false := by
        unfold ihd
        rw [hz]
        exact decide_eq_false (by rw [← nI_0]; exact fun w => hz0 (nI_inj (by omega) (by decide) w))
      have hqb : v * (p / c) ≤ 6 * 9 := Nat.mul_le_mul v2 (Nat.le_trans (Nat.div_le_self p c) p1)
      have hm : 2 * v * (1 + p / c) = 2 * (v * (p / c)) + 2 * v := by rw [Nat.mul_add, Nat.mul_one, Nat.mul_assoc, Nat.add_comm]
      have ev : ttsF σ b g = nI (cz (2 * (v * (p / c)) + 2 * v - k) z + cz (2 * R) z) := by
        rw [et]
        unfold tfqF tolF stc
        rw [hh, if_neg (by decide), if_neg (by decide), hz, hc, hRd, hv, hk, nI_div (by omega) (by omega) (by omega), nI_add, pk_mul, pk_mul, pk_mul, hm, nI_sub (by omega), tkf_n (by omega) z2, tkf_n (by omega) z2, nI_add]
      refine Or.inr (Or.inr (Or.inl ⟨_, ?_, ?_, Or.inr (Or.inr ⟨l, z, p, c, v, k, R, hl, h4, h5, hz, by omega, z2, hp, p1, hc, c1, c2, hv, v1, v2, hk, v3, hRd, R1, R2, rfl⟩), ev⟩))
      · unfold cz
        have hz2 : z = 1 ∨ z = 2 := by omega
        rcases hz2 with rfl | rfl
        · rw [if_neg (by decide), if_neg (by decide)]; omega
        · rw [if_pos rfl, if_pos rfl]; omega
      · unfold cz
        have hz2 : z = 1 ∨ z = 2 := by omega
        rcases hz2 with rfl | rfl
        · rw [if_neg (by decide), if_neg (by decide)]; omega
        · rw [if_pos rfl, if_pos rfl]; omega
  · obtain ⟨h4, ⟨l, hl, h5⟩, r, r1, r2, hr⟩ := h
    obtain ⟨z, z2, hz⟩ := spo_n σ b l
    have et : ttsF σ b g = tolF σ b l (nI r) := by
      unfold ttsF
      rw [if_neg (by rw [h4]; exact nI_ne (by decide)), if_neg (by rw [h4]; exact nI_ne (by decide)), if_pos h4, h5, tN_nI (by omega), hr]
    by_cases hz0 : z = 0
    · subst hz0
      refine Or.inr (Or.inr (Or.inr ⟨⟨Or.inr h4, l, hl, h5, hz⟩, ?_⟩))
      rw [et]
      unfold tolF ihd
      rw [hz, if_pos (by decide)]
    · have hh : ihd σ b l = false := by
        unfold ihd
        rw [hz]
        exact decide_eq_false (by rw [← nI_0]; exact fun w => hz0 (nI_inj (by omega) (by decide) w))
      have ev : ttsF σ b g = nI (cz r z) := by
        rw [et]
        unfold tolF
        rw [hh, if_neg (by decide), hz, tkf_n (by omega) z2]
      have hz2 : z = 1 ∨ z = 2 := by omega
      refine Or.inr (Or.inr (Or.inl ⟨_, ?_, ?_, Or.inr (Or.inl ⟨l, z, r, hl, h4, h5, hz, by omega, z2, hr, r1, r2, rfl⟩), ev⟩))
      · unfold cz
        rcases hz2 with rfl | rfl
        · rw [if_neg (by decide)]; omega
        · rw [if_pos rfl]; omega
      · unfold cz
        rcases hz2 with rfl | rfl
        · rw [if_neg (by decide)]; omega
        · rw [if_pos rfl]; omega
  · obtain ⟨h4, -, r, r1, r2, hr⟩ := h
    refine Or.inr (Or.inr (Or.inl ⟨r, r1, by omega, Or.inl ⟨h4, hr, r1, r2⟩, ?_⟩))
    unfold ttsF
    rw [if_neg (by rw [h4]; exact nI_ne (by decide)), if_neg (by rw [h4]; exact nI_ne (by decide)), if_neg (by rw [h4]; exact nI_ne (by decide)), if_pos h4, hr]
  · refine Or.inr (Or.inl ⟨h.1, ?_⟩)
    unfold ttsF
    rw [if_neg (by rw [h.1]; exact nI_ne (by decide)), if_neg (by rw [h.1]; exact nI_ne (by decide)), if_neg (by rw [h.1]; exact nI_ne (by decide)), if_neg (by rw [h.1]; exact nI_ne (by decide))]
end ARR
