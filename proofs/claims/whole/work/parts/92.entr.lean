/-! ===== the entries of a text: what each does ===== -/
theorem dv_rng {t : Nat → Int32} {n lo hi : Nat} {s : Bool × Nat} (hh : hi < 10) (hl : lo < 10) (h : (stp t n (nI (48 + lo)) (nI (48 + hi)) s).1 = false) : isN (dV t n (nI (48 + lo)) (nI (48 + hi)) s) lo hi := by
  have h3 := (stp_c (t := t) (n := n) (lo := nI (48 + lo)) (hi := nI (48 + hi)) (s := s)).2.2 h
  obtain ⟨m, m1, m2, m3⟩ := (btw_n (by omega) (by omega)).mp h3.2.2.2
  unfold dV
  rw [if_neg (by rw [h]; decide), m3, nI_sub (by omega)]
  exact ⟨m - 48, by omega, by omega, rfl⟩
theorem gv_rng {t : Nat → Int32} {n : Nat} {s : Bool × Nat} (h : (gS t n s).1 = false) : isN (gV t n s) 0 15 := by
  unfold gS at h
  unfold gV
  by_cases c : gT t n s = true
  · rw [if_pos c] at h ⊢
    obtain ⟨m, m1, m2, m3⟩ := dv_rng (lo := 0) (hi := 5) (by decide) (by decide) h
    rw [show dV t n (nI 48) (nI 53) (stp t n (nI 48) (nI 57) s) = nI m from m3, nI_add]
    exact ⟨10 + m, by omega, by omega, rfl⟩
  · rw [if_neg c] at h ⊢
    obtain ⟨m, m1, m2, m3⟩ := dv_rng (lo := 0) (hi := 9) (by decide) (by decide) h
    rw [show dV t n (nI 48) (nI 57) s = nI m from m3]
    exact ⟨m, by omega, by omega, rfl⟩
/-- an entry's kind and numbers -/
def EnOk (k a b : Int32) : Prop := (k = nI 103 ∧ isN a 0 7 ∧ isN b 1 3) ∨ (k = nI 113 ∧ isN a 0 15 ∧ isN b 0 5) ∨ (k = nI 115 ∧ isN a 0 15 ∧ isN b 0 9) ∨ (k = nI 116 ∧ isN a 1 9) ∨ (k = nI 119 ∧ isN a 0 9)
theorem en_ok {t : Nat → Int32} {n c : Nat} (h : (pS t n c).1 = false) : EnOk (hr t n c) (pA t n c) (pB t n c) := by
  have h1 := ((stp_c (t := t) (n := n) (lo := nI 59) (hi := nI 59) (s := pN t n c)).2.2 h).1
  by_cases k1 : hr t n c = nI 113
  · refine Or.inr (Or.inl ⟨k1, ?_, ?_⟩)
    · unfold pN at h1
      rw [if_pos k1] at h1
      have h2 := ((stp_c (s := stp t n (nI 45) (nI 45) (gS t n (p0 t n c)))).2.2 h1).1
      have h3 := ((stp_c (s := gS t n (p0 t n c))).2.2 h2).1
      unfold pA
      rw [if_pos (Or.inl k1)]
      exact gv_rng h3
    · unfold pN at h1
      rw [if_pos k1] at h1
      unfold pB
      rw [if_pos k1]
      exact dv_rng (lo := 0) (hi := 5) (by decide) (by decide) h1
  · by_cases k2 : hr t n c = nI 115
    · refine Or.inr (Or.inr (Or.inl ⟨k2, ?_, ?_⟩))
      · unfold pN at h1
        rw [if_neg k1, if_pos k2] at h1
        have h2 := ((stp_c (s := stp t n (nI 45) (nI 45) (gS t n (p0 t n c)))).2.2 h1).1
        have h3 := ((stp_c (s := gS t n (p0 t n c))).2.2 h2).1
        unfold pA
        rw [if_pos (Or.inr k2)]
        exact gv_rng h3
      · unfold pN at h1
        rw [if_neg k1, if_pos k2] at h1
        unfold pB
        rw [if_neg k1, if_pos k2]
        exact dv_rng (lo := 0) (hi := 9) (by decide) (by decide) h1
    · by_cases k3 : hr t n c = nI 103
      · unfold pN at h1
        rw [if_neg k1, if_neg k2, if_pos k3] at h1
        have h2 := ((stp_c (s := stp t n (nI 48) (nI 55) (p0 t n c))).2.2 h1).1
        refine Or.inl ⟨k3, ?_, ?_⟩
        · unfold pA
          rw [if_neg (fun w => w.elim k1 k2), if_pos k3]
          exact dv_rng (lo := 0) (hi := 7) (by decide) (by decide) h2
        · unfold pB
          rw [if_neg k1, if_neg k2, if_pos k3]
          exact dv_rng (lo := 1) (hi := 3) (by decide) (by decide) h1
      · by_cases k4 : hr t n c = nI 116
        · unfold pN at h1
          rw [if_neg k1, if_neg k2, if_neg k3, if_pos k4] at h1
          refine Or.inr (Or.inr (Or.inr (Or.inl ⟨k4, ?_⟩)))
          unfold pA
          rw [if_neg (fun w => w.elim k1 k2), if_neg k3, if_pos k4]
          exact dv_rng (lo := 1) (hi := 9) (by decide) (by decide) h1
        · unfold pN at h1
          rw [if_neg k1, if_neg k2, if_neg k3, if_neg k4] at h1
          have h2 := ((stp_c (s := p0 t n c)).2.2 h1).1
          have h3 := (p0_c.2.2 h2).2
          refine Or.inr (Or.inr (Or.inr (Or.inr ⟨?_, ?_⟩)))
          · unfold kd at h3
            simp only [Bool.or_eq_true, decide_eq_true_eq] at h3
            rcases h3 with w | w | w | w | w
            · exact absurd w k3
            · exact absurd w k1
            · exact absurd w k2
            · exact w
            · exact absurd w k4
          · unfold pA
            rw [if_neg (fun w => w.elim k1 k2), if_neg k3, if_neg k4]
            exact dv_rng (lo := 0) (hi := 9) (by decide) (by decide) h1
/-- what an entry does to area 0: its answer, the store after it, the guests after it -/
def DE (σ : St) (nl np ng : Nat) (k a b : Int32) (r : Int32) (y : St) (ng' : Nat) : Prop :=
  (k = nI 103 ∧ ((ng < 16 ∧ r = nI 0 ∧ y = weF σ 0 ng a b (nI 15) (σ 2 0 0 8) (σ 2 0 0 8) ∧ ng' = ng + 1) ∨ (¬ ng < 16 ∧ r = -1 ∧ y = σ ∧ ng' = ng)))
  ∨ (k = nI 113 ∧ ng' = ng ∧ ((∃ g l, g < ng ∧ l < nl ∧ a = nI g ∧ b = nI l ∧ ((qrF σ 0 g l ng = 0 ∧ r = nI 0 ∧ y = jqF σ 0 g l ng) ∨ (¬ qrF σ 0 g l ng = 0 ∧ r = qrF σ 0 g l ng ∧ y = σ))) ∨ ((idx a (σ 2 0 0 5) = false ∨ idx b (σ 2 0 0 3) = false) ∧ r = -1 ∧ y = σ)))
  ∨ (k = nI 115 ∧ ng' = ng ∧ ((∃ g p, g < ng ∧ p < np ∧ a = nI g ∧ b = nI p ∧ ((srF σ 0 g p = 0 ∧ r = nI 0 ∧ y = spF σ 0 g p) ∨ (¬ srF σ 0 g p = 0 ∧ r = srF σ 0 g p ∧ y = σ))) ∨ ((idx a (σ 2 0 0 5) = false ∨ idx b (σ 2 0 0 4) = false) ∧ r = -1 ∧ y = σ)))
  ∨ (k = nI 116 ∧ ng' = ng ∧ ∃ m, 1 ≤ m ∧ m ≤ 9 ∧ a = nI m ∧ ((σ 2 0 0 7 + nI m ≤ nI 1000 ∧ r = nI 0 ∧ y = (tkF 0 nl np ng m σ).1) ∨ (¬ σ 2 0 0 7 + nI m ≤ nI 1000 ∧ r = -1 ∧ y = σ)))
  ∨ (k = nI 119 ∧ ng' = ng ∧ r = nI 0 ∧ y = up σ 2 0 0 6 a)
theorem gw_n (σ : St) (b n : Nat) (x y : Int32) : ∃ q, q ≤ n ∧ gwF σ b x y n = nI q := ⟨_, cn_le (fun i => gis σ b i x y) n, by rw [gwF, rn_cn (c := fun i => gis σ b i x y)]⟩
section EN
variable {σ μ : St} {W nl np ng : Nat}
theorem de_ok {k a b r : Int32} {y : St} {ng' : Nat} (hW : W < 2 ^ 30) (hE : EnOk k a b) (hR : Rok σ 0 nl np ng W) (ht : isN (σ 2 0 0 7) 0 1000) (h : DE σ nl np ng k a b r y ng') : Rok y 0 nl np ng' (W + 3) ∧ isN (y 2 0 0 7) 0 1000 ∧ FO σ y := by
  have kne : ∀ {i j : Nat}, k = nI i → k = nI j → i < 1000 → j < 1000 → i = j := fun h1 h2 h3 h4 => nI_inj (by omega) (by omega) (h1.symm.trans h2)
  rcases h with ⟨k1, h | h⟩ | ⟨k1, rfl, h⟩ | ⟨k1, rfl, h⟩ | ⟨k1, rfl, m, m1, m9, rfl, h | h⟩ | ⟨k1, rfl, rfl, rfl⟩
  · obtain ⟨h1, -, rfl, rfl⟩ := h
    have hab : isN a 0 7 ∧ isN b 1 3 := by
      rcases hE with e | e | e | e | e
      · exact e.2
      · exact absurd (kne k1 e.1 (by decide) (by decide)) (by decide)
      · exact absurd (kne k1 e.1 (by decide) (by decide)) (by decide)
      · exact absurd (kne k1 e.1 (by decide) (by decide)) (by decide)
      · exact absurd (kne k1 e.1 (by decide) (by decide)) (by decide)
    exact ⟨(we_ok hR h1 hab.1 hab.2).mono (by omega), by rw [weF_o _ _ _ _ _ _ _ _ (by omega) (by omega)]; exact ht, fo_we σ _ _ _ _ _⟩
  · obtain ⟨-, -, rfl, rfl⟩ := h
    exact ⟨hR.mono (by omega), ht, FO.rfl' _⟩
  · rcases h with ⟨g, l, hg, hl, rfl, rfl, ⟨h1, -, rfl⟩ | ⟨-, -, rfl⟩⟩ | ⟨-, -, rfl⟩
    · obtain ⟨-, hw⟩ := qrF_0 h1
      obtain ⟨q, q1, eg⟩ := gw_n σ 0 _ (nI 1) (nI l)
      have hn := hR.1.2.2.2
      have q9 : q < 10 := by rw [eg] at hw; exact (nI_ltI (by omega) (by decide)).mp hw
      exact ⟨(jq_ok hR hg hl eg q9).mono (by omega), by unfold jqF; rw [gbc_k (by decide)]; exact ht, fo_jq σ g l⟩
    · exact ⟨hR.mono (by omega), ht, FO.rfl' _⟩
    · exact ⟨hR.mono (by omega), ht, FO.rfl' _⟩
  · rcases h with ⟨g, l, hg, hl, rfl, rfl, ⟨h1, -, rfl⟩ | ⟨-, -, rfl⟩⟩ | ⟨-, -, rfl⟩
    · exact ⟨sp_ok hR hg hl, by unfold spF; rw [up_k (by decide), up_k (by decide), up_k (by decide), gbc_k (by decide)]; exact ht, fo_sp σ g l⟩
    · exact ⟨hR.mono (by omega), ht, FO.rfl' _⟩
    · exact ⟨hR.mono (by omega), ht, FO.rfl' _⟩
  · obtain ⟨h1, -, rfl⟩ := h
    obtain ⟨t, t1, t2, t3⟩ := ht
    refine ⟨(tkF_ok hW hR).mono (by omega), ?_, fo_tk σ m⟩
    rw [t3, nI_add, nI_leI (by omega) (by decide)] at h1
    rw [tkF_t, t3, nI_add]
    exact ⟨t + m, by omega, by omega, rfl⟩
  · obtain ⟨-, -, rfl⟩ := h
    exact ⟨hR.mono (by omega), ht, FO.rfl' _⟩
  · have ha : isN a 0 9 := by
      rcases hE with e | e | e | e | e
      · exact absurd (kne k1 e.1 (by decide) (by decide)) (by decide)
      · exact absurd (kne k1 e.1 (by decide) (by decide)) (by decide)
      · exact absurd (kne k1 e.1 (by decide) (by decide)) (by decide)
      · exact absurd (kne k1 e.1 (by decide) (by decide)) (by decide)
      · exact e.2
    exact ⟨(wind_ok hR ha).mono (by omega), by rw [up_sl (by decide)]; exact ht, fo_up (FO.rfl' σ) (by decide)⟩
variable (G : Gl)
/-- the class does an entry -/
theorem s_X7_doEntry (hW : W < 2 ^ 30) (hR : Rok σ 0 nl np ng W) {k a b : Int32} (hE : EnOk k a b) {b' : Int32} (hb : k = nI 103 ∨ k = nI 113 ∨ k = nI 115 → b' = b) : Con G mX7_doEntry [.ref (zad G.1 9 0 0), .int k, .int a, .int b'] σ (fun v y => ∃ r ng', v = some (.int r) ∧ DE σ nl np ng k a b r y ng') noX := by
  have hn := hR.1.2.2.2
  have hn1 := hR.1.1.2
  have hn2 := hR.1.2.1.2
  apply wX7_doEntry
  refine ⟨fun z => ?_, fun k1 => ⟨fun z => ?_, fun k2 => ⟨fun z => ?_, fun k3 => ⟨fun z => ?_, fun k4 => ⟨fun z => ?_, fun k5 => ?_⟩⟩⟩⟩⟩
  · obtain rfl := hb (Or.inl z)
    apply wX7_addGuestByText
    rw [hR.1.2.2.1, nI_ltI (by omega) (by decide)]
    refine ⟨fun w => ?_, fun w => ⟨_, rfl, _, ng, rfl, Or.inl ⟨z, Or.inr ⟨w, rfl, rfl, rfl⟩⟩⟩⟩
    refine (s_X0_welcome G (by decide) hR.1 w a b' (nI 15) (σ 2 0 0 8) (σ 2 0 0 8)).mono (fun v y hp => ⟨_, hp.1, _, rfl, _, ng + 1, rfl, Or.inl ⟨z, Or.inl ⟨w, rfl, hp.2, rfl⟩⟩⟩) (fun _ _ hp => hp)
  · obtain rfl := hb (Or.inr (Or.inl z))
    apply wX7_queueByText
    have bad : (idx a (σ 2 0 0 5) = false ∨ idx b' (σ 2 0 0 3) = false) → DE σ nl np ng k a b' (-1) σ ng := fun w => Or.inr (Or.inl ⟨z, rfl, Or.inr ⟨w, rfl, rfl⟩⟩)
    refine ⟨le16 hR.1.2.2.1 hn (by decide), fun hx => ⟨le16 hR.1.1.1 hn1 (by decide), fun _ => ⟨_, rfl, _, ng, rfl, bad (Or.inl hx)⟩, fun _ _ _ _ => ⟨_, rfl, _, ng, rfl, bad (Or.inl hx)⟩⟩, fun g hg e1 hx => ⟨le16 hR.1.1.1 hn1 (by decide), fun hy => ⟨_, rfl, _, ng, rfl, bad (Or.inr hy)⟩, fun l hl e2 hy => ?_⟩⟩
    subst e1; subst e2
    have hgn : g < ng := by rw [hR.1.2.2.1] at hx; exact idx_lt hg hn hx
    have hln : l < nl := by rw [hR.1.1.1] at hy; exact idx_lt (by omega) (by omega) hy
    refine (s_X0_queueRefusal G (by decide) hR.1 hg hl).mono (fun v μ1 hp => ⟨_, hp.1, ?_⟩) (fun _ _ hp => hp)
    obtain ⟨-, rfl⟩ := hp
    refine ⟨fun q => ?_, fun q => ⟨_, rfl, _, ng, rfl, Or.inr (Or.inl ⟨z, rfl, Or.inl ⟨g, l, hgn, hln, rfl, rfl, Or.inr ⟨q, rfl, rfl⟩⟩⟩)⟩⟩
    refine (s_X0_joinQueue G (by decide) hR.1 hg).mono (fun v y hp => ⟨_, hp.1, _, rfl, _, ng, rfl, Or.inr (Or.inl ⟨z, rfl, Or.inl ⟨g, l, hgn, hln, rfl, rfl, Or.inl ⟨q, rfl, hp.2⟩⟩⟩)⟩) (fun _ _ hp => hp)
  · obtain rfl := hb (Or.inr (Or.inr z))
    apply wX7_skiByText
    have bad : (idx a (σ 2 0 0 5) = false ∨ idx b' (σ 2 0 0 4) = false) → DE σ nl np ng k a b' (-1) σ ng := fun w => Or.inr (Or.inr (Or.inl ⟨z, rfl, Or.inr ⟨w, rfl, rfl⟩⟩))
    refine ⟨le16 hR.1.2.2.1 hn (by decide), fun hx => ⟨le16 hR.1.2.1.1 hn2 (by decide), fun _ => ⟨_, rfl, _, ng, rfl, bad (Or.inl hx)⟩, fun _ _ _ _ => ⟨_, rfl, _, ng, rfl, bad (Or.inl hx)⟩⟩, fun g hg e1 hx => ⟨le16 hR.1.2.1.1 hn2 (by decide), fun hy => ⟨_, rfl, _, ng, rfl, bad (Or.inr hy)⟩, fun l hl e2 hy => ?_⟩⟩
    subst e1; subst e2
    have hgn : g < ng := by rw [hR.1.2.2.1] at hx; exact idx_lt hg hn hx
    have hln : l < np := by rw [hR.1.2.1.1] at hy; exact idx_lt (by omega) (by omega) hy
    refine (s_X0_skiRefusal G (by decide) hg hl).mono (fun v μ1 hp => ⟨_, hp.1, ?_⟩) (fun _ _ hp => hp)
    obtain ⟨-, rfl⟩ := hp
    refine ⟨fun q => ?_, fun q => ⟨_, rfl, _, ng, rfl, Or.inr (Or.inr (Or.inl ⟨z, rfl, Or.inl ⟨g, l, hgn, hln, rfl, rfl, Or.inr ⟨q, rfl, rfl⟩⟩⟩))⟩⟩
    refine (s_X0_startPiste G (by decide) hg hl).mono (fun v y hp => ⟨_, hp.1, _, rfl, _, ng, rfl, Or.inr (Or.inr (Or.inl ⟨z, rfl, Or.inl ⟨g, l, hgn, hln, rfl, rfl, Or.inl ⟨q, rfl, hp.2⟩⟩⟩))⟩) (fun _ _ hp => hp)
  · have ha : isN a 1 9 := by
      rcases hE with e | e | e | e | e
      · exact absurd e.1 k1
      · exact absurd e.1 k2
      · exact absurd e.1 k3
      · exact e.2
      · exact absurd (e.1.symm.trans z) (nI_ne (by decide))
    obtain ⟨m, m1, m9, rfl⟩ := ha
    refine ⟨fun w => ?_, fun w => ⟨_, ng, rfl, Or.inr (Or.inr (Or.inr (Or.inl ⟨z, rfl, m, m1, m9, rfl, Or.inr ⟨w, rfl, rfl⟩⟩)))⟩⟩
    exact (s_X0_passTicks G (by decide) hW hR m (by omega)).mono (fun v y hp => ⟨_, hp.1, _, ng, rfl, Or.inr (Or.inr (Or.inr (Or.inl ⟨z, rfl, m, m1, m9, rfl, Or.inl ⟨w, rfl, hp.2⟩⟩)))⟩) (fun _ _ hp => hp)
  · exact ⟨_, ng, rfl, Or.inr (Or.inr (Or.inr (Or.inr ⟨z, rfl, rfl, rfl⟩)))⟩
  · exfalso
    rcases hE with e | e | e | e | e
    · exact k1 e.1
    · exact k2 e.1
    · exact k3 e.1
    · exact k4 e.1
    · exact k5 e.1
def K5 (x x' : St) : Prop := ∀ k b i s, ¬ (k = 5 ∧ 2 ≤ s) → x' k b i s = x k b i s
/-- the entries from the i-th on, so many -/
def Tr (t : Nat → Int32) (n nl np : Nat) : Nat → Nat → Nat → St → Int32 → St → Nat → Prop
  | 0, _, ng, x, r, xf, ngf => r = nI 0 ∧ xf = x ∧ ngf = ng
  | d + 1, i, ng, x, r, xf, ngf => ∃ x' r1 y ng', K5 x x' ∧ DE x' nl np ng (hr t n (pC t n i)) (pA t n (pC t n i)) (pB t n (pC t n i)) r1 y ng' ∧ ((r1 = 0 ∧ Tr t n nl np d (i + 1) ng' y r xf ngf) ∨ (¬ r1 = 0 ∧ r = r1 ∧ xf = y ∧ ngf = ng'))
/-- the class does the entries -/
theorem t_doEntries {t : Nat → Int32} {n E : Nat} (hE : TxOk t n E) (hE20 : E ≤ 20) {P : Option Value → St → Prop} : ∀ d i ng (x : St) W, i + d = E → W + 3 * d < 2 ^ 30 → Tc x t n → x 5 0 0 2 = nI (pC t n i) → Rok x 0 nl np ng W → isN (x 2 0 0 7) 0 1000 → (∀ r xf ngf, Tr t n nl np d i ng x r xf ngf → P (some (.int r)) xf) → VL G mX7_doEntries P noX 10 [(0, .ref (zad G.1 9 0 0)), (1, .int (nI E)), (2, .int (nI i))] [] x := by
  intro d
  induction d with
  | zero =>
    intro i ng x W hi hW hT h2 hR ht hP
    obtain rfl : i = E := by omega
    apply wX7_doEntries_10
    exact ⟨fun _ => hP (nI 0) x ng ⟨rfl, rfl, rfl⟩, fun z => absurd ((nI_leI (by omega) (by omega)).mpr (Nat.le_refl _)) z⟩
  | succ d ih =>
    intro i ng x W hi hW hT h2 hR ht hP
    have hok := hE.2.1 i (by omega)
    apply wX7_doEntries_10
    refine ⟨fun z => absurd ((nI_leI (by omega) (by omega)).mp z) (by omega), fun _ => ?_⟩
    refine (s_X3_takeEntry G hT h2 (pC_c i)).mono (fun v x' hp => ?_) (fun _ _ hp => hp)
    obtain ⟨p1, p2, p3, p4⟩ := hp
    obtain ⟨q4, q5, q6⟩ := p4 hok
    have hk5 : K5 x x' := fun k b i s hk => p2 k b i s (by omega)
    have hR' : Rok x' 0 nl np ng W := hR.congr (fun s _ _ => hk5 _ _ _ _ (by omega)) (fun l s _ _ => hk5 _ _ _ _ (by omega)) (fun l s _ _ => hk5 _ _ _ _ (by omega)) (fun l s _ _ => hk5 _ _ _ _ (by omega))
    refine ⟨_, p1, fun _ => ?_, fun z => (by rw [hok] at z; cases z)⟩
    rw [q4, q5]
    refine (s_X7_doEntry G (by omega) hR' (en_ok hok) (b' := x' 5 0 0 6) (fun w => q6 w)).mono (fun v y hp => ?_) (fun _ _ hp => hp)
    obtain ⟨r1, ng', rfl, hD⟩ := hp
    have ht' : isN (x' 2 0 0 7) 0 1000 := by rw [hk5 _ _ _ _ (by omega)]; exact ht
    obtain ⟨d1, d2, d3⟩ := de_ok (by omega) (en_ok hok) hR' ht' hD
    refine ⟨r1, rfl, fun z => ?_, fun z => hP r1 y ng' ⟨x', r1, y, ng', hk5, hD, Or.inr ⟨z, rfl, rfl, rfl⟩⟩⟩
    have hT' : Tc y t n := by
      have e : ∀ k i s, k = 5 ∨ k = 24 → y k 0 i s = x' k 0 i s := fun k i s hk => d3 k 0 i s (by omega)
      have h1 := hT.kq p2
      exact ⟨by rw [e _ _ _ (by omega)]; exact h1.1, h1.2.1, fun j hj => by rw [e _ _ _ (by omega)]; exact h1.2.2.1 j hj, h1.2.2.2⟩
    refine ih (i + 1) ng' y (W + 3) (by omega) (by omega) hT' (by rw [d3 5 0 0 2 (by omega), p3]; rfl) d1 d2 (fun r xf ngf hTr => hP r xf ngf ⟨x', r1, y, ng', hk5, hD, Or.inl ⟨z, hTr⟩⟩)
end EN
