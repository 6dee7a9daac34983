/-! ===== the reference does the entries ===== -/
theorem up_same (μ : St) (k b i s : Nat) : up μ k b i s (μ k b i s) = μ := by
  funext k' b' i' s'
  unfold up
  by_cases h : k' = k ∧ b' = b ∧ i' = i ∧ s' = s
  · rw [if_pos h]
    obtain ⟨rfl, rfl, rfl, rfl⟩ := h
    rfl
  · rw [if_neg h]
section MR
variable {σ μ : St} {W nl np ng : Nat}
theorem mixg5 (hR : Rok σ 0 nl np ng W) (h : Rel σ 0 nl np ng (row μ)) (x : Int32) : mix μ 5 x = idx x (σ 2 0 0 5) := by
  unfold mix
  rw [hR.1.2.2.1, ← mix_idx hR.1.2.2.2, h.cng hR.1]
theorem mixg4 (hR : Rok σ 0 nl np ng W) (h : Rel σ 0 nl np ng (row μ)) (x : Int32) : mix μ 4 x = idx x (σ 2 0 0 4) := by
  have := hR.1.2.1.2
  unfold mix
  rw [hR.1.2.1.1, ← mix_idx (by omega), h.cnp hR.1]
theorem mixg3 (hR : Rok σ 0 nl np ng W) (h : Rel σ 0 nl np ng (row μ)) (x : Int32) : mix μ 3 x = idx x (σ 2 0 0 3) := by
  have := hR.1.1.2
  unfold mix
  rw [hR.1.1.1, ← mix_idx (by omega), h.cnl hR.1]
theorem nn0 {n : Nat} (h : n < 2 ^ 31) : ¬ nI n < (0 : Int32) := by
  rw [← nI_0]
  exact i_nlt.mpr ((nI_leI (by decide) h).mpr (Nat.zero_le _))
variable (G : Gl)
/-- the reference does an entry: done, or refused with a reason, or impossible -/
def DoP (μ : St) (y : St) (nl np ng' : Nat) (r : Int32) (v : Option Value) (μ9 : St) : Prop := (r = 0 ∧ v = some (.int (bI true)) ∧ Mt μ μ9 ∧ Rel y 0 nl np ng' (row μ9)) ∨ (¬ r = 0 ∧ v = some (.int (bI false)) ∧ μ9 = up μ 10 0 0 5 (if r = -1 then μ 10 0 0 5 else r))
theorem s_X8_does (hW : W < 2 ^ 30) (hR : Rok σ 0 nl np ng W) (h : Rel σ 0 nl np ng (row μ)) {e : Nat} (he : e < 60) {k a b r : Int32} (hE : EnOk k a b) (e32 : μ 32 0 0 e = k) (e33 : μ 33 0 0 e = a) (e34 : μ 34 0 0 e = b) {y : St} {ng' : Nat} (hD : DE σ nl np ng k a b r y ng') : Con G mX8_does [.ref (zad G.1 10 0 0), .int (nI e)] μ (DoP μ y nl np ng' r) noX := by
  have hn := hR.1.2.2.2
  have hn1 := hR.1.1.2
  have hn2 := hR.1.2.1.2
  have kne : ∀ {i j : Nat}, k = nI i → i ≠ j → i < 1000 → j < 1000 → ¬ k = nI j := fun h1 h2 h3 h4 h5 => h2 (nI_inj (by omega) (by omega) (h1.symm.trans h5))
  have r10 : ¬ (-1 : Int32) = 0 := by decide
  have ro5 : ∀ x, row (up μ 10 0 0 5 x) = row μ := fun x => row_o (by decide)
  have fail1 : ∀ {r : Int32}, r = -1 → DoP μ y nl np ng' r (some (.int (nI 0))) μ := fun {r} hr => Or.inr ⟨by rw [hr]; exact r10, rfl, by rw [if_pos hr, up_same]⟩
  have neg1 : ∀ n, n < 127 → ¬ nI n = -1 := by decide +kernel
  apply wX8_does G e he
  rw [e32, e33, e34]
  rcases hD with ⟨k1, h2 | h2⟩ | ⟨k1, rfl, h2⟩ | ⟨k1, rfl, h2⟩ | ⟨k1, rfl, m, m1, m9, rfl, h2 | h2⟩ | ⟨k1, rfl, rfl, rfl⟩
  · -- a guest comes
    obtain ⟨h1, rfl, rfl, rfl⟩ := h2
    refine ⟨fun _ => ⟨fun _ => ⟨fun w => absurd k1 w, fun _ => ?_⟩, fun w => absurd w (kne k1 (by decide) (by decide) (by decide))⟩, fun w => absurd w (kne k1 (by decide) (by decide) (by decide))⟩
    rw [h.cng hR.1, show μ 26 0 0 2 = σ 2 0 0 8 from h.2.1.1 2 (by decide)]
    refine ⟨fun w => absurd ((nI_leI (by decide) (by omega)).mp w) (by omega), fun _ => ?_⟩
    refine (s_X8_arrives G hR.1 h h1 _ _ _ _ _).mono (fun v μ5 hp => ⟨hp.1, Or.inl ⟨by decide, rfl, mt_of hp.2.1, hp.2.2⟩⟩) (fun _ _ hp => hp)
  · obtain ⟨h1, rfl, rfl, rfl⟩ := h2
    refine ⟨fun _ => ⟨fun _ => ⟨fun w => absurd k1 w, fun _ => ?_⟩, fun w => absurd w (kne k1 (by decide) (by decide) (by decide))⟩, fun w => absurd w (kne k1 (by decide) (by decide) (by decide))⟩
    rw [h.cng hR.1]
    exact ⟨fun _ => fail1 rfl, fun w => absurd ((nI_leI (by decide) (by omega)).mpr (by omega)) w⟩
  · -- a guest queues
    refine ⟨fun _ => ⟨fun _ => ⟨fun _ => ⟨fun w => absurd k1 w, fun _ => ?_⟩, fun w => absurd w (kne k1 (by decide) (by decide) (by decide))⟩, fun w => absurd w (kne k1 (by decide) (by decide) (by decide))⟩, fun w => absurd w (kne k1 (by decide) (by decide) (by decide))⟩
    rw [mixg5 hR h, mixg3 hR h]
    rcases h2 with ⟨g, l, hg, hl, rfl, rfl, hc⟩ | ⟨hb, rfl, rfl⟩
    · rw [idx_ok rfl hR.1.2.2.1 hg (by omega), idx_ok rfl hR.1.1.1 hl (by omega)]
      refine ⟨fun w => (by cases w), fun _ => ⟨fun w => (by cases w), fun _ => ⟨g, rfl, by omega, l, rfl, by omega, ?_⟩⟩⟩
      rw [h.eqrF hg hl]
      obtain ⟨n, n5, hq⟩ := qrF_n σ 0 g l ng'
      rcases hc with ⟨c1, rfl, rfl⟩ | ⟨c1, rfl, rfl⟩
      · obtain ⟨h4, hw⟩ := qrF_0 c1
        have h6 := ((hR.2.2.2.2 g hg).stands h4).2
        obtain ⟨q, q1, eg⟩ := gw_n σ 0 ng' (nI 1) (nI l)
        rw [c1]
        refine ⟨fun _ => ⟨fun w => absurd rfl w, fun _ => ?_⟩, fun w => absurd (show (0 : Int32) ≤ 0 by decide) w⟩
        rw [up_same]
        refine (s_X8_standIn G hR.1 h hg hl h4 h6 hw).mono (fun v μ5 hp => ⟨_, hp.1, fun w => absurd w (by rw [eg]; exact nn0 (by omega)), fun _ => Or.inl ⟨by decide, rfl, mt_of hp.2.1, hp.2.2⟩⟩) (fun _ _ hp => hp)
      · refine ⟨fun w => absurd (by rw [hq] at w ⊢; exact (le0_n (by omega)).mp w) c1, fun _ => ⟨fun _ => Or.inr ⟨c1, rfl, ?_⟩, fun w => absurd w c1⟩⟩
        rw [if_neg (by rw [hq]; exact neg1 n (by omega))]
    · refine ⟨fun _ => fail1 rfl, fun w => ⟨fun _ => fail1 rfl, fun w2 => ?_⟩⟩
      rcases hb with hb | hb
      · rw [hb] at w; cases w
      · rw [hb] at w2; cases w2
  · -- a guest skis
    refine ⟨fun _ => ⟨fun _ => ⟨fun _ => ⟨fun _ => ?_, fun w => absurd w (kne k1 (by decide) (by decide) (by decide))⟩, fun w => absurd w (kne k1 (by decide) (by decide) (by decide))⟩, fun w => absurd w (kne k1 (by decide) (by decide) (by decide))⟩, fun w => absurd w (kne k1 (by decide) (by decide) (by decide))⟩
    rw [mixg5 hR h, mixg4 hR h]
    rcases h2 with ⟨g, l, hg, hl, rfl, rfl, hc⟩ | ⟨hb, rfl, rfl⟩
    · rw [idx_ok rfl hR.1.2.2.1 hg (by omega), idx_ok rfl hR.1.2.1.1 hl (by omega)]
      refine ⟨fun w => (by cases w), fun _ => ⟨fun _ => ⟨g, rfl, by omega, l, rfl, by omega, ?_⟩, fun w => (by cases w)⟩⟩
      rw [h.esrF hg hl]
      obtain ⟨n, n5, hq⟩ := srF_n σ 0 g l
      rcases hc with ⟨c1, rfl, rfl⟩ | ⟨c1, rfl, rfl⟩
      · have h4 := srF_0 c1
        obtain ⟨q, q1, q2, eg⟩ := rfo_n hR (g := g) hl
        rw [c1]
        refine ⟨fun _ => ⟨fun w => absurd rfl w, fun _ => ?_⟩, fun w => absurd (show (0 : Int32) ≤ 0 by decide) w⟩
        rw [up_same]
        refine (s_X8_goDown G hR.1 h hg hl h4).mono (fun v μ5 hp => ⟨_, hp.1, fun w => absurd w (by rw [eg]; exact nn0 (by omega)), fun _ => Or.inl ⟨by decide, rfl, mt_of hp.2.1, hp.2.2⟩⟩) (fun _ _ hp => hp)
      · refine ⟨fun w => absurd (by rw [hq] at w ⊢; exact (le0_n (by omega)).mp w) c1, fun _ => ⟨fun _ => Or.inr ⟨c1, rfl, ?_⟩, fun w => absurd w c1⟩⟩
        rw [if_neg (by rw [hq]; exact neg1 n (by omega))]
    · refine ⟨fun _ => fail1 rfl, fun w => ⟨fun w2 => ?_, fun _ => fail1 rfl⟩⟩
      rcases hb with hb | hb
      · rw [hb] at w; cases w
      · rw [hb] at w2; cases w2
  · -- ticks pass
    obtain ⟨h1, rfl, rfl⟩ := h2
    refine ⟨fun _ => ⟨fun w => absurd k1 w, fun _ => ?_⟩, fun w => absurd w (kne k1 (by decide) (by decide) (by decide))⟩
    rw [show μ 26 0 0 1 = σ 2 0 0 7 from h.2.1.1 1 (by decide)]
    refine ⟨fun w => absurd h1 (i_nle.mpr w), fun _ => ?_⟩
    obtain ⟨q, q1, eg⟩ := tk_n (b := 0) (nl := nl) (np := np) (ng := ng') σ m
    have hq : q < 2 ^ 31 := by
      have : 2 * ng' * m ≤ 32 * 9 := Nat.mul_le_mul (by omega) m9
      omega
    refine (s_X8_ticks G hW hR h m (by omega)).mono (fun v μ5 hp => ⟨_, hp.1, fun w => absurd w (by rw [eg]; exact nn0 hq), fun _ => Or.inl ⟨by decide, rfl, hp.2.1, hp.2.2⟩⟩) (fun _ _ hp => hp)
  · obtain ⟨h1, rfl, rfl⟩ := h2
    refine ⟨fun _ => ⟨fun w => absurd k1 w, fun _ => ?_⟩, fun w => absurd w (kne k1 (by decide) (by decide) (by decide))⟩
    rw [show μ 26 0 0 1 = _ from h.2.1.1 1 (by decide)]
    exact ⟨fun _ => fail1 rfl, fun w => absurd (i_nlt.mp w) h1⟩
  · -- the wind
    refine ⟨fun w => absurd k1 w, fun _ => Or.inl ⟨by decide, rfl, Mt.up26 (Mt.rfl' _), ?_⟩⟩
    exact wind_rel h (fun j => by rw [row_up])
/-- what the entries leave of the reference -/
def Mr (μ μ' : St) : Prop := ∀ k b i s, k ≠ 26 → (k = 10 → s ≠ 7 ∧ s ≠ 5) → μ' k b i s = μ k b i s
theorem t_reads {t : Nat → Int32} {n E : Nat} (hE : TxOk t n E) (hE20 : E ≤ 20) {P : Option Value → St → Prop} {μ0 : St} (h16 : μ0 10 0 0 16 = nI E) (rows : ∀ e, e < E → μ0 32 0 0 e = hr t n (pC t n e) ∧ μ0 33 0 0 e = pA t n (pC t n e) ∧ μ0 34 0 0 e = pB t n (pC t n e)) (y1 : Bool) {r : Int32} {xf : St} {ngf : Nat} (hPok : r = 0 → ∀ μ9, Mr μ0 μ9 → μ9 10 0 0 5 = μ0 10 0 0 5 → Rel xf 0 nl np ngf (row μ9) → VL G mX8_read P noX 44 [(0, .ref (zad G.1 10 0 0)), (1, .int (bI y1)), (2, .int (nI E))] [] μ9) (hPno : ¬ r = 0 → ∀ μ9, Mr μ0 μ9 → μ9 10 0 0 5 = (if r = -1 then μ0 10 0 0 5 else r) → P (some (.int (nI 0))) (up (cpR μ9 26 0 (fun i => μ9 29 0 0 i) 372) 10 0 0 6 (nI 2))) : ∀ d i ng (x μ' : St) W, i + d = E → W + 3 * d < 2 ^ 30 → Rok x 0 nl np ng W → isN (x 2 0 0 7) 0 1000 → Rel x 0 nl np ng (row μ') → Mr μ0 μ' → μ' 10 0 0 5 = μ0 10 0 0 5 → Tr t n nl np d i ng x r xf ngf → VL G mX8_read P noX 44 [(0, .ref (zad G.1 10 0 0)), (1, .int (bI y1)), (2, .int (nI i))] [] μ' := by
  intro d
  induction d with
  | zero =>
    intro i ng x μ' W hi hW hR ht hL hM h5 hTr
    obtain rfl : i = E := by omega
    obtain ⟨rfl, rfl, rfl⟩ := hTr
    exact hPok nI_0 μ' hM h5 hL
  | succ d ih =>
    intro i ng x μ' W hi hW hR ht hL hM h5 hTr
    obtain ⟨x', r1, y, ng', hk5, hD, hc⟩ := hTr
    have hok := hE.2.1 i (by omega)
    have hR' : Rok x' 0 nl np ng W := hR.congr (fun s _ _ => hk5 _ _ _ _ (by omega)) (fun l s _ _ => hk5 _ _ _ _ (by omega)) (fun l s _ _ => hk5 _ _ _ _ (by omega)) (fun l s _ _ => hk5 _ _ _ _ (by omega))
    have hL' : Rel x' 0 nl np ng (row μ') := hL.congr (fun s _ _ => hk5 _ _ _ _ (by omega)) (fun l s _ _ => hk5 _ _ _ _ (by omega)) (fun l s _ _ => hk5 _ _ _ _ (by omega)) (fun l s _ _ => hk5 _ _ _ _ (by omega)) (fun _ _ => rfl)
    have ht' : isN (x' 2 0 0 7) 0 1000 := by rw [hk5 _ _ _ _ (by omega)]; exact ht
    obtain ⟨d1, d2, -⟩ := de_ok (by omega) (en_ok hok) hR' ht' hD
    obtain ⟨w1, w2, w3⟩ := rows i (by omega)
    apply wX8_read_44
    rw [hM 10 0 0 16 (by decide) (by omega), h16]
    refine ⟨fun z => absurd ((nI_leI (by omega) (by omega)).mp z) (by omega), fun _ => ?_⟩
    refine (s_X8_does G (by omega) hR' hL' (e := i) (by omega) (en_ok hok) (by rw [hM _ _ _ _ (by decide) (by omega)]; exact w1) (by rw [hM _ _ _ _ (by decide) (by omega)]; exact w2) (by rw [hM _ _ _ _ (by decide) (by omega)]; exact w3) hD).mono (fun v μ1 hp => ?_) (fun _ _ hp => hp)
    rcases hp with ⟨z, rfl, a1, a2⟩ | ⟨z, rfl, rfl⟩
    · refine ⟨true, rfl, fun _ => ?_, fun w => (by cases w)⟩
      rcases hc with ⟨-, hTr⟩ | ⟨z2, -⟩
      · refine ih (i + 1) ng' y μ1 (W + 3) (by omega) (by omega) d1 d2 a2 (fun k b i s h1 h2 => by rw [a1 k b i s h1 (fun w => (h2 w).1), hM k b i s h1 h2]) (by rw [a1 10 0 0 5 (by decide) (by omega), h5]) hTr
      · exact absurd z z2
    · refine ⟨false, rfl, fun w => (by cases w), fun _ => ?_⟩
      rcases hc with ⟨z2, -⟩ | ⟨-, rfl, rfl, rfl⟩
      · exact absurd z2 z
      · refine (s_X8_takeBack G _).mono (fun v μ2 hp => ⟨hp.1, ?_⟩) (fun _ _ hp => hp)
        obtain ⟨-, rfl⟩ := hp
        refine hPno z _ (fun k b i s h1 h2 => ?_) ?_
        · rw [show ∀ (y' : St) w, up y' 10 0 0 5 w k b i s = y' k b i s from fun y w => by unfold up; rw [if_neg (by omega)], hM k b i s h1 h2]
        · rw [up_self, h5]
/-- what the reference keeps after a text: the row laid aside -/
def KrP (μ μ9 : St) (c : Nat) : Prop := (∀ k b i s, k ≠ 28 → (k = 10 → s ≠ 4) → μ9 k b i s = μ k b i s) ∧ μ9 10 0 0 4 = nI (min (c + 1) 8) ∧ (c < 8 → (∀ j, j < 372 * c → μ9 28 0 0 j = μ 28 0 0 j) ∧ ∀ i, i < 372 → μ9 28 0 0 (372 * c + i) = μ 29 0 0 i) ∧ (c = 8 → (∀ j, j < 2604 → μ9 28 0 0 j = μ 28 0 0 (j + 372)) ∧ ∀ i, i < 372 → μ9 28 0 0 (2604 + i) = μ 29 0 0 i)
theorem t_read128 {P : Option Value → St → Prop} {X : String → St → Prop} (μ : St) (y1 : Bool) {c E : Nat} (hc : c < 8) (e : μ 10 0 0 4 = nI c) (e16 : μ 10 0 0 16 = nI E) (hP : P (some (.int (nI E))) (up (cpR μ 28 (372 * c) (fun i => μ 29 0 0 i) 372) 10 0 0 4 (nI (c + 1)))) : VL G mX8_read P X 128 [(0, .ref (zad G.1 10 0 0)), (1, .int (bI y1)), (2, .int (nI 0))] [] μ := by
  have T : ∀ d i, i + d = 372 → VL G mX8_read P X 128 [(0, .ref (zad G.1 10 0 0)), (1, .int (bI y1)), (2, .int (nI i))] [] (cpR μ 28 (372 * c) (fun i => μ 29 0 0 i) i) := by
    intro d
    induction d with
    | zero =>
      intro i hi
      obtain rfl : i = 372 := by omega
      apply wX8_read_128
      refine ⟨fun _ => ?_, fun h => absurd ((nI_leI (by omega) (by omega)).mpr (Nat.le_refl _)) h⟩
      rw [cpR_k (by decide), cpR_k (by decide), e, e16, nI_add]
      exact hP
    | succ d ih =>
      intro i hi
      apply wX8_read_128
      refine ⟨fun h => absurd ((nI_leI (by omega) (by omega)).mp h) (by omega), fun _ => ⟨by omega, 372 * c + i, ?_, by omega, ?_⟩⟩
      · rw [cpR_k (by decide), e, pk_mul, nI_add]
      · have := ih (i + 1) (by omega)
        rw [← cpR_up μ 28 (372 * c) (fun i => μ 29 0 0 i) i] at this
        rw [cpR_k (by decide)]
        exact this
  have := T 372 0 (by omega)
  rw [cpR_0] at this
  exact this
theorem t_readend {P : Option Value → St → Prop} {X : String → St → Prop} (μ : St) (y1 : Bool) {c E : Nat} (hc : c ≤ 8) (hE : E < 60) (e : μ 10 0 0 4 = nI c) (e16 : μ 10 0 0 16 = nI E) (hP : ∀ μ9, KrP μ μ9 c → P (some (.int (nI E))) μ9) : VL G mX8_read P X 44 [(0, .ref (zad G.1 10 0 0)), (1, .int (bI y1)), (2, .int (nI E))] [] μ := by
  apply wX8_read_44
  rw [e16]
  refine ⟨fun _ => ⟨fun h => ?_, fun h => ?_⟩, fun z => absurd ((nI_leI (by omega) (by omega)).mpr (Nat.le_refl _)) z⟩
  · have hc8 : c < 8 := by
      rcases Nat.lt_or_ge c 8 with h1 | h1
      · exact h1
      · exact absurd (by rw [e]; congr 1; omega) h
    refine t_read128 G μ y1 hc8 e e16 (hP _ ⟨fun k b i s h1 h2 => ?_, ?_, fun _ => ⟨fun j hj => ?_, fun i hi => ?_⟩, fun h1 => absurd h1 (by omega)⟩)
    · by_cases hk : k = 10
      · rw [up_sl (h2 hk), cpR_k h1]
      · rw [up_k hk, cpR_k h1]
    · rw [up_self]; congr 1; omega
    · rw [up_k (by decide), cpR_no (by omega)]
    · rw [up_k (by decide), cpR_at (by omega) (by omega), Nat.add_sub_cancel_left]
  · have hc8 : c = 8 := nI_inj (by omega) (by decide) (e.symm.trans h)
    subst hc8
    have T : ∀ d i, i + d = 2604 → VL G mX8_read P X 87 [(0, .ref (zad G.1 10 0 0)), (1, .int (bI y1)), (2, .int (nI i))] [] (cpR μ 28 0 (fun j => μ 28 0 0 (j + 372)) i) := by
      intro d
      induction d with
      | zero =>
        intro i hi
        obtain rfl : i = 2604 := by omega
        apply wX8_read_87
        refine ⟨fun _ => ?_, fun h => absurd ((nI_leI (by omega) (by omega)).mpr (Nat.le_refl _)) h⟩
        rw [cpR_k (by decide), e, nI_sub (by decide)]
        refine t_read128 G _ y1 (c := 7) (by decide) (up_self _ _ _ _ _ _) (E := E) (by rw [up_sl (by decide), cpR_k (by decide)]; exact e16) (hP _ ⟨fun k b i s h1 h2 => ?_, ?_, fun h1 => absurd h1 (by decide), fun _ => ⟨fun j hj => ?_, fun i hi => ?_⟩⟩)
        · by_cases hk : k = 10
          · rw [up_sl (h2 hk), cpR_k h1, up_sl (h2 hk), cpR_k h1]
          · rw [up_k hk, cpR_k h1, up_k hk, cpR_k h1]
        · rw [up_self]; rfl
        · rw [up_k (by decide), cpR_no (by omega), up_k (by decide), cpR_at (by omega) (by omega)]; rfl
        · rw [up_k (by decide), cpR_at (by omega) (by omega), show 2604 + i - 372 * 7 = i by omega]
          show up _ _ _ _ _ _ 29 0 0 i = _
          rw [up_k (by decide), cpR_k (by decide)]
      | succ d ih =>
        intro i hi
        apply wX8_read_87
        refine ⟨fun h => absurd ((nI_leI (by omega) (by omega)).mp h) (by omega), fun _ => ⟨by omega, by omega, ?_⟩⟩
        have := ih (i + 1) (by omega)
        rw [← cpR_up0 μ 28 (fun j => μ 28 0 0 (j + 372)) i] at this
        rw [cpR_no (by omega)]
        exact this
    have := T 2604 0 (by omega)
    rw [cpR_0] at this
    exact this
end MR
