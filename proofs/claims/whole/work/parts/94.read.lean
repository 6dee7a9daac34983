/-! ===== reading a text: both do the same ===== -/
section RD
variable {μ : St} {W nl np ng x c : Nat}
/-- what the class's entries leave -/
theorem tr_o {t : Nat → Int32} {n E : Nat} (hE : TxOk t n E) : ∀ d i ng (x : St) W r xf ngf, i + d = E → W + 3 * d < 2 ^ 30 → Rok x 0 nl np ng W → isN (x 2 0 0 7) 0 1000 → Tr t n nl np d i ng x r xf ngf → (∀ k b i s, ¬ (b = 0 ∧ (k = 2 ∨ k = 3 ∨ k = 6 ∨ k = 7)) → ¬ (k = 5 ∧ 2 ≤ s) → xf k b i s = x k b i s) ∧ Rok xf 0 nl np ngf (W + 3 * d) ∧ isN (xf 2 0 0 7) 0 1000 ∧ (r = -1 ∨ ∃ m, m ≤ 7 ∧ r = nI m) := by
  intro d
  induction d with
  | zero =>
    intro i ng x W r xf ngf hi hW hR ht hTr
    obtain ⟨rfl, rfl, rfl⟩ := hTr
    exact ⟨fun _ _ _ _ _ _ => rfl, hR, ht, Or.inr ⟨0, by decide, rfl⟩⟩
  | succ d ih =>
    intro i ng x W r xf ngf hi hW hR ht hTr
    obtain ⟨x', r1, y, ng', hk5, hD, hc⟩ := hTr
    have hok := hE.2.1 i (by omega)
    have hR' : Rok x' 0 nl np ng W := hR.congr (fun s _ _ => hk5 _ _ _ _ (by omega)) (fun l s _ _ => hk5 _ _ _ _ (by omega)) (fun l s _ _ => hk5 _ _ _ _ (by omega)) (fun l s _ _ => hk5 _ _ _ _ (by omega))
    have ht' : isN (x' 2 0 0 7) 0 1000 := by rw [hk5 _ _ _ _ (by omega)]; exact ht
    obtain ⟨d1, d2, d3⟩ := de_ok (by omega) (en_ok hok) hR' ht' hD
    rcases hc with ⟨-, hTr⟩ | ⟨-, rfl, rfl, rfl⟩
    · obtain ⟨a1, a2, a3, a4⟩ := ih (i + 1) ng' y (W + 3) r xf ngf (by omega) (by omega) d1 d2 hTr
      exact ⟨fun k b i s h1 h2 => by rw [a1 k b i s h1 h2, d3 k b i s h1, hk5 k b i s h2], a2.mono (by omega), a3, a4⟩
    · refine ⟨fun k b i s h1 h2 => by rw [d3 k b i s h1, hk5 k b i s h2], d1.mono (by omega), d2, ?_⟩
      rcases hD with ⟨-, ⟨-, e, -⟩ | ⟨-, e, -⟩⟩ | ⟨-, -, ⟨g, l, -, -, -, -, ⟨-, e, -⟩ | ⟨-, e, -⟩⟩ | ⟨-, e, -⟩⟩ | ⟨-, -, ⟨g, l, -, -, -, -, ⟨-, e, -⟩ | ⟨-, e, -⟩⟩ | ⟨-, e, -⟩⟩ | ⟨-, -, m, -, -, -, ⟨-, e, -⟩ | ⟨-, e, -⟩⟩ | ⟨-, -, e, -⟩
      · exact Or.inr ⟨0, by decide, e⟩
      · exact Or.inl e
      · exact Or.inr ⟨0, by decide, e⟩
      · obtain ⟨q, q1, q2⟩ := qrF_n x' 0 g l ng
        exact Or.inr ⟨q, by omega, e.trans q2⟩
      · exact Or.inl e
      · exact Or.inr ⟨0, by decide, e⟩
      · obtain ⟨q, q1, q2⟩ := srF_n x' 0 g l
        exact Or.inr ⟨q, by omega, e.trans q2⟩
      · exact Or.inl e
      · exact Or.inr ⟨0, by decide, e⟩
      · exact Or.inl e
      · exact Or.inr ⟨0, by decide, e⟩
variable (G : Gl)
/-- the reference has read a text and lays its row aside -/
theorem read_ok {M : St} {t : Nat → Int32} {n E : Nat} (hTm : Tm M t n) (hE : TxOk t n E) {P : Option Value → St → Prop} (next : ∀ μ8, (∀ k b i s, k ≠ 29 → k ≠ 32 → k ≠ 33 → k ≠ 34 → ¬ (k = 10 ∧ (s = 6 ∨ s = 10 ∨ s = 12 ∨ s = 13 ∨ s = 16)) → μ8 k b i s = M k b i s) → (∀ i, i < 372 → μ8 29 0 0 i = row M i) → μ8 10 0 0 16 = nI E → μ8 10 0 0 10 = nI 0 → μ8 10 0 0 6 = nI 0 → (∀ e, e < E → μ8 32 0 0 e = hr t n (pC t n e) ∧ μ8 33 0 0 e = pA t n (pC t n e) ∧ μ8 34 0 0 e = pB t n (pC t n e)) → VL G mX8_read P noX 44 [(0, .ref (zad G.1 10 0 0)), (1, .int (bI true)), (2, .int (nI 0))] [] μ8) : Con G mX8_read [.ref (zad G.1 10 0 0)] M P noX := by
  apply wX8_read
  have hTm' : Tm (up M 10 0 0 6 (nI 0)) t n := hTm.of (up_sl (by decide)) (fun j => up_k (by decide))
  refine (s_X8_isText G hTm').mono (fun v μ6 hp => ?_) (fun _ _ hp => hp)
  obtain ⟨k6, ⟨rfl, E', hE', e16, rows⟩ | ⟨rfl, E', hE', -⟩⟩ := hp
  · obtain rfl := hE'.uni hE
    refine ⟨true, rfl, fun _ => ?_, fun w => (by cases w)⟩
    refine (s_X8_layAside G (up μ6 10 0 0 10 (nI 0))).mono (fun v μ8 hp => ⟨hp.1, ?_⟩) (fun _ _ hp => hp)
    obtain ⟨-, rfl⟩ := hp
    have e6 : ∀ k b i s, ¬ (k = 10 ∧ (s = 6 ∨ s = 12 ∨ s = 13 ∨ s = 16)) → k ≠ 32 → k ≠ 33 → k ≠ 34 → μ6 k b i s = M k b i s := fun k b i s h1 h2 h3 h4 => by
      rw [k6 k b i s (by omega) h2 h3 h4]
      unfold up
      rw [if_neg (by omega)]
    refine next _ (fun k b i s h1 h2 h3 h4 h5 => ?_) (fun i hi => ?_) ?_ ?_ ?_ (fun e he => ?_)
    · rw [cpR_k h1]
      rw [show ∀ (y : St) w, up y 10 0 0 10 w k b i s = y k b i s from fun y w => by unfold up; rw [if_neg (by omega)]]
      exact e6 k b i s (by omega) h2 h3 h4
    · rw [cpR_at (by omega) (by omega), Nat.sub_zero]
      show up _ _ _ _ _ _ 26 0 0 i = _
      rw [up_k (by decide)]
      exact e6 26 0 0 i (by omega) (by decide) (by decide) (by decide)
    · rw [cpR_k (by decide), up_sl (by decide), e16]
    · rw [cpR_k (by decide), up_self]
    · rw [cpR_k (by decide), up_sl (by decide), k6 10 0 0 6 (by omega) (by decide) (by decide) (by decide), up_self]
    · rw [cpR_k (by decide), cpR_k (by decide), cpR_k (by decide), up_k (by decide), up_k (by decide), up_k (by decide)]
      exact rows e he
  · exact absurd (hE.bad hE') (fun z => z)
theorem op_read (hI : Inv μ W) (hW : W + 64 < 2 ^ 30) : Opn G mX7_read mX8_read [] W [eIAE, eISE] μ := by
  obtain ⟨i1, i2, ⟨x, c, hH⟩, i4, i5, t, n, hTc, hTm⟩ := hI
  have hI : Inv μ W := ⟨i1, i2, ⟨x, c, hH⟩, i4, i5, t, n, hTc, hTm⟩
  obtain ⟨nl, np, ng, hR, h, ht⟩ := i1
  have hn60 := hTc.2.1
  apply wX7_read
  refine (s_X3_isText G hTc).mono (fun v μ1 hp => ?_) (fun _ _ hp => absurd hp (fun z => z))
  obtain ⟨k1, ⟨rfl, E, hE, e3⟩ | ⟨rfl, E, hE, e2⟩⟩ := hp
  · -- a text
    have hE3 := pC_3 hE.2.1 E (Nat.le_refl _)
    have hEn := pC_c (t := t) (n := n) E
    have hE20 : E ≤ 20 := by omega
    refine ⟨true, rfl, fun _ => ?_, fun w => (by cases w)⟩
    have hC1 : Cnt μ1 0 nl np ng := by
      have := hR.1
      unfold Cnt at this ⊢
      rw [k1 _ _ _ _ (by omega), k1 _ _ _ _ (by omega), k1 _ _ _ _ (by omega)]; exact this
    refine (s_X0_copyFrom G (b := 1) (c := 0) (by decide) (by decide) (by decide) hC1).mono (fun v μ2 hp => ⟨hp.1, ?_⟩) (fun _ _ hp => hp)
    obtain ⟨-, hcp⟩ := hp
    rw [e3]
    apply wX7_doEntries
    -- where the entries begin
    have ex : ∀ k b i s, b ≠ 1 → ¬ (k = 5 ∧ 2 ≤ s) → up μ2 5 0 0 2 (nI 0) k b i s = μ k b i s := fun k b i s hb hk => by
      rw [show ∀ (y : St) w, up y 5 0 0 2 w k b i s = y k b i s from fun y w => by unfold up; rw [if_neg (by omega)], hcp.1 k b i s hb, k1 k b i s hk]
    have ex1 : ∀ k i s, k ≠ 2 → k ≠ 3 → k ≠ 6 → k ≠ 7 → ¬ (k = 5 ∧ 2 ≤ s) → up μ2 5 0 0 2 (nI 0) k 1 i s = μ k 1 i s := fun k i s h2 h3 h6 h7 hk => by
      rw [show ∀ (y : St) w, up y 5 0 0 2 w k 1 i s = y k 1 i s from fun y w => by unfold up; rw [if_neg (by omega)], hcp.2.1 k i s h2 h3 h6 h7, k1 k 1 i s hk]
    have hxa : ∀ k i s, k = 2 ∨ k = 3 ∨ k = 6 ∨ k = 7 → up μ2 5 0 0 2 (nI 0) k 1 i s = μ2 k 1 i s := fun k i s hk => by unfold up; rw [if_neg (by omega)]
    have hx5 : up μ2 5 0 0 2 (nI 0) 5 0 0 2 = nI 0 := up_self _ _ _ _ _ _
    generalize up μ2 5 0 0 2 (nI 0) = X at ex ex1 hxa hx5 ⊢
    have hRx : Rok X 0 nl np ng W := hR.congr (fun s _ _ => ex _ _ _ _ (by decide) (by omega)) (fun l s _ _ => ex _ _ _ _ (by decide) (by omega)) (fun l s _ _ => ex _ _ _ _ (by decide) (by omega)) (fun l s _ _ => ex _ _ _ _ (by decide) (by omega))
    have hLx : Rel X 0 nl np ng (row μ) := h.congr (fun s _ _ => ex _ _ _ _ (by decide) (by omega)) (fun l s _ _ => ex _ _ _ _ (by decide) (by omega)) (fun l s _ _ => ex _ _ _ _ (by decide) (by omega)) (fun l s _ _ => ex _ _ _ _ (by decide) (by omega)) (fun _ _ => rfl)
    have htx : isN (X 2 0 0 7) 0 1000 := by rw [ex _ _ _ _ (by decide) (by omega)]; exact ht
    have hTx : Tc X t n := ⟨by rw [ex _ _ _ _ (by decide) (by omega)]; exact hTc.1, hn60, fun j hj => by rw [ex _ _ _ _ (by decide) (by omega)]; exact hTc.2.2.1 j hj, hTc.2.2.2⟩
    -- the area before is as area 0 was
    have hA1 : ∀ {Y : St}, (∀ k i s, k = 2 ∨ k = 3 ∨ k = 6 ∨ k = 7 → Y k 1 i s = X k 1 i s) → Rok Y 1 nl np ng W ∧ Rel Y 1 nl np ng (row μ) ∧ isN (Y 2 1 0 7) 0 1000 := fun {Y} hY => by
      obtain ⟨-, -, c2, c6, c7, c3⟩ := hcp
      have g2 : ∀ s, 3 ≤ s → s < 9 → Y 2 1 0 s = μ 2 0 0 s := fun s s1 s2 => by rw [hY _ _ _ (by omega), hxa _ _ _ (by omega), c2 s s1 s2, k1 _ _ _ _ (by omega)]
      have g6 : ∀ l s, l < nl → s < 10 → Y 6 1 l s = μ 6 0 l s := fun l s hl hs => by rw [hY _ _ _ (by omega), hxa _ _ _ (by omega), c6 l hl s hs, k1 _ _ _ _ (by omega)]
      have g7 : ∀ l s, l < np → s < 8 → Y 7 1 l s = μ 7 0 l s := fun l s hl hs => by rw [hY _ _ _ (by omega), hxa _ _ _ (by omega), c7 l hl s hs, k1 _ _ _ _ (by omega)]
      have g3 : ∀ l s, l < ng → s < 11 → Y 3 1 l s = μ 3 0 l s := fun l s hl hs => by rw [hY _ _ _ (by omega), hxa _ _ _ (by omega), c3 l hl s hs, k1 _ _ _ _ (by omega)]
      exact ⟨hR.congr g2 g6 g7 g3, h.congr g2 g6 g7 g3 (fun _ _ => rfl), by rw [g2 7 (by decide) (by decide)]; exact ht⟩
    refine t_doEntries G hE hE20 E 0 ng X W (by omega) (by omega) hTx hx5 hRx htx (fun r xf ngf hTr => ?_)
    obtain ⟨o1, o2, o3, o4⟩ := tr_o hE E 0 ng X W r xf ngf (by omega) (by omega) hRx htx hTr
    refine ⟨r, rfl, wX3_becomeEmpty G xf ⟨rfl, ?_⟩⟩
    -- the class's store with an empty input
    have e4 : ∀ k b i s, ¬ (b = 0 ∧ (k = 2 ∨ k = 3 ∨ k = 6 ∨ k = 7)) → ¬ (k = 5 ∧ 1 ≤ s) → up xf 5 0 0 1 (nI 0) k b i s = X k b i s := fun k b i s h1 h2 => by
      rw [show ∀ (y : St) w, up y 5 0 0 1 w k b i s = y k b i s from fun y w => by unfold up; rw [if_neg (by omega)], o1 k b i s h1 (by omega)]
    have e4a : ∀ k i s, k = 2 ∨ k = 3 ∨ k = 6 ∨ k = 7 → up xf 5 0 0 1 (nI 0) k 0 i s = xf k 0 i s := fun k i s hk => by unfold up; rw [if_neg (by omega)]
    have e41 : up xf 5 0 0 1 (nI 0) 5 0 0 1 = nI 0 := up_self _ _ _ _ _ _
    generalize up xf 5 0 0 1 (nI 0) = Z at e4 e4a e41 ⊢
    have eZ : ∀ k b i s, k ≠ 2 → k ≠ 3 → k ≠ 6 → k ≠ 7 → ¬ (k = 5 ∧ 1 ≤ s) → Z k b i s = μ k b i s := fun k b i s h2 h3 h6 h7 h5 => by
      rw [e4 k b i s (by omega) h5]
      by_cases hb : b = 1
      · subst hb; exact ex1 k i s h2 h3 h6 h7 (by omega)
      · exact ex k b i s hb (by omega)
    have eZ2 : ∀ k b i s, b ≠ 0 → b ≠ 1 → ¬ (k = 5 ∧ 1 ≤ s) → Z k b i s = μ k b i s := fun k b i s h0 h1 h5 => by
      rw [e4 k b i s (by omega) h5, ex k b i s h1 (by omega)]
    obtain ⟨hRz, hLz, htz⟩ := hA1 (Y := Z) (fun k i s hk => e4 k 1 i s (by omega) (by omega))
    have hHz : HR Z W x c := hH.congr (fun y k i s hy hk => eZ2 _ _ _ _ (by omega) (by omega) (by omega)) (fun s => eZ _ _ _ _ (by decide) (by decide) (by decide) (by decide) (by omega)) (eZ _ _ _ _ (by decide) (by decide) (by decide) (by decide) (by omega)) (fun i => eZ _ _ _ _ (by decide) (by decide) (by decide) (by decide) (by omega))
    refine ⟨fun hr0 => ?_, fun hr0 => ?_⟩
    · -- done: the area before is remembered
      refine (s_X2_remember G (b := 1) (by decide) hRz.1 hHz.1.1 hHz.1.2 hHz.2.1 hHz.2.2.1).mono (fun v μ5 hp => ⟨hp.1, _, rfl, ?_⟩) (fun _ _ hp => hp)
      obtain ⟨-, μa, hpa, rfl⟩ := hp
      have e5 : ∀ k b i s, b ≠ x + 3 → ¬ (k = 4 ∧ (s = 1 ∨ s = 2)) → up (up μa 4 0 0 1 (nI ((x + 1) % 8))) 4 0 0 2 (nI (min (c + 1) 8)) k b i s = Z k b i s := fun k b i s hb hk => by
        rw [show ∀ (y : St) w, up y 4 0 0 2 w k b i s = y k b i s from fun y w => by unfold up; rw [if_neg (by omega)], show ∀ (y : St) w, up y 4 0 0 1 w k b i s = y k b i s from fun y w => by unfold up; rw [if_neg (by omega)], hpa.1 k b i s hb]
      have e5h : ∀ y k i s, k = 2 ∨ k = 3 ∨ k = 6 ∨ k = 7 → up (up μa 4 0 0 1 (nI ((x + 1) % 8))) 4 0 0 2 (nI (min (c + 1) 8)) k (y + 3) i s = μa k (y + 3) i s := fun y k i s hk => by
        rw [show ∀ (y' : St) w, up y' 4 0 0 2 w k (y + 3) i s = y' k (y + 3) i s from fun y w => by unfold up; rw [if_neg (by omega)], show ∀ (y' : St) w, up y' 4 0 0 1 w k (y + 3) i s = y' k (y + 3) i s from fun y w => by unfold up; rw [if_neg (by omega)]]
      have e51 : up (up μa 4 0 0 1 (nI ((x + 1) % 8))) 4 0 0 2 (nI (min (c + 1) 8)) 4 0 0 1 = nI ((x + 1) % 8) := by rw [up_sl (by decide), up_self]
      have e52 : up (up μa 4 0 0 1 (nI ((x + 1) % 8))) 4 0 0 2 (nI (min (c + 1) 8)) 4 0 0 2 = nI (min (c + 1) 8) := up_self _ _ _ _ _ _
      generalize up (up μa 4 0 0 1 (nI ((x + 1) % 8))) 4 0 0 2 (nI (min (c + 1) 8)) = M at e5 e5h e51 e52 ⊢
      have eM : ∀ k i s, k ≠ 2 → k ≠ 3 → k ≠ 6 → k ≠ 7 → ¬ (k = 5 ∧ 1 ≤ s) → ¬ (k = 4 ∧ (s = 1 ∨ s = 2)) → M k 0 i s = μ k 0 i s := fun k i s h2 h3 h6 h7 h5 h4 => by
        rw [e5 k 0 i s (by omega) h4, eZ k 0 i s h2 h3 h6 h7 h5]
      have rM : row M = row μ := funext fun j => eM 26 0 j (by decide) (by decide) (by decide) (by decide) (by omega) (by omega)
      have hTmM : Tm M t n := hTm.of (eM _ _ _ (by decide) (by decide) (by decide) (by decide) (by omega) (by omega)) (fun j => eM _ _ _ (by decide) (by decide) (by decide) (by decide) (by omega) (by omega))
      refine read_ok G hTmM hE (fun μ8 f8 a8 e16 e10 e6 rows => ?_)
      have r8 : row μ8 = row μ := by rw [← rM]; exact funext fun j => f8 26 0 0 j (by decide) (by decide) (by decide) (by decide) (by omega)
      refine t_reads G hE hE20 e16 rows true (r := r) (xf := xf) (ngf := ngf) (fun _ μ9 m9 n9 l9 => ?_) (fun w => absurd hr0 w) E 0 ng X μ8 W (by omega) (by omega) hRx htx (by rw [r8]; exact hLx) (fun _ _ _ _ _ _ => rfl) rfl hTr
      have q4 : μ9 10 0 0 4 = nI c := by rw [m9 _ _ _ _ (by decide) (by omega), f8 _ _ _ _ (by decide) (by decide) (by decide) (by decide) (by omega), eM _ _ _ (by decide) (by decide) (by decide) (by decide) (by omega) (by omega), hH.2.2.2.1]
      refine t_readend G μ9 true hH.1.2 (by omega) q4 (by rw [m9 _ _ _ _ (by decide) (by omega), e16]) (fun μ10 hk => ?_)
      obtain ⟨s1, s2, s3, s4⟩ := hk
      -- the end against the class's store, and against the beginning
      have z8 : ∀ k b i s, k ≠ 26 → k ≠ 28 → k ≠ 29 → k ≠ 32 → k ≠ 33 → k ≠ 34 → ¬ (k = 10 ∧ (s = 4 ∨ s = 5 ∨ s = 6 ∨ s = 7 ∨ s = 10 ∨ s = 12 ∨ s = 13 ∨ s = 16)) → μ10 k b i s = M k b i s := fun k b i s h26 h28 h29 h32 h33 h34 h10 => by
        rw [s1 k b i s h28 (by omega), m9 k b i s h26 (by omega), f8 k b i s h29 h32 h33 h34 (by omega)]
      have z0 : ∀ k i s, k ≠ 26 → k ≠ 28 → k ≠ 29 → k ≠ 32 → k ≠ 33 → k ≠ 34 → ¬ (k = 10 ∧ (s = 4 ∨ s = 5 ∨ s = 6 ∨ s = 7 ∨ s = 10 ∨ s = 12 ∨ s = 13 ∨ s = 16)) → k ≠ 2 → k ≠ 3 → k ≠ 6 → k ≠ 7 → ¬ (k = 5 ∧ 1 ≤ s) → ¬ (k = 4 ∧ (s = 1 ∨ s = 2)) → μ10 k 0 i s = μ k 0 i s := fun k i s h26 h28 h29 h32 h33 h34 h10 h2 h3 h6 h7 h5 h4 => by
        rw [z8 k 0 i s h26 h28 h29 h32 h33 h34 h10, eM k i s h2 h3 h6 h7 h5 h4]
      have q10 : ∀ s, s = 5 → μ10 10 0 0 s = μ 10 0 0 s := fun s hs => by
        subst hs
        rw [s1 _ _ _ _ (by decide) (by omega), n9, f8 _ _ _ _ (by decide) (by decide) (by decide) (by decide) (by omega), eM _ _ _ (by decide) (by decide) (by decide) (by decide) (by omega) (by omega)]
      have a0 : ∀ k i s, k = 2 ∨ k = 3 ∨ k = 6 ∨ k = 7 → μ10 k 0 i s = xf k 0 i s := fun k i s hk => by
        rw [z8 k 0 i s (by omega) (by omega) (by omega) (by omega) (by omega) (by omega) (by omega), e5 k 0 i s (by omega) (by omega), e4a k i s hk]
      have r10 : row μ10 = row μ9 := funext fun j => s1 26 0 0 j (by decide) (by omega)
      have p28 : ∀ j, μ9 28 0 0 j = Z 28 0 0 j := fun j => by rw [m9 _ _ _ _ (by decide) (by omega), f8 _ _ _ _ (by decide) (by decide) (by decide) (by decide) (by omega), e5 _ _ _ _ (by omega) (by omega)]
      have p29 : ∀ i, i < 372 → μ9 29 0 0 i = row μ i := fun i hi => by rw [m9 _ _ _ _ (by decide) (by omega), a8 i hi, rM]
      refine ⟨_, rfl, ⟨⟨nl, np, ngf, ?_, ?_, ?_⟩, ?_, ⟨(x + 1) % 8, min (c + 1) 8, ?_⟩, ?_, ?_, t, 0, ⟨?_, by decide, fun j hj => absurd hj (by omega), fun j hj => absurd hj (by omega)⟩, ⟨?_, by decide, fun j hj => absurd hj (by omega), fun j hj => absurd hj (by omega)⟩⟩, ?_, fun _ => rfl⟩
      · exact (o2.mono (by omega)).congr (fun s _ _ => a0 _ _ _ (by omega)) (fun l s _ _ => a0 _ _ _ (by omega)) (fun l s _ _ => a0 _ _ _ (by omega)) (fun l s _ _ => a0 _ _ _ (by omega))
      · rw [r10]
        exact l9.congr (fun s _ _ => a0 _ _ _ (by omega)) (fun l s _ _ => a0 _ _ _ (by omega)) (fun l s _ _ => a0 _ _ _ (by omega)) (fun l s _ _ => a0 _ _ _ (by omega)) (fun _ _ => rfl)
      · rw [a0 _ _ _ (by omega)]; exact o3
      · refine sav_same hI (fun k i s hk => ?_) ?_ ?_ (fun i => ?_) (by omega)
        · rw [z8 k 2 i s (by omega) (by omega) (by omega) (by omega) (by omega) (by omega) (by omega), e5 k 2 i s (by omega) (by omega), eZ2 k 2 i s (by decide) (by decide) (by omega)]
        · exact z0 _ _ _ (by decide) (by decide) (by decide) (by decide) (by decide) (by decide) (by omega) (by decide) (by decide) (by decide) (by decide) (by omega) (by omega)
        · exact z0 _ _ _ (by decide) (by decide) (by decide) (by decide) (by decide) (by decide) (by omega) (by decide) (by decide) (by decide) (by decide) (by omega) (by omega)
        · exact z0 _ _ _ (by decide) (by decide) (by decide) (by decide) (by decide) (by decide) (by omega) (by decide) (by decide) (by decide) (by decide) (by omega) (by omega)
      · refine HR.mono (HR.keep (μa := μa) hHz (b := 1) (by decide) hRz hLz htz hpa (fun y k i s hy hk => ?_) ?_ ?_ ?_ (fun hc => ?_) (fun hc => ?_)) (by omega)
        · rw [z8 k (y + 3) i s (by omega) (by omega) (by omega) (by omega) (by omega) (by omega) (by omega), e5h y k i s hk]
        · rw [z8 4 0 0 1 (by decide) (by decide) (by decide) (by decide) (by decide) (by decide) (by omega), e51]
        · rw [z8 4 0 0 2 (by decide) (by decide) (by decide) (by decide) (by decide) (by decide) (by omega), e52]
        · exact s2
        · obtain ⟨a, b⟩ := s3 hc
          exact ⟨fun j hj => by rw [a j hj, p28], fun i hi => by rw [b i hi, p29 i hi]⟩
        · obtain ⟨a, b⟩ := s4 hc
          exact ⟨fun j hj => by rw [a j hj, p28], fun i hi => by rw [b i hi, p29 i hi]⟩
      · rw [q10 5 rfl, z0 9 0 7 (by decide) (by decide) (by decide) (by decide) (by decide) (by decide) (by omega) (by decide) (by decide) (by decide) (by decide) (by omega) (by omega)]; exact i4
      · rw [z0 9 0 8 (by decide) (by decide) (by decide) (by decide) (by decide) (by decide) (by omega) (by decide) (by decide) (by decide) (by decide) (by omega) (by omega), z0 10 0 14 (by decide) (by decide) (by decide) (by decide) (by decide) (by decide) (by omega) (by decide) (by decide) (by decide) (by decide) (by omega) (by omega), z0 10 0 15 (by decide) (by decide) (by decide) (by decide) (by decide) (by decide) (by omega) (by decide) (by decide) (by decide) (by decide) (by omega) (by omega)]; exact i5
      · rw [z8 5 0 0 1 (by decide) (by decide) (by decide) (by decide) (by decide) (by decide) (by omega), e5 5 0 0 1 (by omega) (by omega), e41]
      · rw [s1 10 0 0 10 (by decide) (by omega), m9 10 0 0 10 (by decide) (by omega), e10]
      · rw [s1 10 0 0 6 (by decide) (by omega), m9 10 0 0 6 (by decide) (by omega), e6]
    · -- an entry can't be done: the area before comes back
      refine (s_X0_copyFrom G (b := 0) (c := 1) (by decide) (by decide) (by decide) hRz.1).mono (fun v μ6 hp => ⟨hp.1, ?_⟩) (fun _ _ hp => hp)
      obtain ⟨-, hp6⟩ := hp
      have go : ∀ M, (∀ k b i s, ¬ (k = 9 ∧ s = 7) → M k b i s = μ6 k b i s) → M 9 0 0 7 = (if r = -1 then μ 9 0 0 7 else r) → Mc G mX8_read [] W (1 + 1) (nI 0) M := fun M eM6 eM7 => by
        have eM : ∀ k i s, k ≠ 2 → k ≠ 3 → k ≠ 6 → k ≠ 7 → ¬ (k = 5 ∧ 1 ≤ s) → ¬ (k = 9 ∧ s = 7) → M k 0 i s = μ k 0 i s := fun k i s h2 h3 h6 h7 h5 h9 => by
          rw [eM6 k 0 i s h9, hp6.2.1 k i s h2 h3 h6 h7, eZ k 0 i s h2 h3 h6 h7 h5]
        have rM : row M = row μ := funext fun j => eM 26 0 j (by decide) (by decide) (by decide) (by decide) (by omega) (by omega)
        have hTmM : Tm M t n := hTm.of (eM _ _ _ (by decide) (by decide) (by decide) (by decide) (by omega) (by omega)) (fun j => eM _ _ _ (by decide) (by decide) (by decide) (by decide) (by omega) (by omega))
        refine read_ok G hTmM hE (fun μ8 f8 a8 e16 e10 e6 rows => ?_)
        have r8 : row μ8 = row μ := by rw [← rM]; exact funext fun j => f8 26 0 0 j (by decide) (by decide) (by decide) (by decide) (by omega)
        refine t_reads G hE hE20 e16 rows true (r := r) (xf := xf) (ngf := ngf) (fun w => absurd w hr0) (fun _ μ9 m9 n9 => ?_) E 0 ng X μ8 W (by omega) (by omega) hRx htx (by rw [r8]; exact hLx) (fun _ _ _ _ _ _ => rfl) rfl hTr
        generalize hμ10 : up (cpR μ9 26 0 (fun i => μ9 29 0 0 i) 372) 10 0 0 6 (nI 2) = μ10
        have z9 : ∀ k b i s, k ≠ 26 → ¬ (k = 10 ∧ s = 6) → μ10 k b i s = μ9 k b i s := fun k b i s h26 h10 => by
          rw [← hμ10]
          rw [show ∀ (y : St) w, up y 10 0 0 6 w k b i s = y k b i s from fun y w => by unfold up; rw [if_neg (by omega)], cpR_k h26]
        have z8 : ∀ k b i s, k ≠ 26 → k ≠ 29 → k ≠ 32 → k ≠ 33 → k ≠ 34 → ¬ (k = 10 ∧ (s = 5 ∨ s = 6 ∨ s = 7 ∨ s = 10 ∨ s = 12 ∨ s = 13 ∨ s = 16)) → μ10 k b i s = M k b i s := fun k b i s h26 h29 h32 h33 h34 h10 => by
          rw [z9 k b i s h26 (by omega), m9 k b i s h26 (by omega), f8 k b i s h29 h32 h33 h34 (by omega)]
        have z0 : ∀ k i s, k ≠ 26 → k ≠ 29 → k ≠ 32 → k ≠ 33 → k ≠ 34 → ¬ (k = 10 ∧ (s = 5 ∨ s = 6 ∨ s = 7 ∨ s = 10 ∨ s = 12 ∨ s = 13 ∨ s = 16)) → k ≠ 2 → k ≠ 3 → k ≠ 6 → k ≠ 7 → ¬ (k = 5 ∧ 1 ≤ s) → ¬ (k = 9 ∧ s = 7) → μ10 k 0 i s = μ k 0 i s := fun k i s h26 h29 h32 h33 h34 h10 h2 h3 h6 h7 h5 h9 => by
          rw [z8 k 0 i s h26 h29 h32 h33 h34 h10, eM k i s h2 h3 h6 h7 h5 h9]
        have r10 : ∀ i, i < 372 → row μ10 i = row μ i := fun i hi => by
          show μ10 26 0 0 i = _
          rw [← hμ10, up_k (by decide), cpR_at (by omega) (by omega), Nat.sub_zero, m9 29 0 0 i (by decide) (by omega), a8 i hi, rM]
        have zz : ∀ k b i s, b ≠ 0 → b ≠ 1 → k = 2 ∨ k = 3 ∨ k = 6 ∨ k = 7 → μ10 k b i s = μ k b i s := fun k b i s h0 h1 hk => by
          rw [z8 k b i s (by omega) (by omega) (by omega) (by omega) (by omega) (by omega), eM6 k b i s (by omega), hp6.1 k b i s h0, eZ2 k b i s h0 h1 (by omega)]
        have e5v : μ10 10 0 0 5 = (if r = -1 then μ 10 0 0 5 else r) := by
          rw [z9 _ _ _ _ (by decide) (by omega), n9, f8 _ _ _ _ (by decide) (by decide) (by decide) (by decide) (by omega), eM _ _ _ (by decide) (by decide) (by decide) (by decide) (by omega) (by omega)]
        refine ⟨_, rfl, ⟨?_, ?_, ⟨x, c, (hH.mono (by omega)).congr (fun y k i s hy hk => zz _ _ _ _ (by omega) (by omega) hk) (fun s => ?_) ?_ (fun i => ?_)⟩, ?_, ?_, t, 0, ⟨?_, by decide, fun j hj => absurd hj (by omega), fun j hj => absurd hj (by omega)⟩, ⟨?_, by decide, fun j hj => absurd hj (by omega), fun j hj => absurd hj (by omega)⟩⟩, ?_, fun z => (by cases z)⟩
        · exact (AR.copy hRz hLz htz hp6 (fun k i s hk => by rw [z8 k 0 i s (by omega) (by omega) (by omega) (by omega) (by omega) (by omega), eM6 k 0 i s (by omega)]) r10).mono (by omega)
        · refine sav_same hI (fun k i s hk => zz _ _ _ _ (by decide) (by decide) hk) ?_ ?_ (fun i => ?_) (by omega)
          · exact z0 _ _ _ (by decide) (by decide) (by decide) (by decide) (by decide) (by omega) (by decide) (by decide) (by decide) (by decide) (by omega) (by omega)
          · exact z0 _ _ _ (by decide) (by decide) (by decide) (by decide) (by decide) (by omega) (by decide) (by decide) (by decide) (by decide) (by omega) (by omega)
          · exact z0 _ _ _ (by decide) (by decide) (by decide) (by decide) (by decide) (by omega) (by decide) (by decide) (by decide) (by decide) (by omega) (by omega)
        · exact z0 _ _ _ (by decide) (by decide) (by decide) (by decide) (by decide) (by omega) (by decide) (by decide) (by decide) (by decide) (by omega) (by omega)
        · exact z0 _ _ _ (by decide) (by decide) (by decide) (by decide) (by decide) (by omega) (by decide) (by decide) (by decide) (by decide) (by omega) (by omega)
        · exact z0 _ _ _ (by decide) (by decide) (by decide) (by decide) (by decide) (by omega) (by decide) (by decide) (by decide) (by decide) (by omega) (by omega)
        · rw [e5v, z8 9 0 0 7 (by decide) (by decide) (by decide) (by decide) (by decide) (by omega), eM7, i4]
        · rw [z0 9 0 8 (by decide) (by decide) (by decide) (by decide) (by decide) (by omega) (by decide) (by decide) (by decide) (by decide) (by omega) (by omega), z0 10 0 14 (by decide) (by decide) (by decide) (by decide) (by decide) (by omega) (by decide) (by decide) (by decide) (by decide) (by omega) (by omega), z0 10 0 15 (by decide) (by decide) (by decide) (by decide) (by decide) (by omega) (by decide) (by decide) (by decide) (by decide) (by omega) (by omega)]; exact i5
        · rw [z8 5 0 0 1 (by decide) (by decide) (by decide) (by decide) (by decide) (by omega), eM6 5 0 0 1 (by omega), hp6.2.1 5 0 1 (by decide) (by decide) (by decide) (by decide), e41]
        · rw [z9 10 0 0 10 (by decide) (by omega), m9 10 0 0 10 (by decide) (by omega), e10]
        · rw [← hμ10, up_self]
      have e67 : μ6 9 0 0 7 = μ 9 0 0 7 := by rw [hp6.2.1 9 0 7 (by decide) (by decide) (by decide) (by decide), eZ 9 0 0 7 (by decide) (by decide) (by decide) (by decide) (by omega)]
      refine ⟨fun w => ⟨1, rfl, go μ6 (fun _ _ _ _ _ => rfl) (by rw [if_pos w]; exact e67)⟩, fun w => ⟨1, rfl, go (up μ6 9 0 0 7 r) (fun k b i s hk => by unfold up; rw [if_neg (by omega)]) (by rw [if_neg w, up_self])⟩⟩
  · -- no text
    refine ⟨false, rfl, fun w => (by cases w), fun _ => ?_⟩
    refine wX3_becomeEmpty G _ ⟨rfl, 0, rfl, ?_⟩
    have hpos : (pS t n (pC t n E)).2 ≤ n := (pS_c (pC_c E)).2.1
    rw [e2]
    generalize hM : up (up μ1 9 0 0 8 (nI (pS t n (pC t n E)).2)) 5 0 0 1 (nI 0) = M
    have eM : ∀ k b i s, ¬ (k = 5 ∧ 1 ≤ s) → ¬ (k = 9 ∧ s = 8) → M k b i s = μ k b i s := fun k b i s h5 h9 => by
      rw [← hM]
      rw [show ∀ (y : St) w, up y 5 0 0 1 w k b i s = y k b i s from fun y w => by unfold up; rw [if_neg (by omega)], show ∀ (y : St) w, up y 9 0 0 8 w k b i s = y k b i s from fun y w => by unfold up; rw [if_neg (by omega)], k1 k b i s (by omega)]
    have hTmM : Tm (up M 10 0 0 6 (nI 0)) t n := hTm.of (by rw [up_sl (by decide), eM _ _ _ _ (by omega) (by omega)]) (fun j => by rw [up_k (by decide), eM _ _ _ _ (by omega) (by omega)])
    apply wX8_read
    refine (s_X8_isText G hTmM).mono (fun v μ6 hp => ?_) (fun _ _ hp => hp)
    obtain ⟨k6, ⟨rfl, E', hE', -⟩ | ⟨rfl, E', hE', e12⟩⟩ := hp
    · exact absurd (hE'.bad hE) (fun z => z)
    · obtain rfl := hE'.uni hE
      refine ⟨false, rfl, fun w => (by cases w), fun _ => ?_⟩
      rw [e12]
      generalize hμ9 : up (up (up (up μ6 10 0 0 10 (nI 0)) 10 0 0 14 (nI 1)) 10 0 0 15 (nI (pS t n (pC t n E')).2)) 10 0 0 6 (nI 1) = μ9
      have e9 : ∀ k b i s, ¬ (k = 5 ∧ 1 ≤ s) → ¬ (k = 9 ∧ s = 8) → k ≠ 32 → k ≠ 33 → k ≠ 34 → ¬ (k = 10 ∧ (s = 6 ∨ s = 10 ∨ s = 12 ∨ s = 13 ∨ s = 14 ∨ s = 15 ∨ s = 16)) → μ9 k b i s = μ k b i s := fun k b i s h5 h9 h32 h33 h34 h10 => by
        rw [← hμ9]
        rw [show ∀ (y : St) w, up y 10 0 0 6 w k b i s = y k b i s from fun y w => by unfold up; rw [if_neg (by omega)], show ∀ (y : St) w, up y 10 0 0 15 w k b i s = y k b i s from fun y w => by unfold up; rw [if_neg (by omega)], show ∀ (y : St) w, up y 10 0 0 14 w k b i s = y k b i s from fun y w => by unfold up; rw [if_neg (by omega)], show ∀ (y : St) w, up y 10 0 0 10 w k b i s = y k b i s from fun y w => by unfold up; rw [if_neg (by omega)], k6 k b i s (by omega) h32 h33 h34]
        rw [show ∀ (y : St) w, up y 10 0 0 6 w k b i s = y k b i s from fun y w => by unfold up; rw [if_neg (by omega)], eM k b i s h5 h9]
      have e9m : ∀ k i s, k = 5 ∨ k = 9 → μ9 k 0 i s = M k 0 i s := fun k i s hk => by
        rw [← hμ9, up_k (by omega), up_k (by omega), up_k (by omega), up_k (by omega), k6 k 0 i s (by omega) (by omega) (by omega) (by omega), up_k (by omega)]
      have ee : ∀ k b i s, k = 2 ∨ k = 3 ∨ k = 4 ∨ k = 6 ∨ k = 7 ∨ k = 26 ∨ k = 27 ∨ k = 28 → μ9 k b i s = μ k b i s := fun k b i s hk => e9 k b i s (by omega) (by omega) (by omega) (by omega) (by omega) (by omega)
      refine ⟨_, rfl, ⟨(hI.1.mono (by omega)).congr (fun k i s hk => ee _ _ _ _ (by omega)) (fun i _ => ee _ _ _ _ (by omega)), sav_same hI (fun k i s hk => ee _ _ _ _ (by omega)) (e9 _ _ _ _ (by omega) (by omega) (by decide) (by decide) (by decide) (by omega)) (e9 _ _ _ _ (by omega) (by omega) (by decide) (by decide) (by decide) (by omega)) (fun i => ee _ _ _ _ (by omega)) (by omega), ⟨x, c, (hH.mono (by omega)).congr (fun y k i s hy hk => ee _ _ _ _ (by omega)) (fun s => ee _ _ _ _ (by omega)) (e9 _ _ _ _ (by omega) (by omega) (by decide) (by decide) (by decide) (by omega)) (fun i => ee _ _ _ _ (by omega))⟩, ?_, Or.inr ⟨(pS t n (pC t n E')).2, by omega, ?_, ?_, ?_⟩, t, 0, ⟨?_, by decide, fun j hj => absurd hj (by omega), fun j hj => absurd hj (by omega)⟩, ⟨?_, by decide, fun j hj => absurd hj (by omega), fun j hj => absurd hj (by omega)⟩⟩, ?_, fun z => (by cases z)⟩
      · rw [e9 9 0 0 7 (by omega) (by omega) (by decide) (by decide) (by decide) (by omega), e9 10 0 0 5 (by omega) (by omega) (by decide) (by decide) (by decide) (by omega)]; exact i4
      · rw [e9m 9 0 8 (by omega), ← hM, up_k (by decide), up_self]
      · rw [← hμ9, up_sl (by decide), up_sl (by decide), up_self]
      · rw [← hμ9, up_sl (by decide), up_self]
      · rw [e9m 5 0 1 (by omega), ← hM, up_self]
      · rw [← hμ9, up_sl (by decide), up_sl (by decide), up_sl (by decide), up_self]
      · rw [← hμ9, up_self]
end RD
