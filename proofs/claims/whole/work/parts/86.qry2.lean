/-! ===== the other questions ===== -/
theorem ld_n64 (a b : Int32) (hb : ¬ b = 0) : vf_n64 (FP.ddiv (FP.i2d a) (FP.i2d b)) := by
  have h := Jvm.FP.Core.ddiv_out (Jvm.FP.Core.DFin.notNaN (Jvm.FP.Core.i2d_fin a)) (Jvm.FP.Core.i2d_fin b) (fun z => Jvm.FP.Core.i2d_ne_zero hb ((Jvm.FP.Core.zero_bits2 _).mp z))
  have h2 := (Jvm.FP.Core.ne_nan _).mp ((Jvm.FP.Core.notNaN_iff _).mp h)
  unfold vf_n64
  rw [UInt64.le_iff_toNat_le]
  have h3 := Jvm.FP.Core.mask_toNat (FP.ddiv (FP.i2d a) (FP.i2d b))
  rw [h3]
  exact h2
section QRY2
variable {μ : St} {W nl np ng : Nat} (G : Gl)
theorem op_arrival (hI : Inv μ W) (hW : W < 2 ^ 30) (x1 : Int32) : Opn G mX7_arrival mX8_arrival [.int x1] W [eIOOB, eNSE] μ := by
  obtain ⟨nl, np, ng, hR, h, -⟩ := hI.1
  have m5 := mix5 hR h
  have hn := hR.1.2.2.2
  apply wX7_arrival
  refine ⟨le16 hR.1.2.2.1 hn (by decide), fun hx => ⟨0, rfl, wX8_arrival G x1 μ ?_⟩, fun g hg e1 hx => ?_⟩
  · rw [mix_up, m5, hx]
    exact ⟨fun z => (by cases z), fun _ => qd2 hI (fun z => (by cases z))⟩
  subst e1
  have hgn : g < ng := by rw [hR.1.2.2.1] at hx; exact idx_lt hg hn hx
  have e4 := h.gs hgn (k := 4) (by decide)
  have ej : ∀ k, (nI 212 + nI 10 * nI g) + nI k = nI (212 + 10 * g + k) := fun k => by rw [pk_mul, nI_add, nI_add]
  refine (s_X0_ticksToStation G (by decide) hR hgn).mono (fun v μ1 hp => ⟨_, hp.1, ?_⟩) (fun _ _ hp => absurd hp (fun z => z))
  obtain ⟨-, rfl⟩ := hp
  -- the reference's trial
  have ref : ∀ {k : Nat} {r : Int32}, ((k = 1 + 1 ∧ (ttsF μ1 0 g = -1 ∨ ¬ ttsF μ1 0 g ≤ nI 60)) ∨ (k = 0 ∧ ¬ ttsF μ1 0 g = -1 ∧ ttsF μ1 0 g ≤ nI 60 ∧ r = ttsF μ1 0 g)) → Mc G mX8_arrival [.int (nI g)] W k r μ1 := fun {k r} hk => by
    refine wX8_arrival G _ μ1 ?_
    rw [mix_up, m5, hx]
    refine ⟨fun _ => ⟨212 + 10 * g + 4, ej 4, by omega, ?_⟩, fun z => (by cases z)⟩
    rw [e4]
    refine ⟨fun z4 => ?_, fun z4 => ?_⟩
    · refine (s_X8_layAside G (up μ1 10 0 0 6 (nI 0))).mono (fun v μ2 hp => ⟨hp.1, ?_⟩) (fun _ _ hp => hp)
      obtain ⟨-, rfl⟩ := hp
      have rr : row (cpR (up μ1 10 0 0 6 (nI 0)) 29 0 (row (up μ1 10 0 0 6 (nI 0))) 372) = row μ1 := by
        funext j
        show cpR _ _ _ _ _ 26 0 0 j = _
        rw [cpR_k (by decide), up_k (by decide)]
      have fin : ∀ μ9, ArvP (cpR (up μ1 10 0 0 6 (nI 0)) 29 0 (row (up μ1 10 0 0 6 (nI 0))) 372) μ9 → Inv μ9 W ∧ μ9 10 0 0 6 = nI 0 := fun μ9 h9 => by
        refine ⟨hI.ig (Nat.le_refl _) (fun k b i s hk => ?_) (fun i hi => by rw [h9.2 i hi, rr]), ?_⟩
        · unfold Ig at hk
          rw [h9.1 k b i s (by omega) (by omega) (by omega), cpR_k (by omega)]
          unfold up
          rw [if_neg (by omega)]
        · rw [h9.1 10 0 0 6 (by decide) (by decide) (by decide), cpR_k (by decide), up_self]
      refine t_arrival G hW hR (by rw [rr]; exact h) hgn (fun i hi => ?_) ⟨fun μ9 h9 hc => ?_, fun μ9 h9 hc1 hc2 => ?_⟩ z4
      · rw [rr, cpR_at (by omega) (by omega), Nat.sub_zero]
        exact up_k (by decide)
      · rcases hk with ⟨rfl, -⟩ | ⟨rfl, c1, c2, -⟩
        · exact qd (fin μ9 h9).1 (fun z => (by cases z))
        · exact absurd hc (fun w => w.elim c1 (fun w => w c2))
      · rcases hk with ⟨rfl, c⟩ | ⟨rfl, c1, c2, rfl⟩
        · exact absurd c (fun w => w.elim hc1 (fun w => w hc2))
        · exact ⟨_, rfl, (fin μ9 h9).1.ig (by omega) (fun _ _ _ _ _ => rfl) (fun _ _ => rfl), (fin μ9 h9).2, fun _ => rfl⟩
    · have et : ttsF μ1 0 g = -1 := by
        unfold ttsF
        rw [if_neg (by rw [z4]; exact nI_ne (by decide)), if_neg (by rw [z4]; exact nI_ne (by decide)), if_neg (by rw [z4]; exact nI_ne (by decide)), if_neg (by rw [z4]; exact nI_ne (by decide))]
      rcases hk with ⟨rfl, -⟩ | ⟨rfl, c1, -⟩
      · exact qd2 hI (fun z => (by cases z))
      · exact absurd et c1
  refine ⟨fun z => ⟨1, rfl, ref (Or.inl ⟨rfl, Or.inl z⟩)⟩, fun z => ⟨fun w => ⟨_, rfl, ref (Or.inr ⟨rfl, z, w, rfl⟩)⟩, fun w => ⟨1, rfl, ref (Or.inl ⟨rfl, Or.inr w⟩)⟩⟩⟩
theorem op_nextCabin (hI : Inv μ W) (x1 : Int32) : Opn G mX7_nextCabin mX8_nextCabin [.int x1] W [eIOOB, eNSE] μ := by
  obtain ⟨nl, np, ng, hR, h, -⟩ := hI.1
  have m3 := mix3 hR h
  have hn := hR.1.1.2
  apply wX7_nextCabin
  refine ⟨le16 hR.1.1.1 hR.1.1.2 (by decide), fun hx => ⟨0, rfl, wX8_nextCabin G x1 μ ?_⟩, fun l hl e1 hx => ?_⟩
  · rw [m3, hx]
    simp only [n10, Bool.false_eq_true, false_implies, true_implies, not_false_eq_true, true_and]
    exact qd hI (fun z => (by cases z))
  subst e1
  have hln : l < nl := by rw [hR.1.1.1] at hx; exact idx_lt (by omega) (by omega) hx
  obtain ⟨z, z2, hz⟩ := spo_n μ 0 l
  have hst := h.step hln
  rw [hz] at hst
  have hheld := h.held hln
  obtain ⟨-, -, -, -, -, -, v, k, v1, v2, v3, hv, hk⟩ := hR.2.2.1 l hln
  refine ⟨fun q => ⟨_, rfl, wX8_nextCabin G _ μ ?_⟩, fun q => ⟨1, rfl, wX8_nextCabin G _ μ ?_⟩⟩
  · have q2 : ¬ msf μ l = nI 2 := fun w => by
      have := hheld.mp w
      unfold ihd at this
      exact q (of_decide_eq_true this)
    have hz0 : z ≠ 0 := fun w => q (by rw [hz, w, nI_0])
    rw [m3, hx]
    simp only [n00, Bool.true_eq_false, false_implies, true_implies, not_false_eq_true, not_true_eq_false, true_and, and_true]
    refine ⟨l, rfl, hl, fun _ => ⟨l, rfl, hl, 6 + 21 * l + 3, by rw [pk_mul, nI_add, nI_add], by omega, 6 + 21 * l + 7, by rw [pk_mul, nI_add, nI_add], by omega, ?_, qd hI (fun _ => ?_)⟩, fun w => absurd w q2⟩
    · rw [msf_up, hst, ← nI_0]; exact fun w => hz0 (nI_inj (by omega) (by decide) w)
    · rw [msf_up, hst, h.ls hln (k := 3) (by decide), h.ls hln (k := 7) (by decide), hz]
      unfold stc
      rw [hv, hk, pk_mul, pk_mul, Nat.mul_one, nI_sub (by omega), nI_add, nI_sub (by omega), tkf_n (by omega) z2, nI_div (by omega) (by omega) (by omega)]
      unfold cz
      have hz2 : z = 1 ∨ z = 2 := by omega
      rcases hz2 with rfl | rfl
      · rw [if_neg (by decide), Nat.div_one, Nat.add_sub_cancel]
      · rw [if_pos rfl]; congr 1
  · have q2 : msf μ l = nI 2 := hheld.mpr (by unfold ihd; exact decide_eq_true q)
    rw [m3, hx]
    simp only [n20, Bool.true_eq_false, false_implies, true_implies, not_false_eq_true, not_true_eq_false, true_and, and_true]
    exact ⟨l, rfl, hl, fun w => absurd q2 w, fun _ => qd hI (fun z => (by cases z))⟩
/-! ways -/
theorem Inv.o25 {μ1 : St} (hI : Inv μ W) (h : Oo 25 μ μ1) : Inv μ1 W := hI.ig (Nat.le_refl _) (fun k b i s hk => h k b i s (by unfold Ig at hk; omega)) (fun i _ => h 26 0 0 i (by decide))
theorem Inv.o30 {μ1 : St} {W' : Nat} (hI : Inv μ W) (hw : W ≤ W') (h : Oo 30 μ μ1) : Inv μ1 W' := hI.ig hw (fun k b i s hk => h k b i s (by unfold Ig at hk; omega)) (fun i _ => h 26 0 0 i (by decide))
theorem mlk_1 {x y z : Int32} (h : mix μ 5 x = false ∨ isSt y = false ∨ isSt z = false) : mlk μ x y z = nI 1 := by
  unfold mlk
  rcases h with h | h | h
  · rw [h, Bool.false_and, Bool.false_and, if_neg (by decide)]
  · rw [h, Bool.and_false, Bool.false_and, if_neg (by decide)]
  · rw [h, Bool.and_false, if_neg (by decide)]
theorem mlk_0 {x y z : Int32} (h1 : mix μ 5 x = true) (h2 : isSt y = true) (h3 : isSt z = true) : mlk μ x y z = nI 0 := by
  unfold mlk
  rw [h1, h2, h3]; rfl
theorem i10 : ¬ (nI 1 ≤ (0 : Int32)) := by decide
theorem op_duration (hI : Inv μ W) (x1 x2 x3 : Int32) : Opn G mX7_duration mX8_duration [.int x1, .int x2, .int x3] W [eIOOB, eNSE] μ := by
  obtain ⟨nl, np, ng, hR, h, -⟩ := hI.1
  have m5 := mix5 hR h
  have hn := hR.1.2.2.2
  have bad : (idx x1 (μ 2 0 0 5) = false ∨ isSt x2 = false ∨ isSt x3 = false) → XP G mX8_duration [.int x1, .int x2, .int x3] W [eIOOB, eNSE] eIOOB μ := fun hb => by
    refine ⟨0, rfl, wX8_duration G _ _ _ μ ?_⟩
    rw [mlk_1 (by rw [m5]; exact hb)]
    exact ⟨fun z => absurd z i10, fun _ => qd hI (fun z => (by cases z))⟩
  apply wX7_duration
  refine ⟨le16 hR.1.2.2.1 hn (by decide), fun hx => bad (Or.inl hx), fun g hg e1 hx => ⟨fun h2 => bad (Or.inr (Or.inl h2)), fun h2 => ⟨fun h3 => ?_, fun h3 => bad (Or.inr (Or.inr h3))⟩⟩⟩
  subst e1
  have hgn : g < ng := by rw [hR.1.2.2.1] at hx; exact idx_lt hg hn hx
  obtain ⟨a, ha, rfl⟩ := isSt_ex h2
  obtain ⟨t, ht, rfl⟩ := isSt_ex h3
  refine (s_X6_measure G (by decide) hR hg ht).mono (fun v μ1 hp => ⟨hp.1, ?_⟩) (fun _ _ hp => absurd hp (fun z => z))
  obtain ⟨-, o1, d1⟩ := hp
  refine (s_X6_durationFrom G ha).mono (fun v μ2 hp => ⟨_, hp.1, ?_⟩) (fun _ _ hp => absurd hp (fun z => z))
  obtain ⟨-, rfl⟩ := hp
  have hI1 := hI.o25 o1
  have hR1 := Rok.oo o1 (by decide) hR
  have h1 : Rel μ2 0 nl np ng (row μ2) := by
    have := Rel.oo o1 (by decide) h
    rw [show row μ2 = row μ from funext fun j => o1 26 0 0 j (by decide)]; exact this
  have m51 := mix5 hR1 h1 (nI g)
  have hx1 : idx (nI g) (μ2 2 0 0 5) = true := by rw [o1 2 0 0 5 (by decide)]; exact hx
  have da := d1 a ha
  have ed : dw μ2 0 g nl np t = dw μ 0 g nl np t := by unfold dw; rw [es_oo o1 (by decide)]
  have ref : ∀ {k : Nat} {r : Int32}, ((k = 1 + 1 ∧ ¬ dw μ 0 g nl np t a < 1000000) ∨ (k = 0 ∧ dw μ 0 g nl np t a < 1000000 ∧ r = μ2 25 0 0 a)) → Mc G mX8_duration [.int (nI g), .int (nI a), .int (nI t)] W k r μ2 := fun {k r} hk => by
    refine wX8_duration G _ _ _ μ2 ?_
    rw [mlk_0 (by rw [m51]; exact hx1) h2 h3]
    refine ⟨fun _ => ?_, fun w => absurd (show nI 0 ≤ (0 : Int32) by decide) w⟩
    refine (s_X8_layWays G (σ := μ2) hR1 (rel_up h1 (nI 0)) hgn ht).mono (fun v μ3 hp => ⟨hp.1, a, rfl, ha, ?_⟩) (fun _ _ hp => hp)
    obtain ⟨-, o2, d2⟩ := hp
    have db := d2 a ha
    rw [ed] at db
    have hI3 : Inv μ3 W := (hI1.up6 (nI 0) (Nat.le_refl _)).o30 (Nat.le_refl _) o2
    rw [db.1, nI_leI (by omega) (by omega)]
    refine ⟨fun w => ?_, fun w => ⟨a, rfl, ha, ?_⟩⟩
    · rcases hk with ⟨rfl, -⟩ | ⟨rfl, c, -⟩
      · exact qd hI3 (fun z => (by cases z))
      · omega
    · rcases hk with ⟨rfl, c⟩ | ⟨rfl, c, rfl⟩
      · omega
      · exact ⟨_, rfl, hI3.ig (by omega) (fun _ _ _ _ _ => rfl) (fun _ _ => rfl), by rw [o2 10 0 0 6 (by decide), up_self], fun _ => by rw [db.1, da.1]⟩
  rw [da.1, nI_ltI (by omega) (by omega)]
  exact ⟨fun w => ⟨_, rfl, ref (Or.inr ⟨rfl, w, da.1.symm⟩)⟩, fun w => ⟨1, rfl, ref (Or.inl ⟨rfl, w⟩)⟩⟩
theorem op_firstPart (hI : Inv μ W) (x1 x2 x3 : Int32) : Opn G mX7_firstPart mX8_firstPart [.int x1, .int x2, .int x3] W [eIOOB, eNSE] μ := by
  obtain ⟨nl, np, ng, hR, h, -⟩ := hI.1
  have m5 := mix5 hR h
  have hn := hR.1.2.2.2
  have bad : (idx x1 (μ 2 0 0 5) = false ∨ isSt x2 = false ∨ isSt x3 = false) → XP G mX8_firstPart [.int x1, .int x2, .int x3] W [eIOOB, eNSE] eIOOB μ := fun hb => by
    refine ⟨0, rfl, wX8_firstPart G _ _ _ μ ?_⟩
    rw [mlk_1 (by rw [m5]; exact hb)]
    exact ⟨fun z => absurd z i10, fun _ => qd hI (fun z => (by cases z))⟩
  apply wX7_firstPart
  refine ⟨le16 hR.1.2.2.1 hn (by decide), fun hx => bad (Or.inl hx), fun g hg e1 hx => ⟨fun h2 => bad (Or.inr (Or.inl h2)), fun h2 => ⟨fun h3 => ?_, fun h3 => bad (Or.inr (Or.inr h3))⟩⟩⟩
  subst e1
  have hgn : g < ng := by rw [hR.1.2.2.1] at hx; exact idx_lt hg hn hx
  obtain ⟨a, ha, rfl⟩ := isSt_ex h2
  obtain ⟨t, ht, rfl⟩ := isSt_ex h3
  refine (s_X6_measure G (by decide) hR hg ht).mono (fun v μ1 hp => ⟨hp.1, ?_⟩) (fun _ _ hp => absurd hp (fun z => z))
  obtain ⟨-, o1, d1⟩ := hp
  have hI1 := hI.o25 o1
  have hR1 := Rok.oo o1 (by decide) hR
  have h1 : Rel μ1 0 nl np ng (row μ1) := by
    have := Rel.oo o1 (by decide) h
    rw [show row μ1 = row μ from funext fun j => o1 26 0 0 j (by decide)]; exact this
  have m51 := mix5 hR1 h1 (nI g)
  have hx1 : idx (nI g) (μ1 2 0 0 5) = true := by rw [o1 2 0 0 5 (by decide)]; exact hx
  have da := d1 a ha
  have ed : dw μ1 0 g nl np t = dw μ 0 g nl np t := by unfold dw; rw [es_oo o1 (by decide)]
  rw [← ed] at d1 da
  -- the reference
  have ref : ∀ {k : Nat} {r : Int32}, ((k = 1 + 1 ∧ (a = t ∨ ¬ dw μ1 0 g nl np t a < 1000000)) ∨ (k = 0 ∧ a ≠ t ∧ dw μ1 0 g nl np t a < 1000000 ∧ Bp μ1 0 g (dw μ1 0 g nl np t) a nl np r)) → Mc G mX8_firstPart [.int (nI g), .int (nI a), .int (nI t)] W k r μ1 := fun {k r} hk => by
    refine wX8_firstPart G _ _ _ μ1 ?_
    rw [mlk_0 (by rw [m51]; exact hx1) h2 h3]
    refine ⟨fun _ => ?_, fun w => absurd (show nI 0 ≤ (0 : Int32) by decide) w⟩
    refine (s_X8_layWays G (σ := μ1) hR1 (rel_up h1 (nI 0)) hgn ht).mono (fun v μ3 hp => ⟨hp.1, ?_⟩) (fun _ _ hp => hp)
    obtain ⟨-, o2, d2⟩ := hp
    have db := d2 a ha
    have hI3 : Inv μ3 W := (hI1.up6 (nI 0) (Nat.le_refl _)).o30 (Nat.le_refl _) o2
    have r3 : Rel μ1 0 nl np ng (row μ3) := by
      rw [show row μ3 = row (up μ1 10 0 0 6 (nI 0)) from funext fun j => o2 26 0 0 j (by decide)]
      exact rel_up h1 (nI 0)
    rw [eq_n (by omega) (by omega)]
    refine ⟨fun w => ?_, fun w => ⟨a, rfl, ha, ?_⟩⟩
    · rcases hk with ⟨rfl, -⟩ | ⟨rfl, c, -⟩
      · exact qd hI3 (fun z => (by cases z))
      · exact absurd w c
    · rw [db.1, nI_ltI (by omega) (by omega)]
      refine ⟨fun q => ?_, fun q => ?_⟩
      · rcases hk with ⟨rfl, c | c⟩ | ⟨rfl, c1, c2, c3⟩
        · exact absurd c w
        · exact absurd q c
        · refine t_firstPart G hR1 r3 hgn d2 ha (nI t) (part_ex hR1 ht w q) (fun r' hr' _ => ?_)
          exact ⟨_, rfl, hI3.ig (by omega) (fun _ _ _ _ _ => rfl) (fun _ _ => rfl), by rw [o2 10 0 0 6 (by decide), up_self], fun _ => hr'.uni c3⟩
      · rcases hk with ⟨rfl, -⟩ | ⟨rfl, c1, c2, c3⟩
        · exact qd hI3 (fun z => (by cases z))
        · exact absurd c2 q
  rw [eq_n (by omega) (by omega)]
  refine ⟨fun w => ?_, fun w => ⟨fun q => absurd rfl q, fun _ => ⟨1, rfl, ref (Or.inl ⟨rfl, Or.inl w⟩)⟩⟩⟩
  refine (s_X6_bestPartFrom G (by decide) hR1 hg d1 ha).mono (fun v μ2 hp => ?_) (fun _ _ hp => absurd hp (fun z => z))
  obtain ⟨rfl, ⟨q1, r, rfl, q2⟩ | ⟨q1, rfl⟩⟩ := hp
  · have nr : ¬ r = -1 := fun e => by
      subst e
      have nn : ∀ n, n < 1000 → ¬ nI n = -1 := by decide +kernel
      have hn1 := hR.1.1.2
      have hn2 := hR.1.2.1.2
      rcases q2 with ⟨i, i1, -, -, i4⟩ | ⟨-, p, p1, -, -, p4⟩ | ⟨c1, c2, -⟩
      · exact nn i (by omega) i4.symm
      · exact nn (100 + p) (by omega) p4.symm
      · rcases part_ex hR1 ht w q1 with ⟨i, i1, i2⟩ | ⟨p, p1, p2⟩
        · exact c1 i i1 i2
        · exact c2 p p1 p2
    exact ⟨r, rfl, fun _ => ⟨_, rfl, ref (Or.inr ⟨rfl, w, q1, q2⟩)⟩, fun e => absurd e nr⟩
  · exact ⟨-1, rfl, fun e => absurd rfl e, fun _ => ⟨1, rfl, ref (Or.inl ⟨rfl, Or.inr q1⟩)⟩⟩
theorem op_reachable (hI : Inv μ W) (x1 x2 : Int32) : Opn G mX7_reachable mX8_reachable [.int x1, .int x2] W [eIOOB] μ := by
  obtain ⟨nl, np, ng, hR, h, -⟩ := hI.1
  have m5 := mix5 hR h
  have hn := hR.1.2.2.2
  have bad : (idx x1 (μ 2 0 0 5) = false ∨ isSt x2 = false) → XP G mX8_reachable [.int x1, .int x2] W [eIOOB] eIOOB μ := fun hb => by
    refine ⟨0, rfl, wX8_reachable G _ _ μ ?_⟩
    rw [mlk_1 (by rw [m5]; exact hb.elim Or.inl (fun z => Or.inr (Or.inl z)))]
    apply wX8_reachable_16
    rw [up_self]
    exact ⟨fun z => absurd z (by decide), fun _ => ⟨fun _ => qd hI (fun z => (by cases z)), fun z => absurd z (by decide)⟩⟩
  apply wX7_reachable
  refine ⟨le16 hR.1.2.2.1 hn (by decide), fun hx => bad (Or.inl hx), fun g hg e1 hx => ⟨fun h2 => ?_, fun h2 => bad (Or.inr h2)⟩⟩
  subst e1
  have hgn : g < ng := by rw [hR.1.2.2.1] at hx; exact idx_lt hg hn hx
  obtain ⟨a, ha, rfl⟩ := isSt_ex h2
  refine (s_X6_stationsFrom G (by decide) hR hg ha).mono (fun v μ1 hp => ?_) (fun _ _ hp => absurd hp (fun z => z))
  obtain ⟨m, rfl, rfl, hm⟩ := hp
  refine ⟨_, rfl, _, rfl, wX8_reachable G _ _ μ1 ?_⟩
  rw [mlk_0 (by rw [m5]; exact hx) h2 h2]
  refine t_reachable G (σ := μ1) hR (rel_up h (nI 0)) (by rw [up_self]; rfl) hgn ha (fun m' μ9 hm' o => ?_)
  refine ⟨_, rfl, (hI.up6 (nI 0) (Nat.le_refl _)).o30 (by omega) o, by rw [o 10 0 0 6 (by decide), up_self], fun _ => ?_⟩
  rw [hm'.uni hm (fun s _ => rfl)]
theorem op_stranded (hI : Inv μ W) (x1 x2 : Int32) : Opn G mX7_stranded mX8_stranded [.int x1, .int x2] W [eIOOB] μ := by
  obtain ⟨nl, np, ng, hR, h, -⟩ := hI.1
  have m5 := mix5 hR h
  have hn := hR.1.2.2.2
  have bad : (idx x1 (μ 2 0 0 5) = false ∨ isSt x2 = false) → XP G mX8_stranded [.int x1, .int x2] W [eIOOB] eIOOB μ := fun hb => by
    refine ⟨0, rfl, wX8_stranded G _ _ μ ?_⟩
    rw [mlk_1 (by rw [m5]; exact hb.elim Or.inl (fun z => Or.inr (Or.inl z)))]
    exact ⟨fun z => absurd z i10, fun _ => qd hI (fun z => (by cases z))⟩
  apply wX7_stranded
  refine ⟨le16 hR.1.2.2.1 hn (by decide), fun hx => bad (Or.inl hx), fun g hg e1 hx => ⟨fun h2 => ?_, fun h2 => bad (Or.inr h2)⟩⟩
  subst e1
  have hgn : g < ng := by rw [hR.1.2.2.1] at hx; exact idx_lt hg hn hx
  obtain ⟨t, ht, rfl⟩ := isSt_ex h2
  refine (s_X6_measure G (by decide) hR hg ht).mono (fun v μ1 hp => ⟨hp.1, ?_⟩) (fun _ _ hp => absurd hp (fun z => z))
  obtain ⟨-, o1, d1⟩ := hp
  have hI1 := hI.o25 o1
  have hR1 := Rok.oo o1 (by decide) hR
  have h1 : Rel μ1 0 nl np ng (row μ1) := by
    have := Rel.oo o1 (by decide) h
    rw [show row μ1 = row μ from funext fun j => o1 26 0 0 j (by decide)]; exact this
  have m51 := mix5 hR1 h1 (nI g)
  have hx1 : idx (nI g) (μ1 2 0 0 5) = true := by rw [o1 2 0 0 5 (by decide)]; exact hx
  have ed : dw μ1 0 g nl np t = dw μ 0 g nl np t := by unfold dw; rw [es_oo o1 (by decide)]
  refine (s_X6_stationsWithoutWay G d1).mono (fun v μ2 hp => ⟨_, hp.1, _, rfl, ?_⟩) (fun _ _ hp => absurd hp (fun z => z))
  obtain ⟨-, rfl⟩ := hp
  refine wX8_stranded G _ _ μ2 ?_
  rw [mlk_0 (by rw [m51]; exact hx1) h2 h2]
  refine ⟨fun _ => ?_, fun w => absurd (show nI 0 ≤ (0 : Int32) by decide) w⟩
  refine (s_X8_layWays G (σ := μ2) hR1 (rel_up h1 (nI 0)) hgn ht).mono (fun v μ3 hp => ⟨hp.1, ?_⟩) (fun _ _ hp => hp)
  obtain ⟨-, o2, d2⟩ := hp
  rw [ed] at d2
  exact t_stranded G d2 _ _ ⟨_, rfl, (hI1.up6 (nI 0) (Nat.le_refl _)).o30 (by omega) o2, by rw [o2 10 0 0 6 (by decide), up_self], fun _ => rfl⟩
/-! accounts -/
theorem op_liftAccount (hI : Inv μ W) (x1 x2 : Int32) : Opn G mX7_liftAccount mX8_liftAccount [.int x1, .int x2] W [eIOOB, eIAE] μ := by
  obtain ⟨nl, np, ng, hR, h, -⟩ := hI.1
  have m3 := mix3 hR h
  have hn := hR.1.1.2
  apply wX7_liftAccount
  refine ⟨le16 hR.1.1.1 hR.1.1.2 (by decide), fun hx => ⟨0, rfl, wX8_liftAccount G x1 x2 μ ?_⟩, fun l hl e1 hx => ?_⟩
  · rw [m3, hx]
    simp only [n10, Bool.false_eq_true, false_implies, true_implies, not_false_eq_true, true_and]
    exact qd hI (fun z => (by cases z))
  subst e1
  have hln : l < nl := by rw [hR.1.1.1] at hx; exact idx_lt (by omega) (by omega) hx
  have go : ∀ k, k < 2 → Mc G mX8_liftAccount [.int (nI l), .int (nI k)] W 0 (μ 6 0 l (8 + k)) μ := fun k hk => by
    refine wX8_liftAccount G _ _ μ ?_
    rw [m3, hx, btw_yes (k := k) (m := 1) (by omega) (by decide)]
    simp only [n00, Bool.true_eq_false, false_implies, true_implies, not_false_eq_true, not_true_eq_false, true_and, and_true]
    exact ⟨6 + 21 * l + (8 + k), by rw [pk_mul, nI_add, nI_add, nI_add, Nat.add_assoc], by omega, qd hI (fun _ => h.ls hln (by omega))⟩
  refine ⟨fun z => ⟨_, rfl, by subst z; exact go 0 (by decide)⟩, fun k0 => ⟨fun z => ⟨_, rfl, by subst z; exact go 1 (by decide)⟩, fun k1 => ⟨1, rfl, wX8_liftAccount G _ _ μ ?_⟩⟩⟩
  rw [m3, hx, btw_no (x := x2) (m := 1) (by decide) (fun k hk => by
    have : k = 0 ∨ k = 1 := by omega
    rcases this with rfl | rfl <;> assumption)]
  simp only [n20, Bool.true_eq_false, Bool.false_eq_true, false_implies, true_implies, not_false_eq_true, true_and, and_true]
  exact qd hI (fun z => (by cases z))
theorem op_guestAccount (hI : Inv μ W) (x1 x2 : Int32) : Opn G mX7_guestAccount mX8_guestAccount [.int x1, .int x2] W [eIOOB, eIAE] μ := by
  obtain ⟨nl, np, ng, hR, h, -⟩ := hI.1
  have m5 := mix5 hR h
  have hn := hR.1.2.2.2
  apply wX7_guestAccount
  refine ⟨le16 hR.1.2.2.1 hn (by decide), fun hx => ⟨0, rfl, wX8_guestAccount G x1 x2 μ ?_⟩, fun g hg e1 hx => ?_⟩
  · rw [m5, hx]
    simp only [n10, Bool.false_eq_true, false_implies, true_implies, not_false_eq_true, true_and]
    exact qd hI (fun z => (by cases z))
  subst e1
  have hgn : g < ng := by rw [hR.1.2.2.1] at hx; exact idx_lt hg hn hx
  have go : ∀ k, k < 3 → Mc G mX8_guestAccount [.int (nI g), .int (nI k)] W 0 (μ 3 0 g (8 + k)) μ := fun k hk => by
    refine wX8_guestAccount G _ _ μ ?_
    rw [m5, hx, btw_yes (k := k) (m := 2) (by omega) (by decide)]
    simp only [n00, Bool.true_eq_false, false_implies, true_implies, not_false_eq_true, not_true_eq_false, true_and, and_true]
    exact ⟨212 + 10 * g + 7 + k, by rw [pk_mul, nI_add, nI_add, nI_add], by omega, qd hI (fun _ => (h.2.2.2.2.1 g hgn).2.2.2 k hk)⟩
  refine ⟨fun z => ⟨_, rfl, by subst z; exact go 0 (by decide)⟩, fun k0 => ⟨fun z => ⟨_, rfl, by subst z; exact go 1 (by decide)⟩, fun k1 => ⟨fun z => ⟨_, rfl, by subst z; exact go 2 (by decide)⟩, fun k2 => ⟨1, rfl, wX8_guestAccount G _ _ μ ?_⟩⟩⟩⟩
  rw [m5, hx, btw_no (x := x2) (m := 2) (by decide) (fun k hk => by
    have : k = 0 ∨ k = 1 ∨ k = 2 := by omega
    rcases this with rfl | rfl | rfl <;> assumption)]
  simp only [n20, Bool.true_eq_false, Bool.false_eq_true, false_implies, true_implies, not_false_eq_true, true_and, and_true]
  exact qd hI (fun z => (by cases z))
theorem op_pisteAccount (hI : Inv μ W) (x1 : Int32) : Opn G mX7_pisteAccount mX8_pisteAccount [.int x1] W [eIOOB] μ := by
  obtain ⟨nl, np, ng, hR, h, -⟩ := hI.1
  have m4 := mix4 hR h
  have hn := hR.1.2.1.2
  apply wX7_pisteAccount
  refine ⟨le16 hR.1.2.1.1 hn (by decide), fun hx => ⟨0, rfl, wX8_pisteAccount G x1 μ ?_⟩, fun p hp e1 hx => ⟨_, rfl, wX8_pisteAccount G x1 μ ?_⟩⟩
  · rw [mix_up, m4, hx]
    exact ⟨fun _ => qd2 hI (fun z => (by cases z)), fun z => (by cases z)⟩
  · subst e1
    have hpn : p < np := by rw [hR.1.2.1.1] at hx; exact idx_lt (by omega) (by omega) hx
    rw [mix_up, m4, hx]
    exact ⟨fun z => (by cases z), fun _ => ⟨132 + 8 * p + 7, by rw [pk_mul, nI_add, nI_add], by omega, qd hI (fun _ => h.ps hpn (by decide))⟩⟩
theorem op_audit (hI : Inv μ W) : Opn G mX7_audit mX8_audit [] W [] μ := by
  obtain ⟨nl, np, ng, hR, h, -⟩ := hI.1
  apply wX7_audit
  refine (s_X0_accountsGap G (by decide) hR.1).mono (fun v μ1 hp => ⟨_, hp.1, _, rfl, ?_⟩) (fun _ _ hp => absurd hp (fun z => z))
  obtain ⟨-, rfl⟩ := hp
  refine (s_X8_audit G hR.1 h).mono (fun v μ2 hp => ?_) (fun _ _ hp => hp)
  obtain ⟨rfl, rfl⟩ := hp
  exact qd hI (fun _ => rfl)
theorem op_busiest (hI : Inv μ W) : Opn G mX7_busiest mX8_busiest [] W [eNSE] μ := by
  obtain ⟨nl, np, ng, hR, h, -⟩ := hI.1
  have hn := hR.1.1.2
  obtain ⟨b1, b2⟩ := busy_same μ 0 nl
  have nn : ∀ n, n < 1000 → ¬ nI n = -1 := by decide +kernel
  apply wX7_busiest
  refine (s_X0_liftWithMostRiders G (by decide) hR.1).mono (fun v μ1 hp => ⟨_, hp.1, ?_⟩) (fun _ _ hp => absurd hp (fun z => z))
  obtain ⟨-, rfl⟩ := hp
  refine ⟨fun z => ⟨_, rfl, ?_⟩, fun z => ⟨0, rfl, ?_⟩⟩
  · refine (s_X8_busiest G hR.1 h).mono (fun v μ2 hp => ?_) (fun _ _ hp => hp)
    obtain ⟨rfl, rfl⟩ := hp
    rcases b2 with ⟨c1, -⟩ | ⟨c1, c2, -⟩
    · exact absurd c1 z
    · rw [if_neg (by rw [b1, ← nI_0]; exact fun w => absurd c2 (by rw [w]; decide))]
      exact qd hI (fun _ => c1.symm)
  · refine (s_X8_busiest G hR.1 h).mono (fun v μ2 hp => ?_) (fun _ _ hp => hp)
    obtain ⟨rfl, rfl⟩ := hp
    rcases b2 with ⟨c1, c2, c3⟩ | ⟨c1, c2, i, i1, i2⟩
    · rw [if_pos (by rw [b1, c2, nI_0])]
      exact qd hI (fun z => (by cases z))
    · exact absurd (i2.symm.trans z) (nn i (by omega))
theorem op_errorPosition (hI : Inv μ W) : Opn G mX7_errorPosition mX8_errorPosition [] W [eNSE] μ := by
  have h5 := hI.2.2.2.2.1
  have nn : ∀ n, n < 1000 → ¬ nI n = -1 := by decide +kernel
  apply wX7_errorPosition
  rcases h5 with ⟨a, b⟩ | ⟨e, e1, a, b, c⟩
  · refine ⟨fun z => absurd a z, fun _ => ⟨0, rfl, wX8_errorPosition G μ ?_⟩⟩
    rw [b]
    exact ⟨fun _ => ⟨fun _ => qd hI (fun z => (by cases z)), fun z => absurd (by decide) z⟩, fun z => absurd (by decide) z⟩
  · refine ⟨fun _ => ⟨_, rfl, wX8_errorPosition G μ ?_⟩, fun z => absurd (a.symm.trans z) (nn e (by omega))⟩
    rw [b, c, a]
    exact ⟨fun z => absurd z (by decide), fun _ => ⟨fun z => absurd z (by decide), fun _ => qd hI (fun _ => rfl)⟩⟩
/-- the quotient of riders and cabins -/
def ldF (μ : St) (l : Nat) : UInt64 := FP.ddiv (FP.i2d (μ 6 0 l 8)) (FP.i2d (μ 6 0 l 9))
def MPd (W k : Nat) (r : UInt64) (v : Option Value) (μ2 : St) : Prop := ∃ r', v = some (.double r') ∧ Inv μ2 (W + 64) ∧ μ2 10 0 0 6 = nI k ∧ (k = 0 → r' = r)
theorem op_load (hI : Inv μ W) (x1 : Int32) : Con G mX7_load [.ref (zad G.1 9 0 0), .int x1] μ (fun v μ1 => ∃ a b, v = some (.double (FP.ddiv (FP.i2d a) (FP.i2d b))) ∧ vf_n64 (FP.ddiv (FP.i2d a) (FP.i2d b)) ∧ Con G mX8_load [.ref (zad G.1 10 0 0), .int x1] μ1 (MPd W 0 (FP.ddiv (FP.i2d a) (FP.i2d b))) noX) (fun E μ1 => ∃ k, [eIOOB, "java/lang/ArithmeticException"][k]? = some E ∧ Con G mX8_load [.ref (zad G.1 10 0 0), .int x1] μ1 (MPd W (k + 1) 0) noX) := by
  obtain ⟨nl, np, ng, hR, h, -⟩ := hI.1
  have m3 := mix3 hR h
  have hn := hR.1.1.2
  have qdd : ∀ {k : Nat} {r x : UInt64}, (k = 0 → x = r) → MPd W k r (some (.double x)) (up μ 10 0 0 6 (nI k)) := fun {k r x} hx => ⟨x, rfl, hI.up6 _ (by omega), up_self _ _ _ _ _ _, hx⟩
  apply wX7_load
  refine ⟨le16 hR.1.1.1 hR.1.1.2 (by decide), fun hx => ⟨0, rfl, wX8_load G x1 μ ?_⟩, fun l hl e1 hx => ?_⟩
  · rw [m3, hx]
    simp only [n10, Bool.false_eq_true, false_implies, true_implies, not_false_eq_true, true_and]
    exact qdd (fun z => (by cases z))
  subst e1
  have hln : l < nl := by rw [hR.1.1.1] at hx; exact idx_lt (by omega) (by omega) hx
  refine ⟨fun z => ⟨ld_n64 _ _ z, _, _, rfl, ld_n64 _ _ z, wX8_load G _ μ ?_⟩, fun z => ⟨1, rfl, wX8_load G _ μ ?_⟩⟩
  · rw [m3, hx]
    simp only [n00, Bool.true_eq_false, false_implies, true_implies, not_false_eq_true, not_true_eq_false, true_and, and_true]
    refine ⟨6 + 21 * l + 9, by rw [pk_mul, nI_add, nI_add], by omega, ?_⟩
    rw [h.ls hln (k := 9) (by decide)]
    refine ⟨fun _ => ⟨6 + 21 * l + 8, by rw [pk_mul, nI_add, nI_add], by omega, 6 + 21 * l + 9, by rw [pk_mul, nI_add, nI_add], by omega, ?_⟩, fun w => absurd w z⟩
    rw [h.ls hln (k := 9) (by decide), h.ls hln (k := 8) (by decide)]
    exact ⟨ld_n64 _ _ z, qdd (fun _ => rfl)⟩
  · rw [m3, hx]
    simp only [n20, Bool.true_eq_false, false_implies, true_implies, not_false_eq_true, not_true_eq_false, true_and, and_true]
    refine ⟨6 + 21 * l + 9, by rw [pk_mul, nI_add, nI_add], by omega, ?_⟩
    rw [h.ls hln (k := 9) (by decide)]
    exact ⟨fun w => absurd z w, fun _ => qdd (fun z => (by cases z))⟩
end QRY2
