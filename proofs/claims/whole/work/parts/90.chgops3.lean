/-! ===== leaving, ticks, days, new lifts and pistes ===== -/
section CHG3
variable {μ : St} {W nl np ng x c : Nat} (G : Gl)
theorem st_n (hR : Rok μ 0 nl np ng W) {g : Nat} (hg : g < ng) : ∃ n, n ≤ 4 ∧ μ 3 0 g 4 = nI n := by
  rcases (hR.2.2.2.2 g hg).2 with h | h | h | h | h
  · exact ⟨0, by decide, h.1⟩
  · exact ⟨1, by decide, h.1⟩
  · exact ⟨2, by decide, h.1⟩
  · exact ⟨3, by decide, h.1⟩
  · exact ⟨4, by decide, h.1⟩
theorem op_leave (hI : Inv μ W) (x1 : Int32) : Opn G mX7_leave mX8_leave [.int x1] W [eIOOB, eISE] μ := by
  obtain ⟨nl, np, ng, hR, h, ht⟩ := hI.1
  obtain ⟨x, c, hH⟩ := hI.2.2.1
  have m5 := mix5 hR h
  have hn := hR.1.2.2.2
  have hn1 := hR.1.1.2
  apply wX7_leave
  refine ⟨le16 hR.1.2.2.1 hn (by decide), fun hx => ⟨0, rfl, wX8_leave G x1 μ ?_⟩, fun g hg e1 hx => ?_⟩
  · rw [m5, hx]
    simp only [n10, Bool.false_eq_true, false_implies, true_implies, not_false_eq_true, true_and]
    exact qd hI (fun z => (by cases z))
  subst e1
  have hgn : g < ng := by rw [hR.1.2.2.1] at hx; exact idx_lt hg hn hx
  have e4 := h.gs hgn (k := 4) (by decide)
  have ej : ∀ k, (nI 212 + nI 10 * nI g) + nI k = nI (212 + 10 * g + k) := fun k => by rw [pk_mul, nI_add, nI_add]
  obtain ⟨n4, n5, hn4⟩ := st_n hR hgn
  -- the store of the class's change reads its row as before
  have pre : ∀ {μ1 μ2 : St}, (∀ k i s, k ≠ 4 → μ1 k 0 i s = μ k 0 i s) → row μ2 = row μ1 → mix μ2 5 (nI g) = true ∧ μ2 26 0 0 (212 + 10 * g + 4) = μ 3 0 g 4 := fun {μ1 μ2} e1 hr => by
    have r : row μ2 = row μ := hr.trans (funext fun j => e1 26 0 j (by decide))
    exact ⟨by rw [mix_eq r, m5, hx], by rw [show μ2 26 0 0 (212 + 10 * g + 4) = row μ2 (212 + 10 * g + 4) from rfl, r]; exact e4⟩
  have refuse : ¬ μ 3 0 g 4 = 0 → ¬ μ 3 0 g 4 = nI 1 → XP G mX8_leave [.int (nI g)] W [eIOOB, eISE] eISE μ := fun z0 z1 => by
    refine ⟨1, rfl, wX8_leave G _ μ ?_⟩
    rw [m5, hx]
    simp only [n00, n20, Bool.true_eq_false, false_implies, true_implies, not_false_eq_true, not_true_eq_false, true_and, and_true]
    refine ⟨212 + 10 * g + 4, ej 4, by omega, fun w => ?_, fun _ => qd hI (fun z => (by cases z))⟩
    exfalso
    rw [e4, hn4, nI_leI (by omega) (by decide)] at w
    rw [hn4] at z0 z1
    have : n4 = 0 ∨ n4 = 1 := by omega
    rcases this with rfl | rfl
    · exact z0 (by rw [nI_0])
    · exact z1 rfl
  have stand : μ 3 0 g 4 = 0 → ∀ μ1, RmP μ μ1 0 x c nl np ng → Rok μ1 0 nl np ng W → Rel μ1 0 nl np ng (row μ1) → isN (μ1 2 0 0 7) 0 1000 → (∀ k i s, k ≠ 4 → μ1 k 0 i s = μ k 0 i s) → ∃ r, some (Value.int ((gbc μ1 0 g (nI 4) (-1) (nI 0) (nI 0)) 3 0 g 4)) = some (.int r) ∧ Mc G mX8_leave [.int (nI g)] W 0 r (gbc μ1 0 g (nI 4) (-1) (nI 0) (nI 0)) := fun z μ1 hRm hR1 h1 ht1 e1 => by
    have h4' : μ1 3 0 g 4 = nI 0 := by rw [e1 3 g 4 (by decide), z, nI_0]
    have h6 := ((hR1.2.2.2.2 g hgn).stands h4').2
    have hR2 := aw_ok hR1 hgn
    have ht2 : isN (gbc μ1 0 g (nI 4) (-1) (nI 0) (nI 0) 2 0 0 7) 0 1000 := by rw [gbc_k (by decide)]; exact ht1
    have hF : FO μ1 (gbc μ1 0 g (nI 4) (-1) (nI 0) (nI 0)) := fo_gbc (FO.rfl' μ1)
    have hr : row (gbc μ1 0 g (nI 4) (-1) (nI 0) (nI 0)) = row μ1 := funext fun j => hF 26 0 0 j (by omega)
    obtain ⟨em, es⟩ := pre e1 hr
    refine ⟨_, rfl, wX8_leave G _ _ ?_⟩
    rw [em, gbc_4]
    simp only [n00, n20, Bool.true_eq_false, false_implies, true_implies, not_false_eq_true, not_true_eq_false, true_and, and_true]
    refine ⟨212 + 10 * g + 4, ej 4, by omega, fun _ => ?_, fun w => absurd (by rw [es, z]; decide) w⟩
    refine mkeep G hI hR h ht hH hRm hF (fun μ3 hr3 fin => ?_)
    have e43 : μ3 26 0 0 (212 + 10 * g + 4) = 0 := by
      rw [show μ3 26 0 0 (212 + 10 * g + 4) = row μ3 (212 + 10 * g + 4) from rfl, hr3]
      rw [show row μ1 (212 + 10 * g + 4) = μ1 3 0 g 4 from h1.gs hgn (by decide), h4', nI_0]
    refine ⟨212 + 10 * g + 4, ej 4, by omega, fun w => absurd e43 w, fun _ => ⟨212 + 10 * g + 4, ej 4, by omega, ?_⟩⟩
    exact fin _ _ _ _ (hR2.mono (by omega)) ht2 (Mt.up26 (Mt.rfl' _)) (aw_rel h1 hgn h4' h6 (fun j => by rw [row_up, hr3])) _
  have wait : μ 3 0 g 4 = nI 1 → ∀ μ1, RmP μ μ1 0 x c nl np ng → Rok μ1 0 nl np ng W → Rel μ1 0 nl np ng (row μ1) → isN (μ1 2 0 0 7) 0 1000 → (∀ k i s, k ≠ 4 → μ1 k 0 i s = μ k 0 i s) → Con G mX0_leaveQueue [.ref (zad G.1 2 0 0), .ref (zad G.1 3 0 g)] μ1 (fun v μ2 => v = none ∧ ∃ r, some (Value.int (μ2 3 0 g 4)) = some (.int r) ∧ Mc G mX8_leave [.int (nI g)] W 0 r μ2) noX := fun z μ1 hRm hR1 h1 ht1 e1 => by
    have h4' : μ1 3 0 g 4 = nI 1 := by rw [e1 3 g 4 (by decide), z]
    obtain ⟨⟨l, hl, h5⟩, h6, ⟨p, p0, p9, h7⟩⟩ := (hR1.2.2.2.2 g hgn).waits h4'
    refine (s_X0_leaveQueue G (by decide) hR1.1 hg hl h5).mono (fun v μ2 hp => ⟨hp.1, _, rfl, ?_⟩) (fun _ _ hp => hp)
    obtain ⟨-, rfl⟩ := hp
    have hR2 := lq_ok hR1 hgn hl h4'
    have ht2 : isN (lqF 0 g l ng μ1 2 0 0 7) 0 1000 := by
      unfold lqF
      rw [gbc_k (by decide), (lqS_cf μ1 0 g ng).1 2 0 0 7 (by omega)]; exact ht1
    have hF := fo_lq (ng := ng) μ1 g l
    have hr : row (lqF 0 g l ng μ1) = row μ1 := funext fun j => hF 26 0 0 j (by omega)
    obtain ⟨em, es⟩ := pre e1 hr
    have e24 : lqF 0 g l ng μ1 3 0 g 4 = nI 0 := by unfold lqF; rw [gbc_4]
    refine wX8_leave G _ _ ?_
    rw [em, e24]
    simp only [n00, n20, Bool.true_eq_false, false_implies, true_implies, not_false_eq_true, not_true_eq_false, true_and, and_true]
    refine ⟨212 + 10 * g + 4, ej 4, by omega, fun _ => ?_, fun w => absurd (by rw [es, z]; exact Int32.le_refl _) w⟩
    refine mkeep G hI hR h ht hH hRm hF (fun μ3 hr3 fin => ?_)
    have h3 : Rel μ1 0 nl np ng (row μ3) := by rw [hr3]; exact h1
    have e43 : μ3 26 0 0 (212 + 10 * g + 4) = nI 1 := by
      rw [show μ3 26 0 0 (212 + 10 * g + 4) = μ1 3 0 g 4 from h3.gs hgn (by decide), h4']
    have e53 : μ3 26 0 0 (212 + 10 * g + 5) = nI l := by
      rw [← h5]
      exact (h3.2.2.2.2.1 g hgn).2.1 (by rw [h4']; exact nI_ne (by decide))
    obtain ⟨q, q1, q2, q3, q4⟩ := h3.2.2.2.2.2 l hl
    obtain ⟨j, hj, j1, j2⟩ := q4 g hgn h4' h5
    obtain rfl : p = j := nI_inj (by omega) (by omega) (h7.symm.trans j1)
    refine ⟨212 + 10 * g + 4, ej 4, by omega, fun _ => ⟨212 + 10 * g + 5, ej 5, by omega, ?_⟩, fun w => absurd (e43.symm.trans w) (by decide)⟩
    rw [e53]
    refine (s_X8_placeOf G hR1.1 h3 hgn hl h4' h5).mono (fun v μ4 hp => ⟨_, hp.1, ?_⟩) (fun _ _ hp => hp)
    obtain ⟨-, rfl⟩ := hp
    rw [h7]
    have q2' : μ4 26 0 0 (6 + 21 * l + 10) = nI q := q2
    refine (s_X8_drops G (l := l) (fr := p) (q := q) (m := 1) (by omega) q1 (by omega) (by omega) μ4 q2').mono (fun v μ5 hp => ⟨hp.1, ?_⟩) (fun _ _ hp => hp)
    obtain ⟨-, d0, d1, d2, d3⟩ := hp
    refine ⟨212 + 10 * g + 4, ej 4, by omega, 6 + 21 * l, by rw [pk_mul, nI_add], by omega, 212 + 10 * g + 5, ej 5, by omega, ?_⟩
    have el : up μ5 26 0 0 (212 + 10 * g + 4) (nI 0) 26 0 0 (6 + 21 * l) = row μ4 (6 + 21 * l) := by
      rw [up_sl (by omega)]; exact d1 _ (by omega) (by omega)
    refine fin _ _ _ _ (hR2.mono (by omega)) ht2 (Mt.up26 (Mt.up26 (mt_of d0))) (lq_rel (fd := row μ5) h3 hgn hl h4' h5 h6 h7 hj q1 q2 j2 d1 d2 d3 (fun j => ?_)) _
    rw [row_up, row_up, el]
  refine ⟨fun z => crem G hR h ht hH (fun μ1 hRm hR1 h1 ht1 e1 => ⟨fun w => absurd (by rw [e1 3 g 4 (by decide)]; exact z) w, fun _ => stand z μ1 hRm hR1 h1 ht1 e1⟩), fun z => ⟨fun z1 => crem G hR h ht hH (fun μ1 hRm hR1 h1 ht1 e1 => ⟨fun _ => wait z1 μ1 hRm hR1 h1 ht1 e1, fun w => absurd (by rw [← e1 3 g 4 (by decide)]; exact w) z⟩), fun z1 => refuse z z1⟩⟩
theorem op_advance (hI : Inv μ W) (hW : W < 2 ^ 30) (x1 : Int32) : Opn G mX7_advance mX8_advance [.int x1] W [eIAE, eISE] μ := by
  obtain ⟨nl, np, ng, hR, h, ht⟩ := hI.1
  obtain ⟨x, c, hH⟩ := hI.2.2.1
  have et : μ 26 0 0 1 = μ 2 0 0 7 := h.2.1.1 1 (by decide)
  apply wX7_advance
  refine ⟨fun hb => ⟨fun hw => ?_, fun hw => ⟨1, rfl, wX8_advance G x1 μ ?_⟩⟩, fun hb => ⟨0, rfl, wX8_advance G x1 μ ?_⟩⟩
  · obtain ⟨n, n1, n2, rfl⟩ := (btw_n (by decide) (by decide)).mp hb
    obtain ⟨t, t1, t2, t3⟩ := ht
    have htn : t + n ≤ 1000 := by rw [t3, nI_add, nI_leI (by omega) (by decide)] at hw; exact hw
    refine crem G hR h ⟨t, t1, t2, t3⟩ hH (fun μ1 hRm hR1 h1 ht1 e1 => ?_)
    have hR2 := tkF_ok (n := n) hW hR1
    have ht2 : isN ((tkF 0 nl np ng n μ1).1 2 0 0 7) 0 1000 := by
      rw [tkF_t, e1 2 0 7 (by decide), t3, nI_add]
      exact ⟨t + n, by omega, htn, rfl⟩
    have hF := fo_tk (nl := nl) (np := np) (ng := ng) μ1 n
    have hr : row (tkF 0 nl np ng n μ1).1 = row μ := (funext fun j => hF 26 0 0 j (by omega) : row (tkF 0 nl np ng n μ1).1 = row μ1).trans (funext fun j => e1 26 0 j (by decide))
    refine (s_X0_passTicks G (by decide) hW hR1 n (by omega)).mono (fun v μ2 hp => ⟨_, hp.1, _, rfl, ?_⟩) (fun _ _ hp => hp)
    obtain ⟨-, rfl⟩ := hp
    refine wX8_advance G _ _ ?_
    rw [hb]
    simp only [n00, n20, Bool.true_eq_false, false_implies, true_implies, not_true_eq_false, and_true]
    rw [show (tkF 0 nl np ng n μ1).1 26 0 0 1 = μ 2 0 0 7 by rw [show (tkF 0 nl np ng n μ1).1 26 0 0 1 = row μ 1 by rw [← hr]]; exact et]
    refine ⟨fun _ => ?_, fun w => absurd hw w⟩
    refine mkeep G hI hR h ⟨t, t1, t2, t3⟩ hH hRm hF (fun μ3 hr3 fin => ?_)
    have h3 : Rel μ1 0 nl np ng (row μ3) := by rw [hr3]; exact h1
    refine (s_X8_ticks G hW hR1 h3 n (by omega)).mono (fun v μ4 hp => ⟨_, hp.1, ?_⟩) (fun _ _ hp => hp)
    exact fin μ4 _ _ _ (hR2.mono (by omega)) ht2 hp.2.1 hp.2.2 _
  · rw [hb, et]
    simp only [n00, n20, Bool.true_eq_false, false_implies, true_implies, not_false_eq_true, not_true_eq_false, true_and, and_true]
    exact ⟨fun w => absurd w hw, fun _ => qd hI (fun z => (by cases z))⟩
  · rw [hb]
    simp only [n10, Bool.false_eq_true, false_implies, true_implies, not_false_eq_true, true_and]
    exact qd hI (fun z => (by cases z))
theorem op_endDay (hI : Inv μ W) : Opn G mX7_endDay mX8_endDay [] W [eISE] μ := by
  obtain ⟨nl, np, ng, hR, h, ht⟩ := hI.1
  obtain ⟨x, c, hH⟩ := hI.2.2.1
  have ed : μ 26 0 0 2 = μ 2 0 0 8 := h.2.1.1 2 (by decide)
  obtain ⟨d, d1, d2, d3⟩ := hR.2.1.2
  apply wX7_endDay
  refine ⟨fun hw => ?_, fun hw => ⟨0, rfl, wX8_endDay G μ ?_⟩⟩
  · have hd : d < 1000 := by rw [d3, nI_ltI (by omega) (by decide)] at hw; exact hw
    refine crem G hR h ht hH (fun μ1 hRm hR1 h1 ht1 e1 => ?_)
    have hR2 := cd_ok hR1 (by rw [e1 2 0 8 (by decide), d3]; exact ⟨d, by omega, by omega, rfl⟩)
    have ht2 : isN (cdF 0 nl np ng μ1 2 0 0 7) 0 1000 := by
      rw [cdF_cf, if_neg (by omega), if_pos ⟨rfl, rfl, rfl, rfl⟩]
      exact ⟨0, by omega, by omega, rfl⟩
    have hF := fo_cd (nl := nl) (np := np) (ng := ng) μ1
    have hr : row (cdF 0 nl np ng μ1) = row μ := (funext fun j => hF 26 0 0 j (by omega) : row (cdF 0 nl np ng μ1) = row μ1).trans (funext fun j => e1 26 0 j (by decide))
    refine (s_X0_closeDay G (by decide) hR1.1).mono (fun v μ2 hp => ⟨_, hp.1, _, rfl, ?_⟩) (fun _ _ hp => hp)
    obtain ⟨-, rfl⟩ := hp
    refine wX8_endDay G _ ?_
    rw [show cdF 0 nl np ng μ1 26 0 0 2 = nI d by rw [show cdF 0 nl np ng μ1 26 0 0 2 = row μ 2 by rw [← hr]]; exact ed.trans d3]
    simp only [n00, n10, true_implies, not_true_eq_false, false_implies, and_true]
    refine ⟨fun _ => ?_, fun w => absurd w (nI_ne (by omega) (by omega) (by decide))⟩
    refine mkeep G hI hR h ht hH hRm hF (fun μ3 hr3 fin => ?_)
    have h3 : Rel μ1 0 nl np ng (row μ3) := by rw [hr3]; exact h1
    refine (s_X8_guestsWho1 G hR1.1 h3 (nI 4)).mono (fun v μ4 hp => ⟨_, hp.1, ?_⟩) (fun _ _ hp => hp)
    obtain ⟨-, rfl⟩ := hp
    rw [h3.cng hR1.1]
    refine t_endDay G hR1.1 h3 _ (fun μ9 a1 a2 => ?_)
    exact fin μ9 _ _ _ (hR2.mono (by omega)) ht2 (mt_of a1) a2 _
  · have hd : d = 1000 := by
      rw [d3, nI_ltI (by omega) (by decide)] at hw; omega
    rw [ed, d3, hd]
    simp only [n10, not_true_eq_false, true_implies, false_implies, not_false_eq_true, true_and]
    exact qd hI (fun z => (by cases z))
theorem op_addPiste (hI : Inv μ W) (x1 x2 x3 x4 : Int32) : Opn G mX7_addPiste mX8_addPiste [.int x1, .int x2, .int x3, .int x4] W [eIOOB, eIAE, eISE] μ := by
  obtain ⟨nl, np, ng, hR, h, ht⟩ := hI.1
  obtain ⟨x, c, hH⟩ := hI.2.2.1
  have hn := hR.1.2.1.2
  have e4 := h.cnp hR.1
  have bad : ∀ k, ((k = 0 ∧ (isSt x1 = false ∨ isSt x2 = false)) ∨ (k = 1 ∧ isSt x1 = true ∧ isSt x2 = true ∧ (x1 = x2 ∨ btw x3 (nI 1) (nI 3) = false ∨ btw x4 (nI 1) (nI 9) = false)) ∨ (k = 2 ∧ isSt x1 = true ∧ isSt x2 = true ∧ ¬ x1 = x2 ∧ btw x3 (nI 1) (nI 3) = true ∧ btw x4 (nI 1) (nI 9) = true ∧ np = 10)) → Mc G mX8_addPiste [.int x1, .int x2, .int x3, .int x4] W (k + 1) (nI 0) μ := fun k hk => by
    refine wX8_addPiste G _ _ _ _ μ ⟨fun s1 => ?_, fun s1 => ⟨fun s2 => ⟨fun s3 => ?_, fun s3 => ⟨fun s4 => ?_, fun s4 => ⟨fun s5 => ⟨fun s6 => ?_, fun s6 => ?_⟩, fun s5 => ?_⟩⟩⟩, fun s2 => ?_⟩⟩
    all_goals rcases hk with ⟨rfl, k1⟩ | ⟨rfl, k1, k2, k3⟩ | ⟨rfl, k1, k2, k3, k4, k5, k6⟩
    all_goals first | exact qd2 hI (fun z => (by cases z)) | (exfalso; simp_all)
  apply wX7_addPiste
  refine ⟨fun s1 => ⟨0, rfl, bad 0 (Or.inl ⟨rfl, Or.inl s1⟩)⟩, fun s1 => ⟨fun s2 => ⟨fun s3 => ⟨1, rfl, bad 1 (Or.inr (Or.inl ⟨rfl, s1, s2, Or.inl s3⟩))⟩, fun s3 => ⟨fun s4 => ⟨1, rfl, bad 1 (Or.inr (Or.inl ⟨rfl, s1, s2, Or.inr (Or.inl s4)⟩))⟩, fun s4 => ⟨fun s5 => ⟨fun s6 => ?_, fun s6 => ⟨2, rfl, bad 2 (Or.inr (Or.inr ⟨rfl, s1, s2, s3, s4, s5, ?_⟩))⟩⟩, fun s5 => ⟨1, rfl, bad 1 (Or.inr (Or.inl ⟨rfl, s1, s2, Or.inr (Or.inr s5)⟩))⟩⟩⟩⟩, fun s2 => ⟨0, rfl, bad 0 (Or.inl ⟨rfl, Or.inr s2⟩)⟩⟩⟩
  · have hn10 : np < 10 := by rw [hR.1.2.1.1, nI_ltI (by omega) (by decide)] at s6; exact s6
    obtain ⟨a, a8, ha⟩ := isSt_ex s1
    obtain ⟨a', a8', ha'⟩ := isSt_ex s2
    have n3 := (btw_n (by decide) (by decide)).mp s4
    have n4 := (btw_n (by decide) (by decide)).mp s5
    refine crem G hR h ht hH (fun μ1 hRm hR1 h1 ht1 e1 => ⟨np, by rw [e1 2 0 4 (by decide)]; exact hR.1.2.1.1, hn10, ?_⟩)
    have hR2 := np_ok hR1 hn10 (x1 := x1) (x2 := x2) (x3 := x3) (x4 := x4) ⟨a, by omega, by omega, ha⟩ ⟨a', by omega, by omega, ha'⟩ n3 n4
    have ht2 : isN (npF μ1 0 np x1 x2 x3 x4 2 0 0 7) 0 1000 := by rw [npF_o _ _ _ _ _ _ _ (by omega) (by omega)]; exact ht1
    have hF := fo_np (np := np) μ1 x1 x2 x3 x4
    have hr : row (npF μ1 0 np x1 x2 x3 x4) = row μ := (funext fun j => hF 26 0 0 j (by omega) : row (npF μ1 0 np x1 x2 x3 x4) = row μ1).trans (funext fun j => e1 26 0 j (by decide))
    refine wX5_begin G 0 (by decide) np hn10 _ _ _ _ μ1 ⟨rfl, _, rfl, ?_⟩
    rw [u8, if_neg (by omega), hR1.1.2.1.1, nI_add, nI_sub (by omega), Nat.add_sub_cancel]
    refine wX8_addPiste G _ _ _ _ _ ⟨fun w => (by rw [s1] at w; cases w), fun _ => ⟨fun _ => ⟨fun w => absurd w s3, fun _ => ⟨fun w => (by rw [s4] at w; cases w), fun _ => ⟨fun _ => ⟨fun _ => ?_, fun w => ?_⟩, fun w => (by rw [s5] at w; cases w)⟩⟩⟩, fun w => (by rw [s2] at w; cases w)⟩⟩
    · refine mkeep G hI hR h ht hH hRm hF (fun μ3 hr3 fin => ?_)
      have h3 : Rel μ1 0 nl np ng (row μ3) := by rw [hr3]; exact h1
      rw [h3.cnp hR1.1, pk_mul, nI_add]
      refine t_addPiste G hR1.1 h3 hn10 _ _ _ _ (fun μ9 a1 a2 => ?_)
      exact fin μ9 _ _ _ (hR2.mono (by omega)) ht2 (mt_of a1) a2 _
    · exfalso
      have : row (npF μ1 0 np x1 x2 x3 x4) 4 = nI 10 := w
      rw [hr, show row μ 4 = nI np from e4] at this
      exact absurd (nI_inj (by omega) (by decide) this) (by omega)
  · rw [hR.1.2.1.1, nI_ltI (by omega) (by decide)] at s6
    omega
theorem ride_ok {x : Int32} (h1 : btw (x / nI 10) (nI 1) (nI 9) = true) : btw x (nI 10) (nI 99) = true := by
  obtain ⟨m, m1, m2, m3⟩ := (btw_n (by decide) (by decide)).mp h1
  have e : (x / nI 10).toInt = x.toInt.tdiv 10 := by
    rw [Int32.toInt_div, nI_toInt (by decide)]
    have hx1 := x.toInt_lt
    have hx2 := x.le_toInt
    show (x.toInt.tdiv 10).bmod (2 ^ 32) = _
    rcases Int.lt_or_le x.toInt 0 with c | c
    · obtain ⟨y, hy⟩ : ∃ y, x.toInt = -y := ⟨-x.toInt, by omega⟩
      rw [hy, Int.neg_tdiv, Int.tdiv_eq_ediv_of_nonneg (by omega)]
      exact Int.bmod_eq_of_le (by omega) (by omega)
    · rw [Int.tdiv_eq_ediv_of_nonneg c]
      exact Int.bmod_eq_of_le (by omega) (by omega)
  rw [m3, nI_toInt (by omega)] at e
  have hx : 10 ≤ x.toInt ∧ x.toInt ≤ 99 := by
    rcases Int.lt_or_le x.toInt 0 with c | c
    · obtain ⟨y, hy⟩ : ∃ y, x.toInt = -y := ⟨-x.toInt, by omega⟩
      rw [hy, Int.neg_tdiv, Int.tdiv_eq_ediv_of_nonneg (by omega)] at e
      omega
    · rw [Int.tdiv_eq_ediv_of_nonneg c] at e
      omega
  refine (btw_n (by decide) (by decide)).mpr ⟨x.toInt.toNat, by omega, by omega, Int32.toInt_inj.mp ?_⟩
  rw [nI_toInt (by omega)]
  omega
theorem ride_all : ∀ n, n < 100 → 10 ≤ n → btw (nI n / nI 10) (nI 1) (nI 9) = true ∧ (nI n - nI n / nI 10 * nI 10 ≤ nI 3 ↔ btw (nI n - nI n / nI 10 * nI 10) (nI 0) (nI 3) = true) := by decide +kernel
theorem op_addLift (hI : Inv μ W) (x1 x2 x3 x4 x5 x6 : Int32) : Opn G mX7_addLift mX8_addLift [.int x1, .int x2, .int x3, .int x4, .int x5, .int x6] W [eIOOB, eIAE, eISE] μ := by
  obtain ⟨nl, np, ng, hR, h, ht⟩ := hI.1
  obtain ⟨x, c, hH⟩ := hI.2.2.1
  have hn := hR.1.1.2
  have e3 := h.cnl hR.1
  have r1 : btw (x6 / nI 10) (nI 1) (nI 9) = false ↔ btw x6 (nI 10) (nI 99) = false := by
    constructor
    · intro w
      cases hq : btw x6 (nI 10) (nI 99)
      · rfl
      · obtain ⟨m, m1, m2, rfl⟩ := (btw_n (by decide) (by decide)).mp hq
        rw [(ride_all m (by omega) m1).1] at w; cases w
    · intro w
      cases hq : btw (x6 / nI 10) (nI 1) (nI 9)
      · rfl
      · rw [ride_ok hq] at w; cases w
  have r2 : btw x6 (nI 10) (nI 99) = true → (x6 - x6 / nI 10 * nI 10 ≤ nI 3 ↔ btw (x6 - x6 / nI 10 * nI 10) (nI 0) (nI 3) = true) := fun w => by
    obtain ⟨m, m1, m2, rfl⟩ := (btw_n (by decide) (by decide)).mp w
    exact (ride_all m (by omega) m1).2
  have bad : ∀ k, ((k = 0 ∧ (isSt x1 = false ∨ isSt x2 = false)) ∨ (k = 1 ∧ isSt x1 = true ∧ isSt x2 = true ∧ (x1 = x2 ∨ btw x3 (nI 0) (nI 3) = false ∨ btw x4 (nI 1) (nI 6) = false ∨ btw x5 (nI 1) (nI 8) = false ∨ btw x6 (nI 10) (nI 99) = false ∨ ¬ x6 - x6 / nI 10 * nI 10 ≤ nI 3)) ∨ (k = 2 ∧ isSt x1 = true ∧ isSt x2 = true ∧ ¬ x1 = x2 ∧ btw x3 (nI 0) (nI 3) = true ∧ btw x4 (nI 1) (nI 6) = true ∧ btw x5 (nI 1) (nI 8) = true ∧ btw x6 (nI 10) (nI 99) = true ∧ x6 - x6 / nI 10 * nI 10 ≤ nI 3 ∧ nl = 6)) → Mc G mX8_addLift [.int x1, .int x2, .int x3, .int x4, .int x5, .int x6] W (k + 1) (nI 0) μ := fun k hk => by
    refine wX8_addLift G _ _ _ _ _ _ μ ⟨fun s1 => ?_, fun s1 => ⟨fun s2 => ⟨fun s3 => ?_, fun s3 => ⟨fun s4 => ?_, fun s4 => ⟨fun s5 => ?_, fun s5 => ⟨fun s6 => ?_, fun s6 => ⟨fun s7 => ?_, fun s7 => ⟨fun s8 => ⟨fun s9 => ?_, fun s9 => ?_⟩, fun s8 => ?_⟩⟩⟩⟩⟩⟩, fun s2 => ?_⟩⟩
    all_goals rcases hk with ⟨rfl, k1⟩ | ⟨rfl, k1, k2, k3⟩ | ⟨rfl, k1, k2, k3, k4, k5, k6, k7, k8, k9⟩
    all_goals first | exact qd2 hI (fun z => (by cases z)) | (exfalso; simp_all)
  apply wX7_addLift
  refine ⟨fun s1 => ⟨0, rfl, bad 0 (Or.inl ⟨rfl, Or.inl s1⟩)⟩, fun s1 => ⟨fun s2 => ⟨fun s3 => ⟨1, rfl, bad 1 (Or.inr (Or.inl ⟨rfl, s1, s2, Or.inl s3⟩))⟩, fun s3 => ⟨fun s4 => ⟨1, rfl, bad 1 (Or.inr (Or.inl ⟨rfl, s1, s2, Or.inr (Or.inl s4)⟩))⟩, fun s4 => ⟨fun s5 => ⟨1, rfl, bad 1 (Or.inr (Or.inl ⟨rfl, s1, s2, Or.inr (Or.inr (Or.inl s5))⟩))⟩, fun s5 => ⟨fun s6 => ⟨1, rfl, bad 1 (Or.inr (Or.inl ⟨rfl, s1, s2, Or.inr (Or.inr (Or.inr (Or.inl s6)))⟩))⟩, fun s6 => ⟨fun s7 => ⟨1, rfl, bad 1 (Or.inr (Or.inl ⟨rfl, s1, s2, Or.inr (Or.inr (Or.inr (Or.inr (Or.inl (r1.mp s7)))))⟩))⟩, fun s7 => ⟨fun s8 => ⟨fun s9 => ?_, fun s9 => ⟨2, rfl, bad 2 (Or.inr (Or.inr ⟨rfl, s1, s2, s3, s4, s5, s6, ride_ok s7, (r2 (ride_ok s7)).mpr s8, ?_⟩))⟩⟩, fun s8 => ⟨1, rfl, bad 1 (Or.inr (Or.inl ⟨rfl, s1, s2, Or.inr (Or.inr (Or.inr (Or.inr (Or.inr (fun w => by rw [(r2 (ride_ok s7)).mp w] at s8; cases s8)))))⟩))⟩⟩⟩⟩⟩⟩⟩, fun s2 => ⟨0, rfl, bad 0 (Or.inl ⟨rfl, Or.inr s2⟩)⟩⟩⟩
  · have hn6 : nl < 6 := by rw [hR.1.1.1, nI_ltI (by omega) (by decide)] at s9; exact s9
    obtain ⟨a, a8, ha⟩ := isSt_ex s1
    obtain ⟨a', a8', ha'⟩ := isSt_ex s2
    have n3 := (btw_n (by decide) (by decide)).mp s4
    have n4 := (btw_n (by decide) (by decide)).mp s5
    have n5 := (btw_n (by decide) (by decide)).mp s6
    have n6 := (btw_n (by decide) (by decide)).mp s7
    have n7 := (btw_n (by decide) (by decide)).mp s8
    refine crem G hR h ht hH (fun μ1 hRm hR1 h1 ht1 e1 => ⟨nl, by rw [e1 2 0 3 (by decide)]; exact hR.1.1.1, hn6, ?_⟩)
    have hR2 := nl_ok hR1 hn6 (x1 := x1) (x2 := x2) (x3 := x3) (x4 := x4) (x5 := x5) (x6 := x6) ⟨a, by omega, by omega, ha⟩ ⟨a', by omega, by omega, ha'⟩ n3 n4 n5 n6 n7
    have ht2 : isN (nlF μ1 0 nl x1 x2 x3 x4 x5 x6 2 0 0 7) 0 1000 := by rw [nlF_o _ _ _ _ _ _ _ _ _ (by omega) (by omega)]; exact ht1
    have hF := fo_nl (nl := nl) μ1 x1 x2 x3 x4 x5 x6
    have hr : row (nlF μ1 0 nl x1 x2 x3 x4 x5 x6) = row μ := (funext fun j => hF 26 0 0 j (by omega) : row (nlF μ1 0 nl x1 x2 x3 x4 x5 x6) = row μ1).trans (funext fun j => e1 26 0 j (by decide))
    refine wX4_begin G 0 (by decide) nl hn6 _ _ _ _ _ _ μ1 ⟨rfl, _, rfl, ?_⟩
    rw [u10, if_neg (by omega), hR1.1.1.1, nI_add, nI_sub (by omega), Nat.add_sub_cancel]
    refine wX8_addLift G _ _ _ _ _ _ _ ⟨fun w => (by rw [s1] at w; cases w), fun _ => ⟨fun _ => ⟨fun w => absurd w s3, fun _ => ⟨fun w => (by rw [s4] at w; cases w), fun _ => ⟨fun w => (by rw [s5] at w; cases w), fun _ => ⟨fun w => (by rw [s6] at w; cases w), fun _ => ⟨fun w => (by rw [ride_ok s7] at w; cases w), fun _ => ⟨fun _ => ⟨fun _ => ?_, fun w => ?_⟩, fun w => absurd ((r2 (ride_ok s7)).mpr s8) w⟩⟩⟩⟩⟩⟩, fun w => (by rw [s2] at w; cases w)⟩⟩
    · refine mkeep G hI hR h ht hH hRm hF (fun μ3 hr3 fin => ?_)
      have h3 : Rel μ1 0 nl np ng (row μ3) := by rw [hr3]; exact h1
      rw [h3.cnl hR1.1, pk_mul, nI_add]
      refine t_addLift G hR1 h3 hn6 _ _ _ _ _ _ (fun μ9 a1 a2 => ?_)
      exact fin μ9 _ _ _ (hR2.mono (by omega)) ht2 (mt_of a1) a2 _
    · exfalso
      have : row (nlF μ1 0 nl x1 x2 x3 x4 x5 x6) 3 = nI 6 := w
      rw [hr, show row μ 3 = nI nl from e3] at this
      exact absurd (nI_inj (by omega) (by decide) this) (by omega)
  · rw [hR.1.1.1, nI_ltI (by omega) (by decide)] at s9
    omega
end CHG3
