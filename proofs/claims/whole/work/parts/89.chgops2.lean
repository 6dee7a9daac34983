/-! ===== changes: guests, days, new lifts and pistes ===== -/
section CHG2
variable {μ : St} {W nl np ng x c : Nat} (G : Gl)
theorem op_addGuest (hI : Inv μ W) (x1 x2 x3 x4 x5 : Int32) : Opn G mX7_addGuest mX8_addGuest [.int x1, .int x2, .int x3, .int x4, .int x5] W [eIOOB, eIAE, eISE] μ := by
  obtain ⟨nl, np, ng, hR, h, ht⟩ := hI.1
  obtain ⟨x, c, hH⟩ := hI.2.2.1
  have hn := hR.1.2.2.2
  have e5 := h.cng hR.1
  -- the reference refuses
  have bad : ∀ k, ((k = 0 ∧ isSt x1 = false) ∨ (k = 1 ∧ isSt x1 = true ∧ (btw x2 (nI 1) (nI 3) = false ∨ btw x3 (nI 0) (nI 15) = false ∨ btw x4 (nI 0) (nI 1000) = false ∨ btw x5 (nI 0) (nI 1000) = false)) ∨ (k = 2 ∧ isSt x1 = true ∧ btw x2 (nI 1) (nI 3) = true ∧ btw x3 (nI 0) (nI 15) = true ∧ btw x4 (nI 0) (nI 1000) = true ∧ btw x5 (nI 0) (nI 1000) = true ∧ ng = 16)) → Mc G mX8_addGuest [.int x1, .int x2, .int x3, .int x4, .int x5] W (k + 1) (nI 0) μ := fun k hk => by
    refine wX8_addGuest G _ _ _ _ _ μ ⟨fun s1 => ⟨fun s2 => ?_, fun s2 => ⟨fun s3 => ?_, fun s3 => ⟨fun s4 => ?_, fun s4 => ⟨fun s5 => ⟨fun s6 => ?_, fun s6 => ?_⟩, fun s5 => ?_⟩⟩⟩⟩, fun s1 => ?_⟩
    all_goals rcases hk with ⟨rfl, k1⟩ | ⟨rfl, k1, k2⟩ | ⟨rfl, k1, k2, k3, k4, k5, k6⟩
    all_goals first | exact qd2 hI (fun z => (by cases z)) | (exfalso; simp_all)
  apply wX7_addGuest
  refine ⟨fun s1 => ⟨fun s2 => ⟨1, rfl, bad 1 (Or.inr (Or.inl ⟨rfl, s1, Or.inl s2⟩))⟩, fun s2 => ⟨fun s3 => ⟨1, rfl, bad 1 (Or.inr (Or.inl ⟨rfl, s1, Or.inr (Or.inl s3)⟩))⟩, fun s3 => ⟨fun s4 => ⟨1, rfl, bad 1 (Or.inr (Or.inl ⟨rfl, s1, Or.inr (Or.inr (Or.inl s4))⟩))⟩, fun s4 => ⟨fun s5 => ⟨fun s6 => ?_, fun s6 => ⟨2, rfl, bad 2 (Or.inr (Or.inr ⟨rfl, s1, s2, s3, s4, s5, ?_⟩))⟩⟩, fun s5 => ⟨1, rfl, bad 1 (Or.inr (Or.inl ⟨rfl, s1, Or.inr (Or.inr (Or.inr s5))⟩))⟩⟩⟩⟩⟩, fun s1 => ⟨0, rfl, bad 0 (Or.inl ⟨rfl, s1⟩)⟩⟩
  · have hn16 : ng < 16 := by rw [hR.1.2.2.1, nI_ltI (by omega) (by decide)] at s6; exact s6
    obtain ⟨a, a8, rfl⟩ := isSt_ex s1
    have n2 := (btw_n (by decide) (by decide)).mp s2
    refine crem G hR h ht hH (fun μ1 hRm hR1 h1 ht1 e1 => ?_)
    have hR2 := we_ok (x1 := nI a) (x2 := x2) (x3 := x3) (x4 := x4) (x5 := x5) hR1 hn16 ⟨a, by omega, by omega, rfl⟩ n2
    have ht2 : isN (weF μ1 0 ng (nI a) x2 x3 x4 x5 2 0 0 7) 0 1000 := by rw [weF_o _ _ _ _ _ _ _ _ (by omega) (by omega)]; exact ht1
    have rrow : row (weF μ1 0 ng (nI a) x2 x3 x4 x5) = row μ1 := funext fun j => fo_we μ1 _ _ _ _ _ 26 0 0 j (by omega)
    refine (s_X0_welcome G (by decide) hR1.1 hn16 (nI a) x2 x3 x4 x5).mono (fun v μ2 hp => ⟨_, hp.1, _, rfl, ?_⟩) (fun _ _ hp => hp)
    obtain ⟨-, rfl⟩ := hp
    refine wX8_addGuest G _ _ _ _ _ _ ?_
    rw [s1, s2, s3, s4, s5]
    simp only [Bool.true_eq_false, false_implies, true_implies, true_and, and_true]
    refine ⟨fun _ => ?_, fun z => absurd z (by
      rw [show weF μ1 0 ng (nI a) x2 x3 x4 x5 26 0 0 5 = row μ1 5 by rw [← rrow]]
      rw [show row μ1 5 = nI ng from h1.cng hR1.1]
      exact nI_ne (by omega) (by omega) (by omega))⟩
    refine mkeep G hI hR h ht hH hRm (fo_we μ1 _ _ _ _ _) (fun μ3 hr3 fin => ?_)
    have h3 : Rel μ1 0 nl np ng (row μ3) := by rw [hr3]; exact h1
    refine (s_X8_arrives G hR1.1 h3 hn16 (nI a) x2 x3 x4 x5).mono (fun v μ4 hp => ⟨hp.1, ?_⟩) (fun _ _ hp => hp)
    obtain ⟨-, p1, p2⟩ := hp
    rw [p2.cng hR2.1, nI_sub (by omega), Nat.add_sub_cancel]
    exact fin μ4 _ _ _ (hR2.mono (by omega)) ht2 (mt_of p1) p2 _
  · rw [hR.1.2.2.1, nI_ltI (by omega) (by decide)] at s6
    omega
/-- a refusal -/
theorem refu (hI : Inv μ W) (hR : Rok μ 0 nl np ng W) (h : Rel μ 0 nl np ng (row μ)) (ht : isN (μ 2 0 0 7) 0 1000) {g : Nat} (hg : g < ng) (x2 : Int32) : ∀ μ1, μ1 = up (up μ 9 0 0 7 x2) 3 0 g 10 ((μ 3 0 g 10) + (nI 1)) → ∀ y, Con G mX8_refuses [.ref (zad G.1 10 0 0), .int (nI g), .int x2] (up μ1 10 0 0 6 y) (MP W 2 (nI 0)) noX := fun μ1 hμ y => by
  have hn := hR.1.2.2.2
  apply wX8_refuses G g (by omega)
  subst hμ
  obtain ⟨-, h2, ⟨x, c, h3⟩, h4, h5, t, n, h6, h7⟩ := hI
  generalize hμ9 : up (up (up (up (up (up μ 9 0 0 7 x2) 3 0 g 10 (μ 3 0 g 10 + nI 1)) 10 0 0 6 y) 10 0 0 5 x2) 26 0 0 (212 + 10 * g + 9) (up (up (up μ 9 0 0 7 x2) 3 0 g 10 (μ 3 0 g 10 + nI 1)) 10 0 0 6 y 26 0 0 (212 + 10 * g + 9) + nI 1)) 10 0 0 6 (nI 2) = μ9
  have e : ∀ k b i s, ¬ (k = 9 ∧ s = 7) → ¬ (k = 3 ∧ b = 0) → ¬ (k = 10 ∧ (s = 5 ∨ s = 6)) → k ≠ 26 → μ9 k b i s = μ k b i s := fun k b i s a1 a2 a3 a4 => by
    rw [← hμ9]
    unfold up
    rw [if_neg (by omega), if_neg (by omega), if_neg (by omega), if_neg (by omega), if_neg (by omega), if_neg (by omega)]
  have e3 : ∀ i s, μ9 3 0 i s = up μ 3 0 g 10 (μ 3 0 g 10 + nI 1) 3 0 i s := fun i s => by
    rw [← hμ9, up_k (by decide), up_k (by decide), up_k (by decide), up_k (by decide)]
    unfold up
    by_cases c : i = g ∧ s = 10
    · rw [if_pos ⟨rfl, rfl, c.1, c.2⟩, if_pos ⟨rfl, rfl, c.1, c.2⟩]
    · rw [if_neg (fun z => c z.2.2), if_neg (by omega), if_neg (fun z => c z.2.2)]
  have e26 : ∀ j, row μ9 j = if j = 212 + 10 * g + 9 then row μ (212 + 10 * g + 9) + nI 1 else row μ j := fun j => by
    rw [← hμ9, row_o (by decide), row_up, row_o (by decide), row_o (by decide), row_o (by decide), row_o (by decide)]
    rw [up_k (by decide), up_k (by decide), up_k (by decide)]
  refine ⟨nI 0, rfl, ⟨⟨nl, np, ng, ?_, ?_, ?_⟩, ?_, ⟨x, c, ?_⟩, ?_, ?_, t, n, ⟨?_, h6.2.1, fun j hj => ?_, h6.2.2.2⟩, ⟨?_, h7.2.1, fun j hj => ?_, h7.2.2.2⟩⟩, ?_, fun z => (by cases z)⟩
  · refine ((rf_ok hR (g := g) (x := μ 3 0 g 10 + nI 1)).mono (by omega)).congr (fun s _ _ => ?_) (fun l s _ _ => ?_) (fun l s _ _ => ?_) (fun l s _ _ => e3 _ _)
    all_goals rw [e _ _ _ _ (by omega) (by omega) (by omega) (by decide), up_k (by decide)]
  · refine (rf_rel h hg e26).congr (fun s _ _ => ?_) (fun l s _ _ => ?_) (fun l s _ _ => ?_) (fun l s _ _ => e3 _ _) (fun _ _ => rfl)
    all_goals rw [e _ _ _ _ (by omega) (by omega) (by omega) (by decide), up_k (by decide)]
  · rw [e _ _ _ _ (by omega) (by omega) (by omega) (by decide)]; exact ht
  · rw [e 9 0 0 6 (by omega) (by omega) (by omega) (by decide), e 10 0 0 2 (by omega) (by omega) (by omega) (by decide)]
    rcases h2 with h2 | ⟨a, b, d⟩
    · exact Or.inl h2
    · exact Or.inr ⟨a, b, (d.mono (by omega)).congr (fun k i s hk => e _ _ _ _ (by omega) (by omega) (by omega) (by omega)) (fun i _ => e _ _ _ _ (by omega) (by omega) (by omega) (by decide))⟩
  · exact (h3.mono (by omega)).congr (fun y k i s hy hk => e _ _ _ _ (by omega) (by omega) (by omega) (by omega)) (fun s => e _ _ _ _ (by omega) (by omega) (by omega) (by decide)) (e _ _ _ _ (by omega) (by omega) (by omega) (by decide)) (fun i => e _ _ _ _ (by omega) (by omega) (by omega) (by decide))
  · rw [← hμ9, up_k (by decide), up_k (by decide), up_k (by decide), up_k (by decide), up_k (by decide), up_self, up_sl (by decide), up_k (by decide), up_self]
  · rw [e 9 0 0 8 (by omega) (by omega) (by omega) (by decide), e 10 0 0 14 (by omega) (by omega) (by omega) (by decide), e 10 0 0 15 (by omega) (by omega) (by omega) (by decide)]; exact h5
  · rw [e _ _ _ _ (by omega) (by omega) (by omega) (by decide)]; exact h6.1
  · rw [e _ _ _ _ (by omega) (by omega) (by omega) (by decide)]; exact h6.2.2.1 j hj
  · rw [e _ _ _ _ (by omega) (by omega) (by omega) (by decide)]; exact h7.1
  · rw [e _ _ _ _ (by omega) (by omega) (by omega) (by decide)]; exact h7.2.2.1 j hj
  · rw [← hμ9]; exact up_self _ _ _ _ _ _
theorem mnl_eq {μ μ' : St} (h : row μ' = row μ) (g l : Nat) : mnl μ' g l = mnl μ g l := by
  have e : ∀ j, μ' 26 0 0 j = μ 26 0 0 j := fun j => congrFun h j
  unfold mnl mop msf
  simp only [e]
theorem mnp_eq {μ μ' : St} (h : row μ' = row μ) (g l : Nat) : mnp μ' g l = mnp μ g l := by
  have e : ∀ j, μ' 26 0 0 j = μ 26 0 0 j := fun j => congrFun h j
  unfold mnp
  simp only [e]
theorem mix_eq {μ μ' : St} (h : row μ' = row μ) (k : Nat) (y : Int32) : mix μ' k y = mix μ k y := by
  have e : ∀ j, μ' 26 0 0 j = μ 26 0 0 j := fun j => congrFun h j
  unfold mix
  rw [e]
theorem qrF_n (μ : St) (b g l ng : Nat) : ∃ n, n ≤ 5 ∧ qrF μ b g l ng = nI n := by
  unfold qrF
  split
  · split
    · split
      · split
        · exact ⟨4, by decide, rfl⟩
        · split
          · exact ⟨0, by decide, rfl⟩
          · exact ⟨5, by decide, rfl⟩
      · exact ⟨3, by decide, rfl⟩
    · exact ⟨2, by decide, rfl⟩
  · exact ⟨1, by decide, rfl⟩
theorem srF_n (μ : St) (b g p : Nat) : ∃ n, n ≤ 7 ∧ srF μ b g p = nI n := by
  unfold srF
  split
  · split
    · split
      · split
        · exact ⟨7, by decide, rfl⟩
        · exact ⟨0, by decide, rfl⟩
      · exact ⟨6, by decide, rfl⟩
    · exact ⟨2, by decide, rfl⟩
  · exact ⟨1, by decide, rfl⟩
theorem qrF_0 {g l : Nat} (h : qrF μ 0 g l ng = 0) : μ 3 0 g 4 = nI 0 ∧ gwF μ 0 (nI 1) (nI l) ng < nI 10 := by
  unfold qrF at h
  by_cases h1 : μ 3 0 g 4 = 0
  · rw [if_pos h1] at h
    by_cases h2 : μ 3 0 g 5 = μ 6 0 l 0
    · rw [if_pos h2] at h
      by_cases h3 : iop μ 0 g l = true
      · rw [if_pos h3] at h
        by_cases h4 : ihd μ 0 l = true
        · rw [if_pos h4] at h; exact absurd h (by decide)
        · rw [if_neg h4] at h
          by_cases h5 : gwF μ 0 (nI 1) (nI l) ng < nI 10
          · exact ⟨by rw [h1, nI_0], h5⟩
          · rw [if_neg h5] at h; exact absurd h (by decide)
      · rw [if_neg h3] at h; exact absurd h (by decide)
    · rw [if_neg h2] at h; exact absurd h (by decide)
  · rw [if_neg h1] at h; exact absurd h (by decide)
theorem srF_0 {g l : Nat} (h : srF μ 0 g l = 0) : μ 3 0 g 4 = nI 0 := by
  unfold srF at h
  by_cases h1 : μ 3 0 g 4 = 0
  · rw [h1, nI_0]
  · rw [if_neg h1] at h; exact absurd h (by decide)
theorem le0_n {n : Nat} (hn : n < 2 ^ 31) : nI n ≤ (0 : Int32) ↔ nI n = 0 := by
  rw [← nI_0, nI_leI hn (by decide), eq_n hn (by decide)]
  omega
theorem op_queue (hI : Inv μ W) (x1 x2 : Int32) : Opn G mX7_queue mX8_queue [.int x1, .int x2] W [eIOOB, eUOE] μ := by
  obtain ⟨nl, np, ng, hR, h, ht⟩ := hI.1
  obtain ⟨x, c, hH⟩ := hI.2.2.1
  have m5 := mix5 hR h
  have m3 := mix3 hR h
  have bad : (idx x1 (μ 2 0 0 5) = false ∨ idx x2 (μ 2 0 0 3) = false) → XP G mX8_queue [.int x1, .int x2] W [eIOOB, eUOE] eIOOB μ := fun hb => by
    refine ⟨0, rfl, wX8_queue G x1 x2 μ ?_⟩
    rw [mix_up, mix_up, m5, m3]
    refine ⟨fun _ => qd2 hI (fun z => (by cases z)), fun z => ⟨fun z2 => ?_, fun _ => qd2 hI (fun z => (by cases z))⟩⟩
    rcases hb with hb | hb
    · rw [hb] at z; cases z
    · rw [hb] at z2; cases z2
  apply wX7_queue
  refine ⟨le16 hR.1.2.2.1 hR.1.2.2.2 (by decide), fun hx => ⟨le16 hR.1.1.1 hR.1.1.2 (by decide), fun _ => bad (Or.inl hx), fun _ _ _ _ => bad (Or.inl hx)⟩, fun g hg e1 hx => ⟨le16 hR.1.1.1 hR.1.1.2 (by decide), fun hy => bad (Or.inr hy), fun l hl e2 hy => ?_⟩⟩
  subst e1; subst e2
  have hgn : g < ng := by rw [hR.1.2.2.1] at hx; exact idx_lt hg hR.1.2.2.2 hx
  have hln : l < nl := by rw [hR.1.1.1] at hy; have := hR.1.1.2; exact idx_lt (by omega) (by omega) hy
  have hq := h.eqrF hgn hln
  obtain ⟨n, n5, hqn⟩ := qrF_n μ 0 g l ng
  refine (s_X0_queueRefusal G (by decide) hR.1 hg hl).mono (fun v μ1 hp => ⟨_, hp.1, ?_⟩) (fun _ _ hp => absurd hp (fun z => z))
  obtain ⟨-, rfl⟩ := hp
  refine ⟨fun z => ?_, fun z => ?_⟩
  · obtain ⟨h4, hw⟩ := qrF_0 z
    refine crem G hR h ht hH (fun μ2 hRm hR1 h1 ht1 e1 => ?_)
    have h4' : μ2 3 0 g 4 = nI 0 := by rw [e1 3 g 4 (by decide)]; exact h4
    have egw : gwF μ2 0 (nI 1) (nI l) ng = gwF μ1 0 (nI 1) (nI l) ng := by
      rw [(h1.2.2.2.2.2 l hln).gw h1.1.2.2, (h.2.2.2.2.2 l hln).gw h.1.2.2]
      exact e1 26 0 _ (by decide)
    have hw' : gwF μ2 0 (nI 1) (nI l) ng < nI 10 := by rw [egw]; exact hw
    have h6 := ((hR1.2.2.2.2 g hgn).stands h4').2
    obtain ⟨q, q1, q2, -⟩ := h1.2.2.2.2.2 l hln
    have egq : gwF μ2 0 (nI 1) (nI l) ng = nI q := by rw [(h1.2.2.2.2.2 l hln).gw h1.1.2.2]; exact q2
    have q9 : q < 10 := by rw [egq] at hw'; exact (nI_ltI (by omega) (by decide)).mp hw'
    have hR2 := jq_ok hR1 hgn hln egq q9
    have ht2 : isN (jqF μ2 0 g l ng 2 0 0 7) 0 1000 := by unfold jqF; rw [gbc_k (by decide)]; exact ht1
    refine (s_X0_joinQueue G (by decide) hR1.1 hg).mono (fun v μ3 hp => ⟨_, hp.1, _, rfl, ?_⟩) (fun _ _ hp => hp)
    obtain ⟨-, rfl⟩ := hp
    have rrow : row (jqF μ2 0 g l ng) = row μ2 := funext fun j => fo_jq μ2 g l 26 0 0 j (by omega)
    have rrow2 : row (jqF μ2 0 g l ng) = row μ1 := rrow.trans (funext fun j => e1 26 0 j (by decide))
    refine wX8_queue G _ _ _ ?_
    rw [mix_up, mix_up, mix_eq rrow2, mix_eq rrow2, m5, m3, hx, hy]
    refine ⟨fun w => (by cases w), fun _ => ⟨fun _ => ⟨g, rfl, hg, l, rfl, hl, ?_⟩, fun w => (by cases w)⟩⟩
    rw [mnl_up, mnl_eq rrow2, hq, z]
    refine ⟨fun _ => ?_, fun w => absurd (show (0 : Int32) ≤ 0 by decide) w⟩
    refine mkeep G hI hR h ht hH hRm (fo_jq μ2 g l) (fun μ4 hr4 fin => ?_)
    have h3 : Rel μ2 0 nl np ng (row μ4) := by rw [hr4]; exact h1
    refine (s_X8_standIn G hR1.1 h3 hgn hln h4' h6 hw').mono (fun v μ5 hp => ⟨_, hp.1, ?_⟩) (fun _ _ hp => hp)
    exact fin μ5 _ _ _ (hR2.mono (by omega)) ht2 (mt_of hp.2.1) hp.2.2 _
  · refine wX7_keepRefusal G g hg _ μ1 ⟨rfl, 1, rfl, ?_⟩
    have rrow : row (up (up μ1 9 0 0 7 (qrF μ1 0 g l ng)) 3 0 g 10 ((μ1 3 0 g 10) + (nI 1))) = row μ1 := by rw [row_o (by decide), row_o (by decide)]
    refine wX8_queue G _ _ _ ?_
    rw [mix_up, mix_up, mix_eq rrow, mix_eq rrow, m5, m3, hx, hy]
    refine ⟨fun w => (by cases w), fun _ => ⟨fun _ => ⟨g, rfl, hg, l, rfl, hl, ?_⟩, fun w => (by cases w)⟩⟩
    rw [mnl_up, mnl_eq rrow, hq]
    refine ⟨fun w => absurd (by rw [hqn] at w ⊢; exact (le0_n (by omega)).mp w) z, fun _ => ?_⟩
    refine (refu G hI hR h ht hgn (qrF μ1 0 g l ng) _ rfl (nI 0)).mono (fun v μ3 hp => ?_) (fun _ _ hp => hp)
    obtain ⟨r, p1, p2, p3, p4⟩ := hp
    exact ⟨r, p1, r, rfl, p2, p3, fun z => (by cases z)⟩
theorem op_ski (hI : Inv μ W) (x1 x2 : Int32) : Opn G mX7_ski mX8_ski [.int x1, .int x2] W [eIOOB, eUOE] μ := by
  obtain ⟨nl, np, ng, hR, h, ht⟩ := hI.1
  obtain ⟨x, c, hH⟩ := hI.2.2.1
  have m5 := mix5 hR h
  have m3 := mix4 hR h
  have bad : (idx x1 (μ 2 0 0 5) = false ∨ idx x2 (μ 2 0 0 4) = false) → XP G mX8_ski [.int x1, .int x2] W [eIOOB, eUOE] eIOOB μ := fun hb => by
    refine ⟨0, rfl, wX8_ski G x1 x2 μ ?_⟩
    rw [mix_up, mix_up, m5, m3]
    refine ⟨fun _ => qd2 hI (fun z => (by cases z)), fun z => ⟨fun z2 => ?_, fun _ => qd2 hI (fun z => (by cases z))⟩⟩
    rcases hb with hb | hb
    · rw [hb] at z; cases z
    · rw [hb] at z2; cases z2
  apply wX7_ski
  refine ⟨le16 hR.1.2.2.1 hR.1.2.2.2 (by decide), fun hx => ⟨le16 hR.1.2.1.1 hR.1.2.1.2 (by decide), fun _ => bad (Or.inl hx), fun _ _ _ _ => bad (Or.inl hx)⟩, fun g hg e1 hx => ⟨le16 hR.1.2.1.1 hR.1.2.1.2 (by decide), fun hy => bad (Or.inr hy), fun l hl e2 hy => ?_⟩⟩
  subst e1; subst e2
  have hgn : g < ng := by rw [hR.1.2.2.1] at hx; exact idx_lt hg hR.1.2.2.2 hx
  have hln : l < np := by rw [hR.1.2.1.1] at hy; have := hR.1.2.1.2; exact idx_lt (by omega) (by omega) hy
  have hq := h.esrF hgn hln
  obtain ⟨n, n5, hqn⟩ := srF_n μ 0 g l
  refine (s_X0_skiRefusal G (by decide) hg hl).mono (fun v μ1 hp => ⟨_, hp.1, ?_⟩) (fun _ _ hp => absurd hp (fun z => z))
  obtain ⟨-, rfl⟩ := hp
  refine ⟨fun z => ?_, fun z => ?_⟩
  · have h4 := srF_0 z
    refine crem G hR h ht hH (fun μ2 hRm hR1 h1 ht1 e1 => ?_)
    have h4' : μ2 3 0 g 4 = nI 0 := by rw [e1 3 g 4 (by decide)]; exact h4
    have hR2 := sp_ok hR1 hgn hln
    have ht2 : isN (spF μ2 0 g l 2 0 0 7) 0 1000 := by
      unfold spF
      rw [up_k (by decide), up_k (by decide), up_k (by decide), gbc_k (by decide)]; exact ht1
    refine (s_X0_startPiste G (by decide) hg hl).mono (fun v μ3 hp => ⟨_, hp.1, _, rfl, ?_⟩) (fun _ _ hp => hp)
    obtain ⟨-, rfl⟩ := hp
    have rrow : row (spF μ2 0 g l) = row μ2 := funext fun j => fo_sp μ2 g l 26 0 0 j (by omega)
    have rrow2 : row (spF μ2 0 g l) = row μ1 := rrow.trans (funext fun j => e1 26 0 j (by decide))
    refine wX8_ski G _ _ _ ?_
    rw [mix_up, mix_up, mix_eq rrow2, mix_eq rrow2, m5, m3, hx, hy]
    refine ⟨fun w => (by cases w), fun _ => ⟨fun _ => ⟨g, rfl, hg, l, rfl, hl, ?_⟩, fun w => (by cases w)⟩⟩
    rw [mnp_up, mnp_eq rrow2, hq, z]
    refine ⟨fun _ => ?_, fun w => absurd (show (0 : Int32) ≤ 0 by decide) w⟩
    refine mkeep G hI hR h ht hH hRm (fo_sp μ2 g l) (fun μ4 hr4 fin => ?_)
    have h3 : Rel μ2 0 nl np ng (row μ4) := by rw [hr4]; exact h1
    refine (s_X8_goDown G hR1.1 h3 hgn hln h4').mono (fun v μ5 hp => ⟨_, hp.1, ?_⟩) (fun _ _ hp => hp)
    exact fin μ5 _ _ _ (hR2.mono (by omega)) ht2 (mt_of hp.2.1) hp.2.2 _
  · refine wX7_keepRefusal G g hg _ μ1 ⟨rfl, 1, rfl, ?_⟩
    have rrow : row (up (up μ1 9 0 0 7 (srF μ1 0 g l)) 3 0 g 10 ((μ1 3 0 g 10) + (nI 1))) = row μ1 := by rw [row_o (by decide), row_o (by decide)]
    refine wX8_ski G _ _ _ ?_
    rw [mix_up, mix_up, mix_eq rrow, mix_eq rrow, m5, m3, hx, hy]
    refine ⟨fun w => (by cases w), fun _ => ⟨fun _ => ⟨g, rfl, hg, l, rfl, hl, ?_⟩, fun w => (by cases w)⟩⟩
    rw [mnp_up, mnp_eq rrow, hq]
    refine ⟨fun w => absurd (by rw [hqn] at w ⊢; exact (le0_n (by omega)).mp w) z, fun _ => ?_⟩
    refine (refu G hI hR h ht hgn (srF μ1 0 g l) _ rfl (nI 0)).mono (fun v μ3 hp => ?_) (fun _ _ hp => hp)
    obtain ⟨r, p1, p2, p3, p4⟩ := hp
    exact ⟨r, p1, r, rfl, p2, p3, fun z => (by cases z)⟩
end CHG2
