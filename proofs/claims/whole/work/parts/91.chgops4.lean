/-! ===== clearing, undoing, saving, the input ===== -/
section CHG4
variable {μ : St} {W nl np ng x c : Nat} (G : Gl)
/-- a change that touches area 0, its row, the histories and the saved ones: what else must stay -/
theorem inv_mk {μ9 : St} {W' : Nat} (hI : Inv μ W) (h1 : AR μ9 0 (row μ9) W') (h2 : (μ9 9 0 0 6 = nI 0 ∧ μ9 10 0 0 2 = nI 0) ∨ (μ9 9 0 0 6 = nI 1 ∧ μ9 10 0 0 2 = nI 1 ∧ AR μ9 2 (fun i => μ9 27 0 0 i) W')) (h3 : ∃ x c, HR μ9 W' x c) (e : ∀ k i s, (k = 9 ∧ s ≠ 6) ∨ (k = 10 ∧ s ≠ 2 ∧ s ≠ 4 ∧ s ≠ 6) ∨ k = 5 ∨ k = 24 ∨ k = 31 → μ9 k 0 i s = μ k 0 i s) : Inv μ9 W' := by
  obtain ⟨-, -, -, h4, h5, t, n, h6, h7⟩ := hI
  refine ⟨h1, h2, h3, ?_, ?_, t, n, ⟨?_, h6.2.1, fun j hj => ?_, h6.2.2.2⟩, ⟨?_, h7.2.1, fun j hj => ?_, h7.2.2.2⟩⟩
  · rw [e 9 0 7 (by omega), e 10 0 5 (by omega)]; exact h4
  · rw [e 9 0 8 (by omega), e 10 0 14 (by omega), e 10 0 15 (by omega)]; exact h5
  · rw [e 5 0 1 (by omega)]; exact h6.1
  · rw [e 24 0 j (by omega)]; exact h6.2.2.1 j hj
  · rw [e 10 0 10 (by omega)]; exact h7.1
  · rw [e 31 0 j (by omega)]; exact h7.2.2.1 j hj
theorem sav_same {μ9 : St} (hI : Inv μ W) (e : ∀ k i s, k = 2 ∨ k = 3 ∨ k = 6 ∨ k = 7 → μ9 k 2 i s = μ k 2 i s) (e1 : μ9 9 0 0 6 = μ 9 0 0 6) (e2 : μ9 10 0 0 2 = μ 10 0 0 2) (e3 : ∀ i, μ9 27 0 0 i = μ 27 0 0 i) {W' : Nat} (hw : W ≤ W') : (μ9 9 0 0 6 = nI 0 ∧ μ9 10 0 0 2 = nI 0) ∨ (μ9 9 0 0 6 = nI 1 ∧ μ9 10 0 0 2 = nI 1 ∧ AR μ9 2 (fun i => μ9 27 0 0 i) W') := by
  rw [e1, e2]
  rcases hI.2.1 with h | ⟨a, b, d⟩
  · exact Or.inl h
  · exact Or.inr ⟨a, b, (d.mono hw).congr e (fun i _ => e3 i)⟩
theorem op_clear (hI : Inv μ W) : Opn G mX7_clear mX8_clear [] W [] μ := by
  obtain ⟨nl, np, ng, hR, h, ht⟩ := hI.1
  obtain ⟨x, c, hH⟩ := hI.2.2.1
  apply wX7_clear
  refine wX0_becomeEmpty G 0 (by decide) μ ⟨rfl, ?_⟩
  refine wX2_forgetAll G _ ⟨rfl, _, rfl, ?_⟩
  generalize hμ2 : up (up (up (up (up (up (up μ 2 0 0 3 (nI 0)) 2 0 0 4 (nI 0)) 2 0 0 5 (nI 0)) 2 0 0 6 (nI 0)) 2 0 0 7 (nI 0)) 2 0 0 8 (nI 0)) 4 0 0 2 (nI 0) = μ2
  have e : ∀ k b i s, ¬ (k = 2 ∧ b = 0 ∧ i = 0 ∧ 3 ≤ s ∧ s ≤ 8) → ¬ (k = 4 ∧ s = 2) → μ2 k b i s = μ k b i s := fun k b i s h1 h2 => by
    rw [← hμ2]
    unfold up
    rw [if_neg (by omega), if_neg (by omega), if_neg (by omega), if_neg (by omega), if_neg (by omega), if_neg (by omega), if_neg (by omega)]
  have z : ∀ s, 3 ≤ s → s ≤ 8 → μ2 2 0 0 s = nI 0 := fun s s3 s8 => by
    rw [← hμ2, up_k (by decide)]
    have : s = 3 ∨ s = 4 ∨ s = 5 ∨ s = 6 ∨ s = 7 ∨ s = 8 := by omega
    rcases this with rfl | rfl | rfl | rfl | rfl | rfl
    · rw [up_sl (by decide), up_sl (by decide), up_sl (by decide), up_sl (by decide), up_sl (by decide), up_self]
    · rw [up_sl (by decide), up_sl (by decide), up_sl (by decide), up_sl (by decide), up_self]
    · rw [up_sl (by decide), up_sl (by decide), up_sl (by decide), up_self]
    · rw [up_sl (by decide), up_sl (by decide), up_self]
    · rw [up_sl (by decide), up_self]
    · rw [up_self]
  refine (s_X8_clear G μ2).mono (fun v μ9 hp => ?_) (fun _ _ hp => hp)
  obtain ⟨rfl, hμ9⟩ := hp
  have e9 : ∀ k b i s, k ≠ 26 → ¬ (k = 10 ∧ (s = 4 ∨ s = 6)) → μ9 k b i s = μ2 k b i s := fun k b i s h1 h2 => by
    rw [hμ9]
    rw [show ∀ (y : St) w, up y 10 0 0 4 w k b i s = y k b i s from fun y w => by unfold up; rw [if_neg (by omega)], cpR_k h1]
    unfold up
    rw [if_neg (by omega)]
  have z26 : ∀ j, j < 372 → row μ9 j = nI 0 := fun j hj => by
    show μ9 26 0 0 j = _
    rw [hμ9, up_k (by decide), cpR_at (by omega) (by omega)]
  refine ⟨_, rfl, inv_mk hI ⟨0, 0, 0, ?_, ?_, ?_⟩ (sav_same hI (fun k i s hk => ?_) ?_ ?_ (fun i => ?_) (by omega)) ⟨x, 0, HR.none (hH.mono (by omega)) ?_ ?_ ?_⟩ (fun k i s hk => ?_), ?_, fun _ => ?_⟩
  · have q : ∀ s, 3 ≤ s → s ≤ 8 → μ9 2 0 0 s = nI 0 := fun s s3 s8 => by rw [e9 _ _ _ _ (by decide) (by omega), z s s3 s8]
    exact ⟨⟨⟨q 3 (by decide) (by decide), by decide⟩, ⟨q 4 (by decide) (by decide), by decide⟩, ⟨q 5 (by decide) (by decide), by decide⟩⟩, ⟨⟨0, by decide, by decide, q 6 (by decide) (by decide)⟩, ⟨0, by decide, by decide, q 8 (by decide) (by decide)⟩⟩, fun l hl => absurd hl (by omega), fun l hl => absurd hl (by omega), fun l hl => absurd hl (by omega)⟩
  · refine ⟨⟨by decide, by decide, by decide⟩, ⟨fun k hk => ?_, fun k hk => ?_⟩, fun l hl => absurd hl (by omega), fun l hl => absurd hl (by omega), fun l hl => absurd hl (by omega), fun l hl => absurd hl (by omega)⟩
    · rw [z26 k (by omega), e9 _ _ _ _ (by decide) (by omega), z _ (by omega) (by omega)]
    · rw [z26 (3 + k) (by omega), e9 _ _ _ _ (by decide) (by omega), z _ (by omega) (by omega)]
  · rw [e9 _ _ _ _ (by decide) (by omega), z 7 (by decide) (by decide)]
    exact ⟨0, by decide, by decide, rfl⟩
  · rw [e9 _ _ _ _ (by omega) (by omega), e _ _ _ _ (by omega) (by omega)]
  · rw [e9 _ _ _ _ (by decide) (by omega), e _ _ _ _ (by omega) (by omega)]
  · rw [e9 _ _ _ _ (by decide) (by omega), e _ _ _ _ (by omega) (by omega)]
  · rw [e9 _ _ _ _ (by decide) (by omega), e _ _ _ _ (by omega) (by omega)]
  · rw [e9 _ _ _ _ (by decide) (by omega), e _ _ _ _ (by omega) (by omega)]
  · rw [e9 _ _ _ _ (by decide) (by omega), ← hμ2, up_self]
  · rw [hμ9, up_self]
  · rw [e9 _ _ _ _ (by omega) (by omega), e _ _ _ _ (by omega) (by omega)]
  · rw [hμ9, up_sl (by decide), cpR_k (by decide), up_self]
  · rw [e 26 0 0 5 (by omega) (by omega)]
    exact (h.cng hR.1).trans hR.1.2.2.1.symm
theorem op_undo (hI : Inv μ W) : Opn G mX7_undo mX8_undo [] W [eNSE] μ := by
  obtain ⟨x, c, hH⟩ := hI.2.2.1
  have hHc := hH
  obtain ⟨⟨hx8, hc8⟩, a1, a2, a3, -⟩ := hHc
  apply wX7_undo
  rw [a2, ← nI_0, nI_ltI (by decide) (by omega)]
  refine ⟨fun h0 => ?_, fun h0 => ⟨0, rfl, wX8_undo G μ ?_⟩⟩
  · obtain ⟨nl, np, ng, hR, h, ht⟩ := hH.top h0
    have hy : (x + 7) % 8 < 8 := Nat.mod_lt _ (by decide)
    refine (s_X2_takeBack G (b := 0) (by decide) hx8 hc8 h0 hR.1 a1 a2).mono (fun v μ1 hp => ⟨hp.1, _, rfl, ?_⟩) (fun _ _ hp => hp)
    obtain ⟨-, μa, hp, rfl⟩ := hp
    have e1 : ∀ k b i s, b ≠ 0 → ¬ (k = 4 ∧ (s = 1 ∨ s = 2)) → up μa 4 0 0 2 (nI (c - 1)) k b i s = μ k b i s := fun k b i s hb hk => by
      rw [show ∀ (y : St) w, up y 4 0 0 2 w k b i s = y k b i s from fun y w => by unfold up; rw [if_neg (by omega)], hp.1 k b i s hb]
      unfold up
      rw [if_neg (by omega)]
    have e0 : ∀ k i s, k ≠ 2 → k ≠ 3 → k ≠ 6 → k ≠ 7 → ¬ (k = 4 ∧ (s = 1 ∨ s = 2)) → up μa 4 0 0 2 (nI (c - 1)) k 0 i s = μ k 0 i s := fun k i s h2 h3 h6 h7 hk => by
      rw [show ∀ (y : St) w, up y 4 0 0 2 w k 0 i s = y k 0 i s from fun y w => by unfold up; rw [if_neg (by omega)], hp.2.1 k i s h2 h3 h6 h7]
      unfold up
      rw [if_neg (by omega)]
    have q4 : up μa 4 0 0 2 (nI (c - 1)) 10 0 0 4 = nI c := by rw [e0 10 0 4 (by decide) (by decide) (by decide) (by decide) (by omega), a3]
    refine (s_X8_undo G (up μa 4 0 0 2 (nI (c - 1))) h0 hc8 q4).mono (fun v μ9 hp9 => ?_) (fun _ _ hp => hp)
    obtain ⟨rfl, hμ9⟩ := hp9
    have e9 : ∀ k b i s, k ≠ 26 → ¬ (k = 10 ∧ (s = 4 ∨ s = 6)) → μ9 k b i s = up μa 4 0 0 2 (nI (c - 1)) k b i s := fun k b i s h1 h2 => by
      rw [hμ9, cpR_k h1]
      rw [show ∀ (y : St) w, up y 10 0 0 4 w k b i s = y k b i s from fun y w => by unfold up; rw [if_neg (by omega)]]
      rw [show ∀ (y : St) w, up y 10 0 0 6 w k b i s = y k b i s from fun y w => by unfold up; rw [if_neg (by omega)]]
    refine ⟨_, rfl, inv_mk hI ?_ (sav_same hI (fun k i s hk => ?_) ?_ ?_ (fun i => ?_) (by omega)) ⟨(x + 7) % 8, c - 1, (HR.back hH h0 (fun y k i s hy hk => ?_) ?_ ?_ ?_ (fun i => ?_)).mono (by omega)⟩ (fun k i s hk => ?_), ?_, fun _ => ?_⟩
    · refine (AR.copy (μ := up μ 4 0 0 1 (nI ((x + 7) % 8))) (hR.congr (fun s _ _ => up_k (by decide)) (fun l s _ _ => up_k (by decide)) (fun l s _ _ => up_k (by decide)) (fun l s _ _ => up_k (by decide))) (h.congr (fun s _ _ => up_k (by decide)) (fun l s _ _ => up_k (by decide)) (fun l s _ _ => up_k (by decide)) (fun l s _ _ => up_k (by decide)) (fun _ _ => rfl)) (by rw [up_k (by decide)]; exact ht) hp (fun k i s hk => ?_) (fun i hi => ?_)).mono (by omega)
      · rw [e9 _ _ _ _ (by omega) (by omega)]
        unfold up
        rw [if_neg (by omega)]
      · show μ9 26 0 0 i = μ 28 0 0 (372 * (c - 1) + i)
        rw [hμ9, cpR_at (by omega) (by omega), Nat.sub_zero]
        exact e0 28 0 _ (by decide) (by decide) (by decide) (by decide) (by omega)
    · rw [e9 _ _ _ _ (by omega) (by omega), e1 _ _ _ _ (by omega) (by omega)]
    · rw [e9 _ _ _ _ (by decide) (by omega), e0 _ _ _ (by decide) (by decide) (by decide) (by decide) (by omega)]
    · rw [e9 _ _ _ _ (by decide) (by omega), e0 _ _ _ (by decide) (by decide) (by decide) (by decide) (by omega)]
    · rw [e9 _ _ _ _ (by decide) (by omega), e0 _ _ _ (by decide) (by decide) (by decide) (by decide) (by omega)]
    · rw [e9 _ _ _ _ (by omega) (by omega), e1 _ _ _ _ (by omega) (by omega)]
    · rw [e9 _ _ _ _ (by decide) (by omega), up_sl (by decide), hp.2.1 4 0 1 (by decide) (by decide) (by decide) (by decide), up_self]
    · rw [e9 _ _ _ _ (by decide) (by omega), up_self]
    · rw [hμ9, cpR_k (by decide), up_self]
    · rw [e9 _ _ _ _ (by decide) (by omega), e0 _ _ _ (by decide) (by decide) (by decide) (by decide) (by omega)]
    · rw [e9 _ _ _ _ (by omega) (by omega), e0 _ _ _ (by omega) (by omega) (by omega) (by omega) (by omega)]
    · rw [hμ9, cpR_k (by decide), up_sl (by decide), up_self]
    · rw [up_self]
  · have hc0 : c = 0 := by omega
    rw [a3, hc0]
    exact ⟨fun w => absurd (by decide) w, fun _ => qd2 hI (fun z => (by cases z))⟩
theorem op_save (hI : Inv μ W) : Opn G mX7_save mX8_save [] W [] μ := by
  obtain ⟨nl, np, ng, hR, h, ht⟩ := hI.1
  obtain ⟨x, c, hH⟩ := hI.2.2.1
  apply wX7_save
  refine (s_X0_copyFrom G (b := 2) (c := 0) (by decide) (by decide) (by decide) hR.1).mono (fun v μ1 hp => ⟨hp.1, _, rfl, ?_⟩) (fun _ _ hp => hp)
  obtain ⟨-, hp⟩ := hp
  have e1 : ∀ k b i s, b ≠ 2 → ¬ (k = 9 ∧ s = 6) → up μ1 9 0 0 6 (nI 1) k b i s = μ k b i s := fun k b i s hb hk => by
    rw [show ∀ (y : St) w, up y 9 0 0 6 w k b i s = y k b i s from fun y w => by unfold up; rw [if_neg (by omega)], hp.1 k b i s hb]
  refine (s_X8_save G (up μ1 9 0 0 6 (nI 1))).mono (fun v μ9 hp9 => ?_) (fun _ _ hp => hp)
  obtain ⟨rfl, hμ9⟩ := hp9
  have e9 : ∀ k b i s, k ≠ 27 → ¬ (k = 10 ∧ (s = 2 ∨ s = 6)) → μ9 k b i s = up μ1 9 0 0 6 (nI 1) k b i s := fun k b i s h1 h2 => by
    rw [hμ9]
    rw [show ∀ (y : St) w, up y 10 0 0 2 w k b i s = y k b i s from fun y w => by unfold up; rw [if_neg (by omega)], cpR_k h1]
    rw [show ∀ (y : St) w, up y 10 0 0 6 w k b i s = y k b i s from fun y w => by unfold up; rw [if_neg (by omega)]]
  have r26 : ∀ j, row μ9 j = row μ j := fun j => by
    show μ9 26 0 0 j = _
    rw [e9 _ _ _ _ (by decide) (by omega), e1 _ _ _ _ (by decide) (by omega)]
  refine ⟨_, rfl, inv_mk hI ?_ (Or.inr ⟨?_, ?_, ?_⟩) ⟨x, c, (hH.mono (by omega)).congr (fun y k i s hy hk => ?_) (fun s => ?_) ?_ (fun i => ?_)⟩ (fun k i s hk => ?_), ?_, fun _ => ?_⟩
  · exact (hI.1.mono (by omega)).congr (fun k i s hk => by rw [e9 _ _ _ _ (by omega) (by omega), e1 _ _ _ _ (by decide) (by omega)]) (fun i _ => r26 i)
  · rw [e9 _ _ _ _ (by decide) (by omega), up_self]
  · rw [hμ9, up_self]
  · refine (AR.copy hR h ht hp (fun k i s hk => ?_) (fun i hi => ?_)).mono (by omega)
    · rw [e9 _ _ _ _ (by omega) (by omega)]
      unfold up
      rw [if_neg (by omega)]
    · show μ9 27 0 0 i = row μ i
      rw [hμ9, up_k (by decide), cpR_at (by omega) (by omega), Nat.sub_zero]
      exact e1 26 0 0 i (by decide) (by omega)
  · rw [e9 _ _ _ _ (by omega) (by omega), e1 _ _ _ _ (by omega) (by omega)]
  · rw [e9 _ _ _ _ (by decide) (by omega), e1 _ _ _ _ (by decide) (by omega)]
  · rw [e9 _ _ _ _ (by decide) (by omega), e1 _ _ _ _ (by decide) (by omega)]
  · rw [e9 _ _ _ _ (by decide) (by omega), e1 _ _ _ _ (by decide) (by omega)]
  · rw [e9 _ _ _ _ (by omega) (by omega), e1 _ _ _ _ (by decide) (by omega)]
  · rw [hμ9, up_sl (by decide), cpR_k (by decide), up_self]
  · rw [e1 26 0 0 5 (by decide) (by omega)]
    rw [show μ1 2 0 0 5 = μ 2 0 0 5 from hp.1 2 0 0 5 (by decide)]
    exact (h.cng hR.1).trans hR.1.2.2.1.symm
theorem op_restore (hI : Inv μ W) : Opn G mX7_restore mX8_restore [] W [eISE] μ := by
  obtain ⟨x, c, hH⟩ := hI.2.2.1
  apply wX7_restore
  rcases hI.2.1 with ⟨b1, b2⟩ | ⟨b1, b2, nl, np, ng, hR, h, ht⟩
  · rw [b1]
    refine ⟨fun w => absurd (by decide) w, fun _ => ⟨0, rfl, wX8_restore G μ ?_⟩⟩
    rw [b2]
    exact ⟨fun w => absurd (by decide) w, fun _ => qd2 hI (fun z => (by cases z))⟩
  · rw [b1]
    refine ⟨fun _ => ?_, fun w => absurd w (by decide)⟩
    refine (s_X0_copyFrom G (b := 0) (c := 2) (by decide) (by decide) (by decide) hR.1).mono (fun v μ1 hp => ⟨hp.1, ?_⟩) (fun _ _ hp => hp)
    obtain ⟨-, hp⟩ := hp
    refine wX2_forgetAll G _ ⟨rfl, _, rfl, ?_⟩
    have e1 : ∀ k b i s, b ≠ 0 → ¬ (k = 4 ∧ s = 2) → up μ1 4 0 0 2 (nI 0) k b i s = μ k b i s := fun k b i s hb hk => by
      rw [show ∀ (y : St) w, up y 4 0 0 2 w k b i s = y k b i s from fun y w => by unfold up; rw [if_neg (by omega)], hp.1 k b i s hb]
    have e0 : ∀ k i s, k ≠ 2 → k ≠ 3 → k ≠ 6 → k ≠ 7 → ¬ (k = 4 ∧ s = 2) → up μ1 4 0 0 2 (nI 0) k 0 i s = μ k 0 i s := fun k i s h2 h3 h6 h7 hk => by
      rw [show ∀ (y : St) w, up y 4 0 0 2 w k 0 i s = y k 0 i s from fun y w => by unfold up; rw [if_neg (by omega)], hp.2.1 k i s h2 h3 h6 h7]
    have q2 : ¬ up μ1 4 0 0 2 (nI 0) 10 0 0 2 = 0 := by
      rw [e0 10 0 2 (by decide) (by decide) (by decide) (by decide) (by omega), b2]; decide
    refine (s_X8_restore G (up μ1 4 0 0 2 (nI 0)) q2).mono (fun v μ9 hp9 => ?_) (fun _ _ hp => hp)
    obtain ⟨rfl, hμ9⟩ := hp9
    have e9 : ∀ k b i s, k ≠ 26 → ¬ (k = 10 ∧ (s = 4 ∨ s = 6)) → μ9 k b i s = up μ1 4 0 0 2 (nI 0) k b i s := fun k b i s h1 h2 => by
      rw [hμ9]
      rw [show ∀ (y : St) w, up y 10 0 0 4 w k b i s = y k b i s from fun y w => by unfold up; rw [if_neg (by omega)], cpR_k h1]
      rw [show ∀ (y : St) w, up y 10 0 0 6 w k b i s = y k b i s from fun y w => by unfold up; rw [if_neg (by omega)]]
    refine ⟨_, rfl, inv_mk hI ?_ (sav_same hI (fun k i s hk => ?_) ?_ ?_ (fun i => ?_) (by omega)) ⟨x, 0, HR.none (hH.mono (by omega)) ?_ ?_ ?_⟩ (fun k i s hk => ?_), ?_, fun _ => ?_⟩
    · refine (AR.copy hR h ht hp (fun k i s hk => ?_) (fun i hi => ?_)).mono (by omega)
      · rw [e9 _ _ _ _ (by omega) (by omega)]
        unfold up
        rw [if_neg (by omega)]
      · show μ9 26 0 0 i = μ 27 0 0 i
        rw [hμ9, up_k (by decide), cpR_at (by omega) (by omega), Nat.sub_zero]
        exact e0 27 0 i (by decide) (by decide) (by decide) (by decide) (by omega)
    · rw [e9 _ _ _ _ (by omega) (by omega), e1 _ _ _ _ (by omega) (by omega)]
    · rw [e9 _ _ _ _ (by decide) (by omega), e0 _ _ _ (by decide) (by decide) (by decide) (by decide) (by omega)]
    · rw [e9 _ _ _ _ (by decide) (by omega), e0 _ _ _ (by decide) (by decide) (by decide) (by decide) (by omega)]
    · rw [e9 _ _ _ _ (by decide) (by omega), e0 _ _ _ (by decide) (by decide) (by decide) (by decide) (by omega)]
    · rw [e9 _ _ _ _ (by decide) (by omega), e0 _ _ _ (by decide) (by decide) (by decide) (by decide) (by omega)]
    · rw [e9 _ _ _ _ (by decide) (by omega), up_self]
    · rw [hμ9, up_self]
    · rw [e9 _ _ _ _ (by omega) (by omega), e0 _ _ _ (by omega) (by omega) (by omega) (by omega) (by omega)]
    · rw [hμ9, up_sl (by decide), cpR_k (by decide), up_self]
    · rw [e0 27 0 5 (by decide) (by decide) (by decide) (by decide) (by omega), up_k (by decide), hp.2.2.1 5 (by decide) (by decide)]
      exact h.2.1.2 2 (by decide)
theorem nar_c : ∀ m, m < 127 → narrow .char (.int (nI m)) = .int (nI m) := by decide +kernel
theorem op_append (hI : Inv μ W) (x1 : Int32) : Opn G mX7_append mX8_append [.int x1] W [eIAE, eISE] μ := by
  obtain ⟨h1, h2, ⟨x, c, h3⟩, h4, h5, t, n, h6, h7⟩ := hI
  have hI : Inv μ W := ⟨h1, h2, ⟨x, c, h3⟩, h4, h5, t, n, h6, h7⟩
  have hn := h6.2.1
  apply wX7_append
  refine ⟨fun hb => ⟨fun hw => ?_, fun hw => ⟨1, rfl, wX8_append G x1 μ ?_⟩⟩, fun hb => ⟨0, rfl, wX8_append G x1 μ ?_⟩⟩
  · obtain ⟨m, m1, m2, rfl⟩ := (btw_n (by decide) (by decide)).mp hb
    rw [h6.1, nI_ltI (by omega) (by decide)] at hw
    apply wX3_put
    rw [h6.1]
    refine ⟨fun w => absurd w (by rw [← nI_0]; exact i_nlt.mpr ((nI_leI (by decide) (by omega)).mpr (Nat.zero_le _))), fun _ => ⟨fun w => absurd ((nI_leI (by decide) (by omega)).mp w) (by omega), fun _ => ⟨n, rfl, hw, nar_c m (by omega), _, rfl, _, rfl, ?_⟩⟩⟩
    rw [nI_add]
    generalize hμ1 : up (up μ 24 0 0 n (nI m)) 5 0 0 1 (nI (n + 1)) = μ1
    have e : ∀ k b i s, ¬ (k = 24 ∧ s = n) → ¬ (k = 5 ∧ s = 1) → μ1 k b i s = μ k b i s := fun k b i s a1 a2 => by
      rw [← hμ1]
      unfold up
      rw [if_neg (by omega), if_neg (by omega)]
    have e10 : μ1 10 0 0 10 = nI n := by rw [e _ _ _ _ (by omega) (by omega), h7.1]
    refine wX8_append G _ μ1 ?_
    rw [hb, e10]
    simp only [n00, n20, Bool.true_eq_false, false_implies, true_implies, not_false_eq_true, not_true_eq_false, true_and, and_true]
    refine ⟨fun _ => ⟨n, rfl, hw, ?_⟩, fun w => absurd w (nI_ne (by omega) (by omega) (by decide))⟩
    rw [nI_add]
    generalize hμ2 : up (up (up μ1 10 0 0 6 (nI 0)) 31 0 0 n (nI m)) 10 0 0 10 (nI (n + 1)) = μ2
    have f : ∀ k b i s, ¬ (k = 24 ∧ s = n) → ¬ (k = 5 ∧ s = 1) → ¬ (k = 31 ∧ s = n) → ¬ (k = 10 ∧ (s = 6 ∨ s = 10)) → μ2 k b i s = μ k b i s := fun k b i s a1 a2 a3 a4 => by
      rw [← hμ2]
      rw [show ∀ (y : St) w, up y 10 0 0 10 w k b i s = y k b i s from fun y w => by unfold up; rw [if_neg (by omega)], show ∀ (y : St) w, up y 31 0 0 n w k b i s = y k b i s from fun y w => by unfold up; rw [if_neg (by omega)], show ∀ (y : St) w, up y 10 0 0 6 w k b i s = y k b i s from fun y w => by unfold up; rw [if_neg (by omega)]]
      exact e k b i s a1 a2
    have f26 : ∀ j, row μ2 j = row μ j := fun j => f 26 0 0 j (by omega) (by omega) (by omega) (by omega)
    refine ⟨_, rfl, ⟨(h1.mono (by omega)).congr (fun k i s hk => f _ _ _ _ (by omega) (by omega) (by omega) (by omega)) (fun i _ => f26 i), sav_same hI (fun k i s hk => f _ _ _ _ (by omega) (by omega) (by omega) (by omega)) (f _ _ _ _ (by omega) (by omega) (by omega) (by omega)) (f _ _ _ _ (by omega) (by omega) (by omega) (by omega)) (fun i => f _ _ _ _ (by omega) (by omega) (by omega) (by omega)) (by omega), ⟨x, c, (h3.mono (by omega)).congr (fun y k i s hy hk => f _ _ _ _ (by omega) (by omega) (by omega) (by omega)) (fun s => f _ _ _ _ (by omega) (by omega) (by omega) (by omega)) (f _ _ _ _ (by omega) (by omega) (by omega) (by omega)) (fun i => f _ _ _ _ (by omega) (by omega) (by omega) (by omega))⟩, ?_, ?_, fun j => if j = n then nI m else t j, n + 1, ⟨?_, by omega, fun j hj => ?_, fun j hj => ?_⟩, ⟨?_, by omega, fun j hj => ?_, fun j hj => ?_⟩⟩, ?_, fun _ => rfl⟩
    · rw [f _ _ _ _ (by omega) (by omega) (by omega) (by omega), f _ _ _ _ (by omega) (by omega) (by omega) (by omega)]; exact h4
    · rw [f 9 0 0 8 (by omega) (by omega) (by omega) (by omega), f 10 0 0 14 (by omega) (by omega) (by omega) (by omega), f 10 0 0 15 (by omega) (by omega) (by omega) (by omega)]; exact h5
    · rw [← hμ2, up_k (by decide), up_k (by decide), up_k (by decide), ← hμ1, up_self]
    · show μ2 24 0 0 j = if j = n then nI m else t j
      rw [← hμ2, up_k (by decide), up_k (by decide), up_k (by decide), ← hμ1, up_k (by decide)]
      by_cases c : j = n
      · subst c; rw [up_self, if_pos rfl]
      · rw [up_sl c, if_neg c]; exact h6.2.2.1 j (by omega)
    · show isN (if j = n then nI m else t j) 32 126
      by_cases c : j = n
      · rw [if_pos c]; exact ⟨m, m1, m2, rfl⟩
      · rw [if_neg c]; exact h6.2.2.2 j (by omega)
    · rw [← hμ2, up_self]
    · show μ2 31 0 0 j = if j = n then nI m else t j
      rw [← hμ2, up_k (by decide)]
      by_cases c : j = n
      · subst c; rw [up_self, if_pos rfl]
      · rw [up_sl c, if_neg c, up_k (by decide), e _ _ _ _ (by omega) (by omega)]; exact h7.2.2.1 j (by omega)
    · show isN (if j = n then nI m else t j) 32 126
      by_cases c : j = n
      · rw [if_pos c]; exact ⟨m, m1, m2, rfl⟩
      · rw [if_neg c]; exact h6.2.2.2 j (by omega)
    · rw [← hμ2, up_sl (by decide), up_k (by decide), up_self]
  · rw [h6.1, nI_ltI (by omega) (by decide)] at hw
    have hn60 : n = 60 := by omega
    rw [hb, h7.1, hn60]
    simp only [n00, n20, Bool.true_eq_false, false_implies, true_implies, not_false_eq_true, not_true_eq_false, true_and, and_true]
    exact qd hI (fun z => (by cases z))
  · rw [hb]
    simp only [n10, Bool.false_eq_true, false_implies, true_implies, not_false_eq_true, true_and]
    exact qd hI (fun z => (by cases z))
end CHG4
