/-! ===== changes: what both do, and what holds after ===== -/
def FO (μ μ' : St) : Prop := ∀ k b i s, ¬ (b = 0 ∧ (k = 2 ∨ k = 3 ∨ k = 6 ∨ k = 7)) → μ' k b i s = μ k b i s
theorem FO.rfl' (μ : St) : FO μ μ := fun _ _ _ _ _ => rfl
theorem FO.trans {μ μ' μ'' : St} (h : FO μ μ') (h' : FO μ' μ'') : FO μ μ'' := fun k b i s hk => by rw [h' k b i s hk, h k b i s hk]
theorem fo_up {μ μ' : St} (h : FO μ μ') {k i s : Nat} {x : Int32} (hk : k = 2 ∨ k = 3 ∨ k = 6 ∨ k = 7) : FO μ (up μ' k 0 i s x) := fun k' b i' s' h2 => by
  rw [show up μ' k 0 i s x k' b i' s' = μ' k' b i' s' by unfold up; rw [if_neg (by omega)], h k' b i' s' h2]
theorem fo_gbc {μ μ' : St} (h : FO μ μ') {i : Nat} {x y z w : Int32} : FO μ (gbc μ' 0 i x y z w) := by
  unfold gbc
  exact fo_up (fo_up (fo_up (fo_up h (by omega)) (by omega)) (by omega)) (by omega)
section CHG
variable {μ μ1 μ2 μ3 μ4 : St} {W nl np ng nl' np' ng' x c : Nat}
theorem rm_0 (h : RmP μ μ1 0 x c nl np ng) : ∀ k b i s, b ≠ x + 3 → ¬ (k = 4 ∧ (s = 1 ∨ s = 2)) → μ1 k b i s = μ k b i s := by
  obtain ⟨μa, p, rfl⟩ := h
  intro k b i s hb hk
  rw [show ∀ (y : St) z, up y 4 0 0 2 z k b i s = y k b i s from fun y z => by unfold up; rw [if_neg (by omega)], show ∀ (y : St) z, up y 4 0 0 1 z k b i s = y k b i s from fun y z => by unfold up; rw [if_neg (by omega)], p.1 k b i s hb]
theorem rm_r (h : RmP μ μ1 0 x c nl np ng) : ∀ k i s, k ≠ 2 → k ≠ 3 → k ≠ 6 → k ≠ 7 → ¬ (k = 4 ∧ (s = 1 ∨ s = 2)) → ∀ b, μ1 k b i s = μ k b i s := by
  obtain ⟨μa, p, rfl⟩ := h
  intro k i s h2 h3 h6 h7 hk b
  rw [show ∀ (y : St) z, up y 4 0 0 2 z k b i s = y k b i s from fun y z => by unfold up; rw [if_neg (by omega)], show ∀ (y : St) z, up y 4 0 0 1 z k b i s = y k b i s from fun y z => by unfold up; rw [if_neg (by omega)]]
  by_cases hb : b = x + 3
  · rw [hb]; exact p.2.1 k i s h2 h3 h6 h7
  · exact p.1 k b i s hb
/-- a remembered change on both sides -/
theorem chg (hI : Inv μ W) (hR : Rok μ 0 nl np ng W) (h : Rel μ 0 nl np ng (row μ)) (ht : isN (μ 2 0 0 7) 0 1000) (hH : HR μ W x c) (hRm : RmP μ μ1 0 x c nl np ng) (hF : FO μ1 μ2) (hR2 : Rok μ2 0 nl' np' ng' (W + 64)) (ht2 : isN (μ2 2 0 0 7) 0 1000) (hK : KpP (up μ2 10 0 0 6 (nI 0)) μ3 c) (hM : Mt μ3 μ4) (hL : Rel μ2 0 nl' np' ng' (row μ4)) : Inv μ4 (W + 64) ∧ μ4 10 0 0 6 = nI 0 := by
  obtain ⟨hx8, hc8⟩ := hH.1
  have r0 := rm_0 hRm
  have rr := rm_r hRm
  obtain ⟨k1, k2, k3, k4⟩ := hK
  -- what is as before
  have e42 : ∀ k b i s, k ≠ 26 → k ≠ 28 → (k = 10 → s ≠ 7 ∧ s ≠ 4 ∧ s ≠ 6) → μ4 k b i s = μ2 k b i s := fun k b i s n26 n28 h10 => by
    rw [hM k b i s n26 (fun z => (h10 z).1), k1 k b i s n28 (fun z => (h10 z).2.1)]
    unfold up
    rw [if_neg (fun z => (h10 z.1).2.2 z.2.2.2)]
  have e40 : ∀ k b i s, k ≠ 26 → k ≠ 28 → (k = 10 → s ≠ 7 ∧ s ≠ 4 ∧ s ≠ 6) → ¬ (k = 2 ∨ k = 3 ∨ k = 6 ∨ k = 7) → ¬ (k = 4 ∧ (s = 1 ∨ s = 2)) → μ4 k b i s = μ k b i s := fun k b i s n26 n28 h10 n2 n4 => by
    rw [e42 k b i s n26 n28 h10, hF k b i s (by omega), rr k i s (by omega) (by omega) (by omega) (by omega) n4 b]
  obtain ⟨-, h2, -, h4, h5, t, n, h6, h7⟩ := hI
  obtain ⟨μa, p, hμ1⟩ := hRm
  have r28 : ∀ j, up μ2 10 0 0 6 (nI 0) 28 0 0 j = μ 28 0 0 j := fun j => by
    rw [up_k (by decide), hF 28 0 0 j (by omega), rr 28 0 j (by decide) (by decide) (by decide) (by decide) (by omega) 0]
  have r26 : ∀ j, up μ2 10 0 0 6 (nI 0) 26 0 0 j = row μ j := fun j => by
    rw [up_k (by decide), hF 26 0 0 j (by omega), rr 26 0 j (by decide) (by decide) (by decide) (by decide) (by omega) 0]
  have q28 : ∀ j, μ4 28 0 0 j = μ3 28 0 0 j := fun j => hM 28 0 0 j (by decide) (fun z => by cases z)
  refine ⟨⟨⟨nl', np', ng', ?_, ?_, ?_⟩, ?_, ⟨(x + 1) % 8, min (c + 1) 8, ?_⟩, ?_, ?_, t, n, ⟨?_, h6.2.1, fun j hj => ?_, h6.2.2.2⟩, ⟨?_, h7.2.1, fun j hj => ?_, h7.2.2.2⟩⟩, ?_⟩
  · exact hR2.congr (fun s _ _ => e42 _ _ _ _ (by decide) (by decide) (by omega)) (fun l s _ _ => e42 _ _ _ _ (by decide) (by decide) (by omega)) (fun l s _ _ => e42 _ _ _ _ (by decide) (by decide) (by omega)) (fun l s _ _ => e42 _ _ _ _ (by decide) (by decide) (by omega))
  · exact hL.congr (fun s _ _ => e42 _ _ _ _ (by decide) (by decide) (by omega)) (fun l s _ _ => e42 _ _ _ _ (by decide) (by decide) (by omega)) (fun l s _ _ => e42 _ _ _ _ (by decide) (by decide) (by omega)) (fun l s _ _ => e42 _ _ _ _ (by decide) (by decide) (by omega)) (fun _ _ => rfl)
  · rw [e42 2 0 0 7 (by decide) (by decide) (by omega)]; exact ht2
  · rw [e40 9 0 0 6 (by decide) (by decide) (by omega) (by omega) (by omega), e40 10 0 0 2 (by decide) (by decide) (by omega) (by omega) (by omega)]
    rcases h2 with h2 | ⟨a, b, d⟩
    · exact Or.inl h2
    · refine Or.inr ⟨a, b, (d.mono (by omega)).congr (fun k i s hk => ?_) (fun i _ => e40 27 0 0 i (by decide) (by decide) (by omega) (by omega) (by omega))⟩
      rw [e42 k 2 i s (by omega) (by omega) (by omega), hF k 2 i s (by omega), r0 k 2 i s (by omega) (by omega)]
  · refine HR.mono (HR.keep (μa := μa) hH (b := 0) (by decide) hR h ht p (fun y k i s hy hk => ?_) ?_ ?_ ?_ (fun hc => ?_) (fun hc => ?_)) (by omega)
    · rw [e42 k (y + 3) i s (by omega) (by omega) (by omega), hF k (y + 3) i s (by omega), hμ1]
      rw [show ∀ (y' : St) z, up y' 4 0 0 2 z k (y + 3) i s = y' k (y + 3) i s from fun y z => by unfold up; rw [if_neg (by omega)], show ∀ (y' : St) z, up y' 4 0 0 1 z k (y + 3) i s = y' k (y + 3) i s from fun y z => by unfold up; rw [if_neg (by omega)]]
    · rw [e42 4 0 0 1 (by decide) (by decide) (by omega), hF 4 0 0 1 (by omega), hμ1, up_sl (by decide), up_self]
    · rw [e42 4 0 0 2 (by decide) (by decide) (by omega), hF 4 0 0 2 (by omega), hμ1, up_self]
    · rw [hM 10 0 0 4 (by decide) (by omega), k2]
    · obtain ⟨a, b⟩ := k3 hc
      exact ⟨fun j hj => by rw [q28, a j hj, r28], fun i hi => by rw [q28, b i hi, r26]⟩
    · obtain ⟨a, b⟩ := k4 hc
      exact ⟨fun j hj => by rw [q28, a j hj, r28], fun i hi => by rw [q28, b i hi, r26]⟩
  · rw [e40 9 0 0 7 (by decide) (by decide) (by omega) (by omega) (by omega), e40 10 0 0 5 (by decide) (by decide) (by omega) (by omega) (by omega)]; exact h4
  · rw [e40 9 0 0 8 (by decide) (by decide) (by omega) (by omega) (by omega), e40 10 0 0 14 (by decide) (by decide) (by omega) (by omega) (by omega), e40 10 0 0 15 (by decide) (by decide) (by omega) (by omega) (by omega)]; exact h5
  · rw [e40 5 0 0 1 (by decide) (by decide) (by omega) (by omega) (by omega)]; exact h6.1
  · rw [e40 24 0 0 j (by decide) (by decide) (by omega) (by omega) (by omega)]; exact h6.2.2.1 j hj
  · rw [e40 10 0 0 10 (by decide) (by decide) (by omega) (by omega) (by omega)]; exact h7.1
  · rw [e40 31 0 0 j (by decide) (by decide) (by omega) (by omega) (by omega)]; exact h7.2.2.1 j hj
  · rw [hM 10 0 0 6 (by decide) (by omega), k1 10 0 0 6 (by decide) (by omega), up_self]
variable (G : Gl)
/-- the class remembers -/
theorem crem (hR : Rok μ 0 nl np ng W) (h : Rel μ 0 nl np ng (row μ)) (ht : isN (μ 2 0 0 7) 0 1000) (hH : HR μ W x c) {Q : St → Prop} (hQ : ∀ μ1, RmP μ μ1 0 x c nl np ng → Rok μ1 0 nl np ng W → Rel μ1 0 nl np ng (row μ1) → isN (μ1 2 0 0 7) 0 1000 → (∀ k i s, k ≠ 4 → μ1 k 0 i s = μ k 0 i s) → Q μ1) : Con G mX2_remember [.ref (zad G.1 4 0 0), .ref (zad G.1 2 0 0)] μ (fun v μ1 => v = none ∧ Q μ1) noX := by
  refine (s_X2_remember G (by decide) hR.1 hH.1.1 hH.1.2 hH.2.1 hH.2.2.1).mono (fun v μ1 hp => ⟨hp.1, ?_⟩) (fun _ _ hp => hp)
  obtain ⟨-, hRm⟩ := hp
  have e : ∀ k i s, k ≠ 4 → μ1 k 0 i s = μ k 0 i s := fun k i s hk => rm_0 hRm k 0 i s (by omega) (by omega)
  refine hQ μ1 hRm (hR.congr (fun s _ _ => e _ _ _ (by decide)) (fun l s _ _ => e _ _ _ (by decide)) (fun l s _ _ => e _ _ _ (by decide)) (fun l s _ _ => e _ _ _ (by decide))) (h.congr (fun s _ _ => e _ _ _ (by decide)) (fun l s _ _ => e _ _ _ (by decide)) (fun l s _ _ => e _ _ _ (by decide)) (fun l s _ _ => e _ _ _ (by decide)) (fun i _ => e 26 0 i (by decide))) (by rw [e 2 0 7 (by decide)]; exact ht) e
/-- the reference keeps -/
theorem mkeep (hI : Inv μ W) (hR : Rok μ 0 nl np ng W) (h : Rel μ 0 nl np ng (row μ)) (ht : isN (μ 2 0 0 7) 0 1000) (hH : HR μ W x c) (hRm : RmP μ μ1 0 x c nl np ng) (hF : FO μ1 μ2) {Q : St → Prop} (hQ : ∀ μ3, row μ3 = row μ1 → (∀ μ4 nl' np' ng', Rok μ2 0 nl' np' ng' (W + 64) → isN (μ2 2 0 0 7) 0 1000 → Mt μ3 μ4 → Rel μ2 0 nl' np' ng' (row μ4) → ∀ r, MP W 0 r (some (.int r)) μ4) → Q μ3) : Con G mX8_keep [.ref (zad G.1 10 0 0)] (up μ2 10 0 0 6 (nI 0)) (fun v μ3 => v = none ∧ Q μ3) noX := by
  have e4 : up μ2 10 0 0 6 (nI 0) 10 0 0 4 = nI c := by
    rw [up_sl (by decide), hF 10 0 0 4 (by omega), rm_r hRm 10 0 4 (by decide) (by decide) (by decide) (by decide) (by omega) 0, hH.2.2.2.1]
  refine (s_X8_keep G _ hH.1.2 e4).mono (fun v μ3 hp => ⟨hp.1, hQ μ3 (funext fun j => ?_) (fun μ4 nl' np' ng' hR2 ht2 hM hL r => ?_)⟩) (fun _ _ hp => hp)
  · show μ3 26 0 0 j = μ1 26 0 0 j
    rw [hp.2.1 26 0 0 j (by decide) (by omega), up_k (by decide), hF 26 0 0 j (by omega)]
  · have := chg hI hR h ht hH hRm hF hR2 ht2 hp.2 hM hL
    exact ⟨r, rfl, this.1, this.2, fun _ => rfl⟩
theorem mt_of (h : ∀ k b i s, k ≠ 26 → μ4 k b i s = μ3 k b i s) : Mt μ3 μ4 := fun k b i s h1 _ => h k b i s h1
theorem op_setWind (hI : Inv μ W) (x1 : Int32) : Opn G mX7_setWind mX8_setWind [.int x1] W [eIAE] μ := by
  obtain ⟨nl, np, ng, hR, h, ht⟩ := hI.1
  obtain ⟨x, c, hH⟩ := hI.2.2.1
  apply wX7_setWind
  refine ⟨fun hb => ?_, fun hb => ⟨0, rfl, wX8_setWind G x1 μ ⟨fun z => (by rw [hb] at z; cases z), fun _ => qd2 hI (fun z => (by cases z))⟩⟩⟩
  have hx1 := (btw_n (by decide) (by decide)).mp hb
  refine crem G hR h ht hH (fun μ1 hRm hR1 h1 ht1 _ => ?_)
  have hF : FO μ1 (up μ1 2 0 0 6 x1) := fo_up (FO.rfl' μ1) (by decide)
  have hR2 := wind_ok hR1 hx1
  refine (s_X0_heldLifts G (by decide) hR2.1).mono (fun v μ2 hp => ⟨_, hp.1, _, rfl, ?_⟩) (fun _ _ hp => hp)
  obtain ⟨-, rfl⟩ := hp
  refine wX8_setWind G x1 _ ⟨fun _ => ?_, fun z => (by rw [hb] at z; cases z)⟩
  refine mkeep G hI hR h ht hH hRm hF (fun μ3 hr3 fin => ?_)
  have hL : Rel (up μ1 2 0 0 6 x1) 0 nl np ng (row (up μ3 26 0 0 0 x1)) := wind_rel h1 (fun j => by rw [row_up, hr3])
  exact t_wind G hR2.1 hL x1 (fin _ _ _ _ (hR2.mono (by omega)) (by rw [up_sl (by decide)]; exact ht1) (Mt.up26 (Mt.rfl' _)) hL _)
theorem op_open (hI : Inv μ W) (x1 : Int32) (x2 : Bool) : Opn G mX7_open mX8_open [.int x1, .int (bI x2)] W [eIOOB, eISE] μ := by
  obtain ⟨nl, np, ng, hR, h, ht⟩ := hI.1
  obtain ⟨x, c, hH⟩ := hI.2.2.1
  have m4 := mix4 hR h
  have hn := hR.1.2.1.2
  apply wX7_open
  refine ⟨le16 hR.1.2.1.1 hn (by decide), fun hx => ⟨0, rfl, wX8_open G x1 x2 μ ?_⟩, fun p hp e1 hx => ?_⟩
  · rw [m4, hx]
    simp only [n10, Bool.false_eq_true, false_implies, true_implies, not_false_eq_true, true_and]
    exact qd hI (fun z => (by cases z))
  subst e1
  have hpn : p < np := by rw [hR.1.2.1.1] at hx; exact idx_lt (by omega) (by omega) hx
  have e5 := h.ps hpn (k := 5) (by decide)
  have ej : ∀ k, (nI 132 + nI 8 * nI p) + nI k = nI (132 + 8 * p + k) := fun k => by rw [pk_mul, nI_add, nI_add]
  -- the change itself
  have go : (x2 = true → μ 7 0 p 5 < nI 20) → ∀ y, (y = if x2 = true then nI 0 else nI 1) → ∀ μ1, RmP μ μ1 0 x c nl np ng → Rok μ1 0 nl np ng W → Rel μ1 0 nl np ng (row μ1) → isN (μ1 2 0 0 7) 0 1000 → (∀ k i s, k ≠ 4 → μ1 k 0 i s = μ k 0 i s) → Mc G mX8_open [.int (nI p), .int (bI x2)] W 0 (μ1 7 0 p 4) (up (up μ1 7 0 p 4 y) 7 0 p 6 (nI 0)) := fun hw y hy μ1 hRm hR1 h1 ht1 e1 => by
    have hF : FO μ1 (up (up μ1 7 0 p 4 y) 7 0 p 6 (nI 0)) := fo_up (fo_up (FO.rfl' μ1) (by decide)) (by decide)
    have hR2 : Rok (up (up μ1 7 0 p 4 y) 7 0 p 6 (nI 0)) 0 nl np ng W := open_ok hR1 (by rw [hy]; split <;> simp)
    have ht2 : isN (up (up μ1 7 0 p 4 y) 7 0 p 6 (nI 0) 2 0 0 7) 0 1000 := by rw [up_k (by decide), up_k (by decide)]; exact ht1
    have rrow : row (up (up μ1 7 0 p 4 y) 7 0 p 6 (nI 0)) = row μ1 := by rw [row_o (by decide), row_o (by decide)]
    have em : mix (up (up μ1 7 0 p 4 y) 7 0 p 6 (nI 0)) 4 (nI p) = true := by
      rw [← hx, ← m4]
      unfold mix
      rw [up_k (by decide), up_k (by decide), e1 26 0 4 (by decide)]
    have ew : up (up μ1 7 0 p 4 y) 7 0 p 6 (nI 0) 26 0 0 (132 + 8 * p + 5) = μ 7 0 p 5 := by
      rw [up_k (by decide), up_k (by decide), e1 26 0 _ (by decide)]; exact e5
    have step : Con G mX8_keep [.ref (zad G.1 10 0 0)] (up (up (up μ1 7 0 p 4 y) 7 0 p 6 (nI 0)) 10 0 0 6 (nI 0)) (fun v μ3 => v = none ∧ ∃ j1 : Nat, (nI 132 + nI 8 * nI p) + (nI 4) = nI j1 ∧ j1 < 372 ∧ ((x2 = false → ∃ j2 : Nat, (nI 132 + nI 8 * nI p) + (nI 4) = nI j2 ∧ j2 < 372 ∧ ∃ j3 : Nat, (nI 132 + nI 8 * nI p) + (nI 6) = nI j3 ∧ j3 < 372 ∧ MP W 0 (μ1 7 0 p 4) (some (.int (μ3 26 0 0 j1))) (up (up μ3 26 0 0 j2 (nI 1)) 26 0 0 j3 (nI 0))) ∧ (x2 = true → ∃ j4 : Nat, (nI 132 + nI 8 * nI p) + (nI 4) = nI j4 ∧ j4 < 372 ∧ ∃ j5 : Nat, (nI 132 + nI 8 * nI p) + (nI 6) = nI j5 ∧ j5 < 372 ∧ MP W 0 (μ1 7 0 p 4) (some (.int (μ3 26 0 0 j1))) (up (up μ3 26 0 0 j4 (nI 0)) 26 0 0 j5 (nI 0))))) noX := by
      refine mkeep G hI hR h ht hH hRm hF (fun μ3 hr3 fin => ?_)
      have ea : μ3 26 0 0 (132 + 8 * p + 4) = μ1 7 0 p 4 := by
        rw [show μ3 26 0 0 (132 + 8 * p + 4) = row μ1 (132 + 8 * p + 4) by rw [← hr3]]
        exact h1.ps hpn (by decide)
      have hL : Rel (up (up μ1 7 0 p 4 y) 7 0 p 6 (nI 0)) 0 nl np ng (row (up (up μ3 26 0 0 (132 + 8 * p + 4) y) 26 0 0 (132 + 8 * p + 6) (nI 0))) := open_rel h1 hpn (fun j => by rw [row_up, row_up, hr3])
      have fin' := fin _ _ _ _ (hR2.mono (by omega)) ht2 (Mt.up26 (Mt.up26 (Mt.rfl' _))) hL (μ1 7 0 p 4)
      refine ⟨132 + 8 * p + 4, ej 4, by omega, fun z => ⟨132 + 8 * p + 4, ej 4, by omega, 132 + 8 * p + 6, ej 6, by omega, ?_⟩, fun z => ⟨132 + 8 * p + 4, ej 4, by omega, 132 + 8 * p + 6, ej 6, by omega, ?_⟩⟩
      · rw [ea]
        rw [hy, if_neg (by rw [z]; decide)] at fin'
        exact fin'
      · rw [ea]
        rw [hy, if_pos z] at fin'
        exact fin'
    refine wX8_open G _ x2 _ ?_
    rw [em]
    simp only [n00, Bool.true_eq_false, false_implies, true_implies, not_true_eq_false, and_true]
    refine ⟨fun _ => step, fun z => ⟨132 + 8 * p + 5, ej 5, by omega, ?_⟩⟩
    rw [ew]
    exact ⟨fun _ => step, fun w => absurd (hw z) w⟩
  refine ⟨fun z => crem G hR h ht hH (fun μ1 hRm hR1 h1 ht1 e1 => ⟨fun _ => ⟨_, rfl, go (fun w => (by rw [z] at w; cases w)) _ (by rw [if_neg (by rw [z]; decide)]) μ1 hRm hR1 h1 ht1 e1⟩, fun w => (by rw [z] at w; cases w)⟩), fun z => ⟨fun w => crem G hR h ht hH (fun μ1 hRm hR1 h1 ht1 e1 => ⟨fun q => (by rw [z] at q; cases q), fun _ => ⟨_, rfl, go (fun _ => w) _ (by rw [if_pos z]) μ1 hRm hR1 h1 ht1 e1⟩⟩), fun w => ⟨1, rfl, wX8_open G _ x2 μ ?_⟩⟩⟩
  rw [m4, hx, z]
  simp only [n20, Bool.true_eq_false, false_implies, true_implies, not_false_eq_true, true_and, and_true]
  refine ⟨132 + 8 * p + 5, ej 5, by omega, ?_⟩
  rw [e5]
  exact ⟨fun q => absurd q w, fun _ => qd hI (fun z => (by cases z))⟩
theorem op_groom (hI : Inv μ W) (hW : W < 2 ^ 30) (x1 : Int32) : Opn G mX7_groom mX8_groom [.int x1] W [eIOOB, eISE] μ := by
  obtain ⟨nl, np, ng, hR, h, ht⟩ := hI.1
  obtain ⟨x, c, hH⟩ := hI.2.2.1
  have m4 := mix4 hR h
  have hn := hR.1.2.1.2
  apply wX7_groom
  refine ⟨le16 hR.1.2.1.1 hn (by decide), fun hx => ⟨0, rfl, wX8_groom G x1 μ ?_⟩, fun p hp e1 hx => ?_⟩
  · rw [m4, hx]
    simp only [n10, Bool.false_eq_true, false_implies, true_implies, not_false_eq_true, true_and]
    exact qd hI (fun z => (by cases z))
  subst e1
  have hpn : p < np := by rw [hR.1.2.1.1] at hx; exact idx_lt (by omega) (by omega) hx
  have e4 := h.ps hpn (k := 4) (by decide)
  have ej : ∀ k, (nI 132 + nI 8 * nI p) + nI k = nI (132 + 8 * p + k) := fun k => by rw [pk_mul, nI_add, nI_add]
  refine ⟨fun z => crem G hR h ht hH (fun μ1 hRm hR1 h1 ht1 e1 => ⟨_, rfl, ?_⟩), fun w => ⟨1, rfl, wX8_groom G _ μ ?_⟩⟩
  · have hF : FO μ1 (up (up μ1 7 0 p 4 (nI 2)) 7 0 p 6 (nI 1 + μ1 7 0 p 5 / nI 5)) := fo_up (fo_up (FO.rfl' μ1) (by decide)) (by decide)
    have hR2 := groom_ok hR1 hW hpn
    have ht2 : isN (up (up μ1 7 0 p 4 (nI 2)) 7 0 p 6 (nI 1 + μ1 7 0 p 5 / nI 5) 2 0 0 7) 0 1000 := by rw [up_k (by decide), up_k (by decide)]; exact ht1
    have em : mix (up (up μ1 7 0 p 4 (nI 2)) 7 0 p 6 (nI 1 + μ1 7 0 p 5 / nI 5)) 4 (nI p) = true := by
      rw [← hx, ← m4]
      unfold mix
      rw [up_k (by decide), up_k (by decide), e1 26 0 4 (by decide)]
    refine wX8_groom G _ _ ?_
    rw [em]
    simp only [n00, n20, Bool.true_eq_false, false_implies, true_implies, not_true_eq_false, and_true]
    refine ⟨132 + 8 * p + 4, ej 4, by omega, fun _ => ?_, fun w => ?_⟩
    · refine mkeep G hI hR h ht hH hRm hF (fun μ3 hr3 fin => ?_)
      have ew : up μ3 26 0 0 (132 + 8 * p + 4) (nI 2) 26 0 0 (132 + 8 * p + 5) = μ1 7 0 p 5 := by
        rw [up_sl (by omega), show μ3 26 0 0 (132 + 8 * p + 5) = row μ1 (132 + 8 * p + 5) by rw [← hr3]]
        exact h1.ps hpn (by decide)
      refine ⟨132 + 8 * p + 4, ej 4, by omega, 132 + 8 * p + 5, ej 5, by omega, 132 + 8 * p + 6, ej 6, by omega, 132 + 8 * p + 6, ej 6, by omega, ?_⟩
      rw [ew, up_self]
      exact fin _ _ _ _ (hR2.mono (by omega)) ht2 (Mt.up26 (Mt.up26 (Mt.rfl' _))) (open_rel h1 hpn (fun j => by rw [row_up, row_up, hr3])) _
    · exact absurd (by rw [up_k (by decide), up_k (by decide), e1 26 0 _ (by decide)]; exact e4.trans z) w
  · rw [m4, hx]
    simp only [n00, n20, Bool.true_eq_false, false_implies, true_implies, not_false_eq_true, true_and, and_true]
    refine ⟨132 + 8 * p + 4, ej 4, by omega, ?_⟩
    rw [e4]
    exact ⟨fun q => absurd q w, fun _ => qd hI (fun z => (by cases z))⟩
end CHG
