/-! ===== a tick of an area ===== -/
section ST
variable (G : Gl) {b nl np ng W : Nat} {μ : St}
theorem s_X0_moveRiders (hb : b < 11) (hR : Rok μ b nl np ng W) : Con G mX0_moveRiders [.ref (zad G.1 2 b 0)] μ (fun v μ9 => v = some (.int (mrF b ng μ).2) ∧ μ9 = (mrF b ng μ).1) noX := by
  apply wX0_moveRiders G b hb
  refine rn_loop (f := mrS b) (T := fun i x => VL G mX0_moveRiders _ _ 4 [(0, .ref (zad G.1 2 b 0)), (1, .int x.2), (2, .int (nI i))] [] x.1) (I := fun x => Rok x.1 b nl np ng W) (n := ng) ?_ (fun i x hi hx => mrS_ok hi hx) ng 0 (by omega) (μ, nI 0) hR ?_
  · intro i x hi hx hT
    obtain ⟨⟨⟨h3, h4⟩, -, ⟨h5, h6⟩⟩, -, -, -, hg⟩ := id hx
    apply wX0_moveRiders_4 G b hb
    refine ⟨fun h => absurd ((cle h5).mp h) (by omega), fun _ => ⟨by omega, fun h => ?_, fun h => ⟨(cle h3).mpr h4, fun h1 => ?_, fun l hl hw _ => ?_⟩⟩⟩
    · rw [mrS, if_neg h] at hT; exact hT
    · obtain ⟨⟨l, hl, hw⟩, -⟩ := (hg i hi).rides h
      exact idx_no hw h3 hl (by omega) h1
    · rw [mrS, if_pos h] at hT
      rw [hw, tN_nI (by omega)] at hT
      refine ⟨fun h1 => ?_, fun h1 => ?_⟩
      · rw [if_pos h1] at hT; exact hT
      · rw [if_neg h1] at hT; exact hT
  · intro hx
    obtain ⟨⟨-, -, ⟨h5, h6⟩⟩, -⟩ := hx
    apply wX0_moveRiders_4 G b hb
    exact ⟨fun _ => ⟨rfl, rfl⟩, fun h => absurd ((cle h5).mpr (Nat.le_refl _)) h⟩
theorem s_X0_moveSkiers (hb : b < 11) (hR : Rok μ b nl np ng W) : Con G mX0_moveSkiers [.ref (zad G.1 2 b 0)] μ (fun v μ9 => v = some (.int (msFn b ng μ).2) ∧ μ9 = (msFn b ng μ).1) noX := by
  apply wX0_moveSkiers G b hb
  refine rn_loop (f := msS b) (T := fun i x => VL G mX0_moveSkiers _ _ 4 [(0, .ref (zad G.1 2 b 0)), (1, .int x.2), (2, .int (nI i))] [] x.1) (I := fun x => Rok x.1 b nl np ng W) (n := ng) ?_ (fun i x hi hx => msS_ok hi hx) ng 0 (by omega) (μ, nI 0) hR ?_
  · intro i x hi hx hT
    obtain ⟨⟨-, ⟨h3, h4⟩, ⟨h5, h6⟩⟩, -, -, -, hg⟩ := id hx
    apply wX0_moveSkiers_4 G b hb
    refine ⟨fun h => absurd ((cle h5).mp h) (by omega), fun _ => ⟨by omega, fun h => ?_, fun h => ⟨(cle h3).mpr h4, fun h1 => ?_, fun l hl hw _ => ?_⟩⟩⟩
    · rw [msS, if_neg h] at hT; exact hT
    · obtain ⟨⟨l, hl, hw⟩, -⟩ := (hg i hi).skis h
      exact idx_no hw h3 hl (by omega) h1
    · rw [msS, if_pos h] at hT
      rw [hw, tN_nI (by omega)] at hT
      refine ⟨fun h1 => ?_, fun h1 => ?_⟩
      · rw [if_pos h1] at hT; exact hT
      · rw [if_neg h1] at hT; exact hT
  · intro hx
    obtain ⟨⟨-, -, ⟨h5, h6⟩⟩, -⟩ := hx
    apply wX0_moveSkiers_4 G b hb
    exact ⟨fun _ => ⟨rfl, rfl⟩, fun h => absurd ((cle h5).mpr (Nat.le_refl _)) h⟩
theorem s_X0_boardCabin (hb : b < 11) {l : Nat} (hl : l < nl) (hR : Rok μ b nl np ng W) : Con G mX0_boardCabin [.ref (zad G.1 2 b 0), .ref (zad G.1 6 b l), .int (nI l)] μ (fun v μ9 => v = none ∧ μ9 = bcF b l ng μ) noX := by
  have hl6 : l < 6 := Nat.lt_of_lt_of_le hl hR.1.1.2
  apply wX0_boardCabin G b hb l hl6
  refine rn_loop (f := bcS b l) (T := fun i x => VL G mX0_boardCabin _ _ 2 [(0, .ref (zad G.1 2 b 0)), (1, .ref (zad G.1 6 b l)), (2, .int (nI l)), (3, .int (nI i))] [] x) (I := fun x => Rok x b nl np ng W) (n := ng) ?_ (fun i x hi hx => bcS_ok hi hl hx) ng 0 (by omega) μ hR ?_
  · intro i x hi hx hT
    obtain ⟨⟨-, -, ⟨h5, h6⟩⟩, -⟩ := id hx
    apply wX0_boardCabin_2 G b hb l hl6
    refine ⟨fun h => absurd ((cle h5).mp h) (by omega), fun _ => ⟨by omega, fun h => ?_, fun h => ?_⟩⟩
    · rw [bcS, if_pos h] at hT
      refine ⟨fun h1 => ?_, fun h1 => ?_⟩
      · rw [if_pos h1] at hT; exact hT
      · rw [if_neg h1] at hT; exact hT
    · rw [bcS, if_neg (by rw [h]; decide)] at hT; exact hT
  · intro hx
    obtain ⟨⟨-, -, ⟨h5, h6⟩⟩, -⟩ := hx
    apply wX0_boardCabin_2 G b hb l hl6
    exact ⟨fun _ => ⟨rfl, rfl⟩, fun h => absurd ((cle h5).mpr (Nat.le_refl _)) h⟩
theorem tlS_mid {b nl np ng W i : Nat} {μ : St} (hi : i < nl) (h : Rok μ b nl np ng W) (h0 : ¬ 0 < stc (up μ 6 b i 7 (μ 6 b i 7 + spo μ b i)) b i (nI 1)) : Rok (up (up (up μ 6 b i 7 (μ 6 b i 7 + spo μ b i)) 6 b i 7 ((μ 6 b i 7 + spo μ b i) - (nI 2 * μ 6 b i 3))) 6 b i 9 (μ 6 b i 9 + nI 1)) b nl np ng W := by
  obtain ⟨q1, q2, q3, q4, q5, q6, ⟨v, c, v1, v2, v3, hv, hc⟩⟩ := h.2.2.1 i hi
  obtain ⟨z, hz, hz2⟩ := spo_n μ b i
  have e1 : stc (up μ 6 b i 7 (μ 6 b i 7 + spo μ b i)) b i (nI 1) = nI (2 * v) - nI (c + z) := by
    unfold stc
    rw [up_self, up_sl (by decide), hv, hc, hz2, nI_add, pk_mul, pk_mul, Nat.mul_one]
  rw [e1] at h0
  have h1 : ¬ c + z < 2 * v := fun h => h0 ((nI_subpos (by omega) (by omega)).mpr h)
  refine h.lift1 (i := i) (fun k i s hk => by rw [up_k hk, up_k hk, up_k hk]) (fun g s hg => by rw [up_i hg, up_i hg, up_i hg]) (fun _ => ⟨?_, ?_, ?_, ?_, ?_, ?_, v, c + z - 2 * v, v1, v2, by omega, ?_, ?_⟩)
  all_goals first | rw [up_sl (by decide), up_self, hc, hz2, hv, nI_add, pk_mul, nI_sub (by omega)] | (rw [up_sl (by decide), up_sl (by decide), up_sl (by decide)]; assumption)
theorem s_X0_turnLifts (hb : b < 11) (hR : Rok μ b nl np ng W) : Con G mX0_turnLifts [.ref (zad G.1 2 b 0)] μ (fun v μ9 => v = none ∧ μ9 = tlF b nl ng μ) noX := by
  apply wX0_turnLifts G b hb
  refine rn_loop (f := tlS b ng) (T := fun i x => VL G mX0_turnLifts _ _ 2 [(0, .ref (zad G.1 2 b 0)), (1, .int (nI i))] [] x) (I := fun x => Rok x b nl np ng W) (n := nl) ?_ (fun i x hi hx => tlS_ok hi hx) nl 0 (by omega) μ hR ?_
  · intro i x hi hx hT
    obtain ⟨⟨⟨h5, h6⟩, -⟩, -⟩ := id hx
    apply wX0_turnLifts_2 G b hb
    refine ⟨fun h => absurd ((cle h5).mp h) (by omega), fun _ => ⟨by omega, fun h => ?_, fun h => ?_⟩⟩
    · rw [tlS, if_pos h] at hT; exact hT
    · rw [tlS, if_neg h] at hT
      refine (s_X0_boardCabin G hb hi (tlS_mid hi hx h)).mono (fun v μ9 hp => ⟨hp.1, ?_⟩) (fun _ _ hp => hp)
      rw [hp.2]; exact hT
  · intro hx
    obtain ⟨⟨⟨h5, h6⟩, -⟩, -⟩ := hx
    apply wX0_turnLifts_2 G b hb
    exact ⟨fun _ => ⟨rfl, rfl⟩, fun h => absurd ((cle h5).mpr (Nat.le_refl _)) h⟩
theorem s_X0_groomPistes (hb : b < 11) (hW : W < 2 ^ 30) (hR : Rok μ b nl np ng W) : Con G mX0_groomPistes [.ref (zad G.1 2 b 0)] μ (fun v μ9 => v = none ∧ μ9 = gpF b np μ) noX := by
  apply wX0_groomPistes G b hb
  refine rn_loop (f := gpS b) (T := fun i x => VL G mX0_groomPistes _ _ 2 [(0, .ref (zad G.1 2 b 0)), (1, .int (nI i))] [] x) (I := fun x => Rok x b nl np ng W) (n := np) ?_ (fun i x hi hx => gpS_ok hi hW hx) np 0 (by omega) μ hR ?_
  · intro i x hi hx hT
    obtain ⟨⟨-, ⟨h5, h6⟩, -⟩, -⟩ := id hx
    apply wX0_groomPistes_2 G b hb
    refine ⟨fun h => absurd ((cle h5).mp h) (by omega), fun _ => ⟨by omega, fun h => ?_, fun h => ?_⟩⟩
    · rw [gpS, if_neg h] at hT; exact hT
    · rw [gpS, if_pos h] at hT
      refine ⟨fun h1 => ?_, fun h1 => ?_⟩
      · rw [if_pos h1] at hT; exact hT
      · rw [if_neg h1] at hT; exact hT
  · intro hx
    obtain ⟨⟨-, ⟨h5, h6⟩, -⟩, -⟩ := hx
    apply wX0_groomPistes_2 G b hb
    exact ⟨fun _ => ⟨rfl, rfl⟩, fun h => absurd ((cle h5).mpr (Nat.le_refl _)) h⟩
theorem s_X0_closeWornPistes (hb : b < 11) (hR : Rok μ b nl np ng W) : Con G mX0_closeWornPistes [.ref (zad G.1 2 b 0)] μ (fun v μ9 => v = none ∧ μ9 = cpF b np μ) noX := by
  apply wX0_closeWornPistes G b hb
  refine rn_loop (f := cpS b) (T := fun i x => VL G mX0_closeWornPistes _ _ 2 [(0, .ref (zad G.1 2 b 0)), (1, .int (nI i))] [] x) (I := fun x => Rok x b nl np ng W) (n := np) ?_ (fun i x hi hx => cpS_ok hi hx) np 0 (by omega) μ hR ?_
  · intro i x hi hx hT
    obtain ⟨⟨-, ⟨h5, h6⟩, -⟩, -⟩ := id hx
    apply wX0_closeWornPistes_2 G b hb
    refine ⟨fun h => absurd ((cle h5).mp h) (by omega), fun _ => ⟨by omega, fun h => ?_, fun h => ?_⟩⟩
    · rw [cpS, if_neg h] at hT; exact hT
    · rw [cpS, if_pos h] at hT
      refine ⟨fun h1 => ?_, fun h1 => ?_⟩
      · rw [if_pos h1] at hT; exact hT
      · rw [if_neg h1] at hT; exact hT
  · intro hx
    obtain ⟨⟨-, ⟨h5, h6⟩, -⟩, -⟩ := hx
    apply wX0_closeWornPistes_2 G b hb
    exact ⟨fun _ => ⟨rfl, rfl⟩, fun h => absurd ((cle h5).mpr (Nat.le_refl _)) h⟩
theorem s_X0_passTicks (hb : b < 11) (hW : W < 2 ^ 30) (hR : Rok μ b nl np ng W) (n : Nat) (hn : n < 2 ^ 31) : Con G mX0_passTicks [.ref (zad G.1 2 b 0), .int (nI n)] μ (fun v μ9 => v = some (.int (tkF b nl np ng n μ).2) ∧ μ9 = (tkF b nl np ng n μ).1) noX := by
  apply wX0_passTicks G b hb
  refine rn_loop (f := tkS b nl np ng) (T := fun i x => VL G mX0_passTicks _ _ 4 [(0, .ref (zad G.1 2 b 0)), (1, .int (nI n)), (2, .int x.2), (3, .int (nI i))] [] x.1) (I := fun x => Rok x.1 b nl np ng W) (n := n) ?_ (fun i x hi hx => tkS_ok hW hx) n 0 (by omega) (μ, nI 0) hR ?_
  · intro i x hi hx hT
    apply wX0_passTicks_4 G b hb
    refine ⟨fun h => absurd ((nI_leI hn (by omega)).mp h) (by omega), fun _ => ?_⟩
    refine (s_X0_moveRiders G hb hx).mono (fun v μ1 hp => ⟨_, hp.1, ?_⟩) (fun _ _ hp => hp)
    rw [hp.2]
    refine (s_X0_moveSkiers G hb (mrF_ok hx)).mono (fun v μ2 hp2 => ⟨_, hp2.1, ?_⟩) (fun _ _ hp => hp)
    rw [hp2.2]
    refine (s_X0_turnLifts G hb (msFn_ok (mrF_ok hx))).mono (fun v μ3 hp3 => ⟨hp3.1, ?_⟩) (fun _ _ hp => hp)
    rw [hp3.2]
    refine (s_X0_groomPistes G hb hW (tlF_ok (msFn_ok (mrF_ok hx)))).mono (fun v μ4 hp4 => ⟨hp4.1, ?_⟩) (fun _ _ hp => hp)
    rw [hp4.2]
    refine (s_X0_closeWornPistes G hb (gpF_ok hW (tlF_ok (msFn_ok (mrF_ok hx))))).mono (fun v μ5 hp5 => ⟨hp5.1, ?_⟩) (fun _ _ hp => hp)
    rw [hp5.2]
    exact hT
  · intro hx
    apply wX0_passTicks_4 G b hb
    exact ⟨fun _ => ⟨rfl, rfl⟩, fun h => absurd ((nI_leI hn hn).mpr (Nat.le_refl _)) h⟩
end ST
