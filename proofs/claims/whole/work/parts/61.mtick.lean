/-! ===== the reference's tick: riders, skiers, pistes ===== -/
theorem Rel.cng {σ μ : St} {b nl np ng : Nat} (h : Rel σ b nl np ng (row μ)) (hC : Cnt σ b nl np ng) : μ 26 0 0 5 = nI ng := (h.2.1.2 2 (by decide)).trans hC.2.2.1
theorem Rel.cnl {σ μ : St} {b nl np ng : Nat} (h : Rel σ b nl np ng (row μ)) (hC : Cnt σ b nl np ng) : μ 26 0 0 3 = nI nl := (h.2.1.2 0 (by decide)).trans hC.1.1
theorem Rel.cnp {σ μ : St} {b nl np ng : Nat} (h : Rel σ b nl np ng (row μ)) (hC : Cnt σ b nl np ng) : μ 26 0 0 4 = nI np := (h.2.1.2 1 (by decide)).trans hC.2.1.1
/-- a guest comes to a station -/
def cmF (μ : St) (g : Nat) (x : Int32) : St := up (up (up (up μ 26 0 0 (212 + 10 * g + 4) (nI 0)) 26 0 0 (212 + 10 * g + 5) x) 26 0 0 (212 + 10 * g + 6) (nI 0)) 10 0 0 7 (μ 10 0 0 7 + nI 1)
theorem gRel.set6 {σ μ : St} {b i : Nat} {v : Int32} (h : gRel σ b (row μ) i) : gRel (up σ 3 b i 6 v) b (row (up μ 26 0 0 (212 + 10 * i + 6) v)) i := by
  refine ⟨fun k hk => ?_, fun hx => ?_, ?_, fun k hk => ?_⟩
  · show up μ 26 0 0 _ _ 26 0 0 _ = _
    rw [up_sl (by omega), up_sl (by omega)]; exact h.1 k hk
  · rw [up_sl (by decide)] at hx
    show up μ 26 0 0 _ _ 26 0 0 _ = _
    rw [up_sl (by omega), up_sl (by omega)]; exact h.2.1 hx
  · show up μ 26 0 0 _ _ 26 0 0 _ = _
    rw [up_self, up_self]
  · show up μ 26 0 0 _ _ 26 0 0 _ = _
    rw [up_sl (by omega), up_sl (by omega)]; exact h.2.2.2 k hk
theorem gRel.stand {σ μ : St} {b i : Nat} {v w z : Int32} (h : gRel σ b (row μ) i) : gRel (gbc (up σ 3 b i 6 v) b i (nI 0) w (nI 0) z) b (row (cmF (up μ 26 0 0 (212 + 10 * i + 6) v) i w)) i := by
  unfold cmF
  refine ⟨fun k hk => ?_, fun hx => ?_, ?_, fun k hk => ?_⟩
  · show up (up (up (up (up μ 26 0 0 _ _) 26 0 0 _ _) 26 0 0 _ _) 26 0 0 _ _) 10 0 0 _ _ 26 0 0 _ = _
    rw [up_k (by decide), up_sl (by omega), up_sl (by omega)]
    by_cases h4 : k = 4
    · subst h4; rw [up_self, gbc_4]
    · rw [up_sl (by omega), up_sl (by omega), gbc_o (by omega), up_sl (by omega)]; exact h.1 k hk
  · show up (up (up (up (up μ 26 0 0 _ _) 26 0 0 _ _) 26 0 0 _ _) 26 0 0 _ _) 10 0 0 _ _ 26 0 0 _ = _
    rw [up_k (by decide), up_sl (by omega), up_self, gbc_5]
  · show up (up (up (up (up μ 26 0 0 _ _) 26 0 0 _ _) 26 0 0 _ _) 26 0 0 _ _) 10 0 0 _ _ 26 0 0 _ = _
    rw [up_k (by decide), up_self, gbc_6]
  · show up (up (up (up (up μ 26 0 0 _ _) 26 0 0 _ _) 26 0 0 _ _) 26 0 0 _ _) 10 0 0 _ _ 26 0 0 _ = _
    rw [up_k (by decide), up_sl (by omega), up_sl (by omega), up_sl (by omega), up_sl (by omega), gbc_o (by omega), up_sl (by omega)]; exact h.2.2.2 k hk
theorem cmF_o {μ : St} {g : Nat} {x : Int32} {j : Nat} (h : ¬ (212 + 10 * g ≤ j ∧ j < 212 + 10 * g + 10)) : cmF μ g x 26 0 0 j = μ 26 0 0 j := by
  unfold cmF
  rw [up_k (by decide), up_sl (by omega), up_sl (by omega), up_sl (by omega)]
theorem cmF_mt {μ μ' : St} {g : Nat} {x : Int32} (h : Mt μ μ') : Mt μ (cmF μ' g x) := by
  unfold cmF
  exact (((h.up26).up26).up26).come
section MT
variable (G : Gl) {b nl np ng W : Nat} {μ σ : St} {P : Option Value → St → Prop} {X : String → St → Prop}
theorem s_X8_comesTo (g : Nat) (hg : g < 16) (x : Int32) : Con G mX8_comesTo [.ref (zad G.1 10 0 0), .int (nI g), .int x] μ (fun v μ9 => v = none ∧ μ9 = cmF μ g x) noX := wX8_comesTo G g hg x μ ⟨rfl, rfl⟩
theorem t_riders (hR : Rok σ b nl np ng W) (hr : Rel σ b nl np ng (row μ)) (hk : ∀ μ', Mt μ μ' → Rel (mrF b ng σ).1 b nl np ng (row μ') → μ' 10 0 0 7 = μ 10 0 0 7 + (mrF b ng σ).2 → VL G mX8_tick P X 96 [(0, .ref (zad G.1 10 0 0)), (1, .int (nI 0))] [] μ') : VL G mX8_tick P X 2 [(0, .ref (zad G.1 10 0 0)), (1, .int (nI 0))] [] μ := by
  refine rn_loop (f := mrS b) (T := fun i x => ∀ μ', Mt μ μ' → Rel x.1 b nl np ng (row μ') → μ' 10 0 0 7 = μ 10 0 0 7 + x.2 → VL G mX8_tick P X 2 [(0, .ref (zad G.1 10 0 0)), (1, .int (nI i))] [] μ') (I := fun x => Rok x.1 b nl np ng W) (n := ng) ?_ (fun i x hi hx => mrS_ok hi hx) ng 0 (by omega) (σ, nI 0) hR ?_ μ (Mt.rfl' μ) hr (by rw [nI_0, Int32.add_zero])
  · intro i x hi hx hT μ' hM hr hc
    have hng := hx.1.2.2.2
    have hnl := hx.1.1.2
    have hg := hr.2.2.2.2.1 i hi
    have e4 : μ' 26 0 0 (212 + 10 * i + 4) = x.1 3 b i 4 := hg.1 4 (by decide)
    apply wX8_tick_2 G i
    refine ⟨fun h => absurd ((cle (hr.cng hx.1)).mp h) (by omega), fun _ => ⟨by omega, fun h => ?_, fun h => ?_⟩⟩
    · rw [e4] at h
      rw [show mrS b x i = x by rw [mrS, if_neg h]] at hT
      exact hT μ' hM hr hc
    · rw [e4] at h
      obtain ⟨⟨l, hl, hw⟩, ⟨r, r1, r2, hrr⟩⟩ := (hx.2.2.2.2 i hi).rides h
      have e5 : μ' 26 0 0 (212 + 10 * i + 5) = nI l := (hg.2.1 (by rw [h]; exact nI_ne (by decide))).trans hw
      have e6 : μ' 26 0 0 (212 + 10 * i + 6) = x.1 3 b i 6 := hg.2.2.1
      have es : nI 2 - msf μ' l = spo x.1 b l := hr.step hl
      have n1 : ¬ x.1 3 b i 4 = nI 1 := by rw [h]; exact nI_ne (by decide)
      refine ⟨by omega, by omega, l, e5, by omega, fun h0 => ?_, fun h0 => ?_⟩
      · rw [e6, es] at h0 ⊢
        rw [show mrS b x i = (up x.1 3 b i 6 (x.1 3 b i 6 - spo x.1 b l), x.2) by rw [mrS, if_pos h, hw, tN_nI (by omega), if_pos h0]] at hT
        refine hT _ hM.up26 (hr.guest1 (i := i) (fun k i s hk => up_k hk) (fun g s hg => up_i hg) (fun j hj => up_sl (by omega)) (fun _ => hg.set6) n1 (by show ¬ up _ _ _ _ _ _ _ _ _ _ = _; rw [up_sl (by decide)]; exact n1)) ?_
        rw [up_k (by decide)]; exact hc
      · rw [e6, es] at h0 ⊢
        rw [show mrS b x i = (gbc (up x.1 3 b i 6 (x.1 3 b i 6 - spo x.1 b l)) b i (nI 0) (x.1 6 b l 1) (nI 0) (nI 0), x.2 + 1) by rw [mrS, if_pos h, hw, tN_nI (by omega), if_neg h0]] at hT
        refine ⟨6 + 21 * l + 1, ?_, by omega, ?_⟩
        · rw [up_sl (by omega), e5, pk_mul, nI_add, nI_add]
        · rw [up_sl (by omega), show μ' 26 0 0 (6 + 21 * l + 1) = x.1 6 b l 1 from hr.2.2.1 l hl 1 (by decide)]
          refine (s_X8_comesTo G i (by omega) (x.1 6 b l 1)).mono (fun v μ1 hp => ⟨hp.1, ?_⟩) (fun _ _ hp => hp)
          rw [hp.2]
          refine hT _ (cmF_mt hM.up26) (hr.guest1 (i := i) (fun k i s hk => by show gbc _ _ _ _ _ _ _ _ _ _ _ = _; rw [gbc_k hk, up_k hk]) (fun g s hg => by show gbc _ _ _ _ _ _ _ _ _ _ _ = _; rw [gbc_i hg, up_i hg]) (fun j hj => by show cmF _ _ _ _ _ _ _ = _; rw [cmF_o hj, up_sl (by omega)]) (fun _ => hg.stand) n1 (by show ¬ gbc _ _ _ _ _ _ _ _ _ _ _ = _; rw [gbc_4]; exact nI_ne (by decide))) ?_
          unfold cmF
          rw [up_self, up_k (by decide), hc, nI_1', Int32.add_assoc]
  · intro hx μ' hM hr hc
    have hng := hx.1.2.2.2
    apply wX8_tick_2 G ng
    exact ⟨fun _ => hk μ' hM hr hc, fun h => absurd ((cle (hr.cng hx.1)).mpr (Nat.le_refl _)) h⟩
theorem t_skiers (hR : Rok σ b nl np ng W) (hr : Rel σ b nl np ng (row μ)) (hk : ∀ μ', Mt μ μ' → Rel (msFn b ng σ).1 b nl np ng (row μ') → μ' 10 0 0 7 = μ 10 0 0 7 + (msFn b ng σ).2 → VL G mX8_tick P X 179 [(0, .ref (zad G.1 10 0 0)), (1, .int (nI 0))] [] μ') : VL G mX8_tick P X 96 [(0, .ref (zad G.1 10 0 0)), (1, .int (nI 0))] [] μ := by
  refine rn_loop (f := msS b) (T := fun i x => ∀ μ', Mt μ μ' → Rel x.1 b nl np ng (row μ') → μ' 10 0 0 7 = μ 10 0 0 7 + x.2 → VL G mX8_tick P X 96 [(0, .ref (zad G.1 10 0 0)), (1, .int (nI i))] [] μ') (I := fun x => Rok x.1 b nl np ng W) (n := ng) ?_ (fun i x hi hx => msS_ok hi hx) ng 0 (by omega) (σ, nI 0) hR ?_ μ (Mt.rfl' μ) hr (by rw [nI_0, Int32.add_zero])
  · intro i x hi hx hT μ' hM hr hc
    have hng := hx.1.2.2.2
    have hnp := hx.1.2.1.2
    have hg := hr.2.2.2.2.1 i hi
    have e4 : μ' 26 0 0 (212 + 10 * i + 4) = x.1 3 b i 4 := hg.1 4 (by decide)
    apply wX8_tick_96 G i
    refine ⟨fun h => absurd ((cle (hr.cng hx.1)).mp h) (by omega), fun _ => ⟨by omega, fun h => ?_, fun h => ?_⟩⟩
    · rw [e4] at h
      rw [show msS b x i = x by rw [msS, if_neg h]] at hT
      exact hT μ' hM hr hc
    · rw [e4] at h
      obtain ⟨⟨l, hl, hw⟩, ⟨r, r1, r2, hrr⟩⟩ := (hx.2.2.2.2 i hi).skis h
      have e5 : μ' 26 0 0 (212 + 10 * i + 5) = nI l := (hg.2.1 (by rw [h]; exact nI_ne (by decide))).trans hw
      have e6 : μ' 26 0 0 (212 + 10 * i + 6) = x.1 3 b i 6 := hg.2.2.1
      have n1 : ¬ x.1 3 b i 4 = nI 1 := by rw [h]; exact nI_ne (by decide)
      have ez : x.1 3 b i 6 - nI 1 = nI (r - 1) := by rw [hrr, nI_sub r1]
      refine ⟨by omega, fun h0 => ?_, fun h0 => ⟨by omega, 132 + 8 * l + 1, ?_, by omega, ?_⟩⟩
      · rw [e6] at h0 ⊢
        have h1 : 0 < x.1 3 b i 6 - nI 1 := by
          rw [ez, ← nI_0] at h0 ⊢
          rw [nI_eq (by omega) (by decide)] at h0
          exact (nI_ltI (by decide) (by omega)).mpr (by omega)
        rw [show msS b x i = (up x.1 3 b i 6 (x.1 3 b i 6 - nI 1), x.2) by rw [msS, if_pos h, if_pos h1]] at hT
        refine hT _ hM.up26 (hr.guest1 (i := i) (fun k i s hk => up_k hk) (fun g s hg => up_i hg) (fun j hj => up_sl (by omega)) (fun _ => hg.set6) n1 (by show ¬ up _ _ _ _ _ _ _ _ _ _ = _; rw [up_sl (by decide)]; exact n1)) ?_
        rw [up_k (by decide)]; exact hc
      · rw [up_sl (by omega), e5, pk_mul, nI_add, nI_add]
      · rw [e6] at h0 ⊢
        have h1 : ¬ 0 < x.1 3 b i 6 - nI 1 := by rw [h0]; decide
        rw [show msS b x i = (gbc (up x.1 3 b i 6 (x.1 3 b i 6 - nI 1)) b i (nI 0) (x.1 7 b l 1) (nI 0) (nI 0), x.2 + 1) by rw [msS, if_pos h, if_neg h1, hw, tN_nI (by omega)]] at hT
        rw [up_sl (by omega), show μ' 26 0 0 (132 + 8 * l + 1) = x.1 7 b l 1 from hr.2.2.2.1 l hl 1 (by decide)]
        refine (s_X8_comesTo G i (by omega) (x.1 7 b l 1)).mono (fun v μ1 hp => ⟨hp.1, ?_⟩) (fun _ _ hp => hp)
        rw [hp.2]
        refine hT _ (cmF_mt hM.up26) (hr.guest1 (i := i) (fun k i s hk => by show gbc _ _ _ _ _ _ _ _ _ _ _ = _; rw [gbc_k hk, up_k hk]) (fun g s hg => by show gbc _ _ _ _ _ _ _ _ _ _ _ = _; rw [gbc_i hg, up_i hg]) (fun j hj => by show cmF _ _ _ _ _ _ _ = _; rw [cmF_o hj, up_sl (by omega)]) (fun _ => hg.stand) n1 (by show ¬ gbc _ _ _ _ _ _ _ _ _ _ _ = _; rw [gbc_4]; exact nI_ne (by decide))) ?_
        unfold cmF
        rw [up_self, up_k (by decide), hc, nI_1', Int32.add_assoc]
  · intro hx μ' hM hr hc
    have hng := hx.1.2.2.2
    apply wX8_tick_96 G ng
    exact ⟨fun _ => hk μ' hM hr hc, fun h => absurd ((cle (hr.cng hx.1)).mpr (Nat.le_refl _)) h⟩
theorem t_grooms (hW : W < 2 ^ 30) (hR : Rok σ b nl np ng W) (hr : Rel σ b nl np ng (row μ)) (hk : ∀ μ', Mt μ μ' → Rel (gpF b np σ) b nl np ng (row μ') → μ' 10 0 0 7 = μ 10 0 0 7 → VL G mX8_tick P X 327 [(0, .ref (zad G.1 10 0 0)), (1, .int (nI 0))] [] μ') : VL G mX8_tick P X 249 [(0, .ref (zad G.1 10 0 0)), (1, .int (nI 0))] [] μ := by
  refine rn_loop (f := gpS b) (T := fun i x => ∀ μ', Mt μ μ' → Rel x b nl np ng (row μ') → μ' 10 0 0 7 = μ 10 0 0 7 → VL G mX8_tick P X 249 [(0, .ref (zad G.1 10 0 0)), (1, .int (nI i))] [] μ') (I := fun x => Rok x b nl np ng W) (n := np) ?_ (fun i x hi hx => gpS_ok hi hW hx) np 0 (by omega) σ hR ?_ μ (Mt.rfl' μ) hr rfl
  · intro i x hi hx hT μ' hM hr hc
    have hnp := hx.1.2.1.2
    have hp := hr.2.2.2.1 i hi
    have e4 : μ' 26 0 0 (132 + 8 * i + 4) = x 7 b i 4 := hp 4 (by decide)
    apply wX8_tick_249 G i
    refine ⟨fun h => absurd ((cle (hr.cnp hx.1)).mp h) (by omega), fun _ => ⟨by omega, fun h => ?_, fun h => ?_⟩⟩
    · rw [e4] at h
      rw [show gpS b x i = x by rw [gpS, if_neg h]] at hT
      exact hT μ' hM hr hc
    · rw [e4] at h
      obtain ⟨r, r1, r2, hrr⟩ := (hx.2.2.2.1 i hi).2.2.2.2.2.2 h
      have e6 : μ' 26 0 0 (132 + 8 * i + 6) = x 7 b i 6 := hp 6 (by decide)
      have ez : x 7 b i 6 - nI 1 = nI (r - 1) := by rw [hrr, nI_sub r1]
      refine ⟨by omega, fun h0 => ?_, fun h0 => ⟨by omega, ?_⟩⟩
      · rw [e6] at h0 ⊢
        have h1 : 0 < x 7 b i 6 - nI 1 := by
          rw [ez, ← nI_0] at h0 ⊢
          rw [nI_eq (by omega) (by decide)] at h0
          exact (nI_ltI (by decide) (by omega)).mpr (by omega)
        rw [show gpS b x i = up x 7 b i 6 (x 7 b i 6 - nI 1) by rw [gpS, if_pos h, if_pos h1]] at hT
        refine hT _ hM.up26 (hr.piste1 (i := i) (by omega) (fun k i s hk => up_k hk) (fun g s hg => up_i hg) (fun j hj => up_sl (by omega)) (fun _ k hk => ?_)) ?_
        · show up μ' 26 0 0 _ _ 26 0 0 _ = _
          by_cases h6 : k = 6
          · subst h6; rw [up_self, up_self]
          · rw [up_sl (by omega), up_sl h6]; exact hp k hk
        · rw [up_k (by decide)]; exact hc
      · rw [e6] at h0 ⊢
        have h1 : ¬ 0 < x 7 b i 6 - nI 1 := by rw [h0]; decide
        rw [show gpS b x i = pfr (up x 7 b i 6 (x 7 b i 6 - nI 1)) b i by rw [gpS, if_pos h, if_neg h1]] at hT
        refine hT _ hM.up26.up26.up26 (hr.piste1 (i := i) (by omega) (fun k i s hk => by rw [pfr_k hk, up_k hk]) (fun g s hg => by unfold pfr; rw [up_i hg, up_i hg, up_i hg, up_i hg]) (fun j hj => by show up (up (up μ' 26 0 0 _ _) 26 0 0 _ _) 26 0 0 _ _ 26 0 0 _ = _; rw [up_sl (by omega), up_sl (by omega), up_sl (by omega)]) (fun _ k hk => ?_)) ?_
        · show up (up (up μ' 26 0 0 _ _) 26 0 0 _ _) 26 0 0 _ _ 26 0 0 _ = _
          unfold pfr
          by_cases h5 : k = 5
          · subst h5; rw [up_self, up_sl (by decide), up_self]
          · by_cases h4 : k = 4
            · subst h4; rw [up_sl (by omega), up_self, up_sl (by decide), up_sl (by decide), up_self]
            · by_cases h6 : k = 6
              · subst h6; rw [up_sl (by omega), up_sl (by omega), up_self, up_self, h0, nI_0]
              · rw [up_sl (by omega), up_sl (by omega), up_sl (by omega), up_sl h6, up_sl h5, up_sl h4, up_sl h6]; exact hp k hk
        · rw [up_k (by decide), up_k (by decide), up_k (by decide)]; exact hc
  · intro hx μ' hM hr hc
    have hnp := hx.1.2.1.2
    apply wX8_tick_249 G np
    exact ⟨fun _ => hk μ' hM hr hc, fun h => absurd ((cle (hr.cnp hx.1)).mpr (Nat.le_refl _)) h⟩
theorem t_closes (hR : Rok σ b nl np ng W) (hr : Rel σ b nl np ng (row μ)) (hk : ∀ μ', Mt μ μ' → Rel (up (cpF b np σ) 2 b 0 7 (cpF b np σ 2 b 0 7 + nI 1)) b nl np ng (row μ') → μ' 10 0 0 7 = μ 10 0 0 7 → P none μ') : VL G mX8_tick P X 327 [(0, .ref (zad G.1 10 0 0)), (1, .int (nI 0))] [] μ := by
  refine rn_loop (f := cpS b) (T := fun i x => ∀ μ', Mt μ μ' → Rel x b nl np ng (row μ') → μ' 10 0 0 7 = μ 10 0 0 7 → VL G mX8_tick P X 327 [(0, .ref (zad G.1 10 0 0)), (1, .int (nI i))] [] μ') (I := fun x => Rok x b nl np ng W) (n := np) ?_ (fun i x hi hx => cpS_ok hi hx) np 0 (by omega) σ hR ?_ μ (Mt.rfl' μ) hr rfl
  · intro i x hi hx hT μ' hM hr hc
    have hnp := hx.1.2.1.2
    have hp := hr.2.2.2.1 i hi
    have e4 : μ' 26 0 0 (132 + 8 * i + 4) = x 7 b i 4 := hp 4 (by decide)
    have e5 : μ' 26 0 0 (132 + 8 * i + 5) = x 7 b i 5 := hp 5 (by decide)
    have same : Rel x b nl np ng (row (up μ' 26 0 0 (132 + 8 * i + 4) (x 7 b i 4))) := by
      refine hr.piste1 (i := i) (by omega) (fun _ _ _ _ => rfl) (fun _ _ _ => rfl) (fun j hj => up_sl (by omega)) (fun _ k hk => ?_)
      show up μ' 26 0 0 _ _ 26 0 0 _ = _
      by_cases h4 : k = 4
      · subst h4; rw [up_self]
      · rw [up_sl (by omega)]; exact hp k hk
    apply wX8_tick_327 G i
    refine ⟨fun h => absurd ((cle (hr.cnp hx.1)).mp h) (by omega), fun _ => ⟨by omega, fun h => ?_, fun h => ⟨by omega, fun h0 => ?_, fun h0 => ?_⟩⟩⟩
    · rw [e4] at h ⊢
      rw [show cpS b x i = x by rw [cpS, if_neg h]] at hT
      exact hT _ hM.up26 same (by rw [up_k (by decide)]; exact hc)
    · rw [e4] at h ⊢
      rw [e5] at h0
      rw [show cpS b x i = x by rw [cpS, if_pos h, if_pos h0]] at hT
      exact hT _ hM.up26 same (by rw [up_k (by decide)]; exact hc)
    · rw [e4] at h
      rw [e5] at h0
      rw [show cpS b x i = up x 7 b i 4 (nI 1) by rw [cpS, if_pos h, if_neg h0]] at hT
      refine hT _ hM.up26 (hr.piste1 (i := i) (by omega) (fun k i s hk => up_k hk) (fun g s hg => up_i hg) (fun j hj => up_sl (by omega)) (fun _ k hk => ?_)) (by rw [up_k (by decide)]; exact hc)
      show up μ' 26 0 0 _ _ 26 0 0 _ = _
      by_cases h4 : k = 4
      · subst h4; rw [up_self, up_self]
      · rw [up_sl (by omega), up_sl h4]; exact hp k hk
  · intro hx μ' hM hr hc
    have hnp := hx.1.2.1.2
    apply wX8_tick_327 G np
    refine ⟨fun _ => hk _ hM.up26 ?_ (by rw [up_k (by decide)]; exact hc), fun h => absurd ((cle (hr.cnp hx.1)).mpr (Nat.le_refl _)) h⟩
    have e1 : μ' 26 0 0 1 = cpF b np σ 2 b 0 7 := hr.2.1.1 1 (by decide)
    rw [e1]
    obtain ⟨hc, hz, h3, h4, h5, h6⟩ := hr
    refine ⟨hc, ⟨fun k hk => ?_, fun k hk => ?_⟩, fun l hl => (h3 l hl).congr (fun s _ => up_k (by decide)) (fun k hk => up_sl (by omega)), fun l hl => (h4 l hl).congr (fun s _ => up_k (by decide)) (fun k hk => up_sl (by omega)), fun l hl => (h5 l hl).congr (fun s _ => up_k (by decide)) (fun k hk => up_sl (by omega)), fun l hl => (h6 l hl).congr (fun g s _ _ => up_k (by decide)) (fun k hk hk2 => up_sl (by omega))⟩
    · show up μ' 26 0 0 _ _ 26 0 0 _ = _
      by_cases h1 : k = 1
      · subst h1; rw [up_self, up_self]
      · rw [up_sl h1, up_sl (by omega)]; exact hz.1 k hk
    · show up μ' 26 0 0 _ _ 26 0 0 _ = _
      rw [up_sl (by omega), up_sl (by omega)]; exact hz.2 k hk
end MT
