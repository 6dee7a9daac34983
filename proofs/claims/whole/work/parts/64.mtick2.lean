/-! ===== the reference's tick: cabins, lifts, the whole ===== -/
theorem imn_nI {a b : Nat} (ha : a < 2 ^ 31) (hb : b < 2 ^ 31) : imn (nI a) (nI b) = nI (min a b) := by
  unfold imn
  by_cases h : nI b < nI a
  · rw [if_pos h]
    have := (nI_ltI hb ha).mp h
    congr 1; omega
  · rw [if_neg h]
    have : ¬ b < a := fun z => h ((nI_ltI hb ha).mpr z)
    congr 1; omega
section MT2
variable (G : Gl) {b nl np ng W : Nat} {μ σ : St} {P : Option Value → St → Prop} {X : String → St → Prop}
theorem s_X8_cabin {l : Nat} (hl : l < nl) (hcap : isN (σ 6 b l 4) 1 8) (hr : Rel σ b nl np ng (row μ)) : Con G mX8_cabin [.ref (zad G.1 10 0 0), .int (nI l)] μ (fun v μ9 => v = none ∧ (∀ k b i s, k ≠ 26 → μ9 k b i s = μ k b i s) ∧ Rel (bcF b l ng (cbS σ b l)) b nl np ng (row μ9)) noX := by
  obtain ⟨q, q1, q2, q3, q4⟩ := hr.2.2.2.2.2 l hl
  obtain ⟨c, c1, c2, hc⟩ := hcap
  have hnl := hr.1.1
  have hng := hr.1.2.2
  have hl6 : l < 6 := by omega
  have em : imn (μ 26 0 0 (6 + 21 * l + 10)) (μ 26 0 0 (6 + 21 * l + 4)) = nI (min q c) := by
    rw [show μ 26 0 0 (6 + 21 * l + 10) = nI q from q2, show μ 26 0 0 (6 + 21 * l + 4) = nI c from (hr.2.2.1 l hl 4 (by decide)).trans hc, imn_nI (by omega) (by omega)]
  have T : ∀ d k μ', k + d = min q c → CbQ σ μ μ' b ng l k → VL G mX8_cabin (fun v μ9 => v = none ∧ (∀ k b i s, k ≠ 26 → μ9 k b i s = μ k b i s) ∧ Rel (bcF b l ng (cbS σ b l)) b nl np ng (row μ9)) noX 29 [(0, .ref (zad G.1 10 0 0)), (1, .int (nI l)), (2, .int (nI (6 + 21 * l))), (3, .int (nI (min q c))), (4, .int (nI k))] [] μ' := by
    intro d
    induction d with
    | zero =>
      intro k μ' hk hQ
      obtain rfl : k = min q c := by omega
      apply wX8_cabin_29 G l hl6
      refine ⟨fun _ => ?_, fun h => absurd ((nI_leI (by omega) (by omega)).mpr (Nat.le_refl _)) h⟩
      refine (s_X8_drops G (q := q) hl6 q1 (Nat.min_le_left _ _) (Nat.zero_le _) μ' ((hQ.2.1 _ (by omega)).trans q2)).mono (fun v μ1 hp => ⟨hp.1, rfl, fun k b i s hk => ?_, ?_⟩) (fun _ _ hp => hp)
      · rw [up_k hk, up_k hk, up_k hk, hp.2.1 k b i s hk, hQ.1 k b i s hk]
      · refine cab_rel hl q1 c1 c2 hc hr q2 q3 q4 hQ hp.2 ?_
        rw [up_sl (by omega), up_sl (by omega), up_sl (by omega), up_sl (by omega), up_sl (by omega)]
    | succ d ih =>
      intro k μ' hk hQ
      obtain ⟨a1, a2, a3⟩ := hQ
      obtain ⟨g, hg, s1, s2, s3, s4⟩ := q3 k (by omega)
      have e : μ' 26 0 0 (6 + 21 * l + 11 + k) = nI g := (a2 _ (by omega)).trans s1
      apply wX8_cabin_29 G l hl6
      refine ⟨fun h => absurd ((nI_leI (by omega) (by omega)).mp h) (by omega), fun _ => ⟨by omega, 212 + 10 * g + 4, by rw [e, pk_mul, nI_add, nI_add], by omega, 212 + 10 * g + 6, by rw [e, pk_mul, nI_add, nI_add], by omega, 212 + 10 * g + 7, by rw [e, pk_mul, nI_add, nI_add], by omega, 212 + 10 * g + 7, by rw [e, pk_mul, nI_add, nI_add], by omega, ?_⟩⟩
      refine ih (k + 1) _ (by omega) ⟨fun k b i s hk => by rw [up_k hk, up_k hk, up_k hk, a1 k b i s hk], fun j hj => by rw [up_sl (by omega), up_sl (by omega), up_sl (by omega), a2 j hj], fun g' hg' t ht => ?_⟩
      by_cases hgg : g' = g
      · subst hgg
        have hp : gis σ b g' (nI 1) (nI l) = true := by unfold gis; rw [s2, s3]; simp
        have old : ∀ t, t < 10 → μ' 26 0 0 (212 + 10 * g' + t) = row μ (212 + 10 * g' + t) := fun t ht => by
          rw [a3 g' hg' t ht]
          unfold cbg
          rw [if_neg (fun z => by have := z.2; rw [s4, tN_nI (by omega)] at this; omega)]
        have new : cbg σ b (row μ) l g' (k + 1) t = if t = 4 then nI 2 else if t = 6 then nI 2 * σ 6 b l 5 else if t = 7 then row μ (212 + 10 * g' + 7) + nI 1 else row μ (212 + 10 * g' + t) := by
          unfold cbg
          rw [if_pos ⟨hp, by rw [s4, tN_nI (by omega)]; omega⟩]
        rw [new]
        by_cases h4 : t = 4
        · subst h4; rw [up_sl (by omega), up_sl (by omega), up_self, if_pos rfl]
        · rw [if_neg h4]
          by_cases h6 : t = 6
          · subst h6; rw [up_sl (by omega), up_self, up_sl (by omega), if_pos rfl, a2 _ (by omega)]
            exact congrArg (nI 2 * ·) (hr.2.2.1 l hl 5 (by decide))
          · rw [if_neg h6]
            by_cases h7 : t = 7
            · subst h7; rw [up_self, up_sl (by omega), up_sl (by omega), old 7 (by decide), if_pos rfl]
            · rw [if_neg h7, up_sl (by omega), up_sl (by omega), up_sl (by omega), old t ht]
      · rw [up_sl (by omega), up_sl (by omega), up_sl (by omega), a3 g' hg' t ht]
        unfold cbg
        by_cases hp : gis σ b g' (nI 1) (nI l) = true
        · obtain ⟨p1, p2⟩ := gis_y hp
          obtain ⟨j, hj, j1, j2⟩ := q4 g' hg' p1 p2
          have hjk : j ≠ k := fun z => by subst z; exact hgg (nI_inj (by omega) (by omega) (j2.symm.trans s1))
          have e3 : tN (σ 3 b g' 7) = j := by rw [j1, tN_nI (by omega)]
          rw [e3]
          by_cases h : j < k
          · have c1 : gis σ b g' (nI 1) (nI l) = true ∧ j < k := ⟨hp, h⟩
            have c2 : gis σ b g' (nI 1) (nI l) = true ∧ j < k + 1 := ⟨hp, by omega⟩
            rw [if_pos c1, if_pos c2]
          · have c1 : ¬ (gis σ b g' (nI 1) (nI l) = true ∧ j < k) := fun z => h z.2
            have c2 : ¬ (gis σ b g' (nI 1) (nI l) = true ∧ j < k + 1) := fun z => by have := z.2; omega
            rw [if_neg c1, if_neg c2]
        · rw [if_neg (fun z => hp z.1), if_neg (fun z => hp z.1)]
  apply wX8_cabin G l hl6
  rw [em]
  refine T (min q c) 0 μ (by omega) ⟨fun _ _ _ _ _ => rfl, fun _ _ => rfl, fun g hg t ht => ?_⟩
  unfold cbg
  rw [if_neg (fun z => absurd z.2 (by omega))]
theorem t_lifts (hR : Rok σ b nl np ng W) (hr : Rel σ b nl np ng (row μ)) (hk : ∀ μ', Mt μ μ' → Rel (tlF b nl ng σ) b nl np ng (row μ') → μ' 10 0 0 7 = μ 10 0 0 7 → VL G mX8_tick P X 249 [(0, .ref (zad G.1 10 0 0)), (1, .int (nI 0))] [] μ') : VL G mX8_tick P X 179 [(0, .ref (zad G.1 10 0 0)), (1, .int (nI 0))] [] μ := by
  refine rn_loop (f := tlS b ng) (T := fun i x => ∀ μ', Mt μ μ' → Rel x b nl np ng (row μ') → μ' 10 0 0 7 = μ 10 0 0 7 → VL G mX8_tick P X 179 [(0, .ref (zad G.1 10 0 0)), (1, .int (nI i))] [] μ') (I := fun x => Rok x b nl np ng W) (n := nl) ?_ (fun i x hi hx => tlS_ok hi hx) nl 0 (by omega) σ hR ?_ μ (Mt.rfl' μ) hr rfl
  · intro i x hi hx hT μ' hM hr hc
    have hnl := hx.1.1.2
    obtain ⟨w1, w2, w3, w4, w5, w6, ⟨v, c, v1, v2, v3, hv, hcl⟩⟩ := hx.2.2.1 i hi
    obtain ⟨z, hz, hz2⟩ := spo_n x b i
    have hlr := hr.2.2.1 i hi
    have e7 : μ' 26 0 0 (6 + 21 * i + 7) = x 6 b i 7 := hlr 7 (by decide)
    have es : nI 2 - msf μ' i = spo x b i := hr.step hi
    apply wX8_tick_179 G i
    refine ⟨fun h => absurd ((cle (hr.cnl hx.1)).mp h) (by omega), fun _ => ⟨by omega, by omega, ?_⟩⟩
    rw [e7, es]
    have hra : Rel (up x 6 b i 7 (x 6 b i 7 + spo x b i)) b nl np ng (row (up μ' 26 0 0 (6 + 21 * i + 7) (x 6 b i 7 + spo x b i))) := by
      refine hr.lift1 (i := i) (by omega) (fun k i s hk => up_k hk) (fun g s hg => up_i hg) (fun j hj => up_sl (by omega)) (fun _ k hk => ?_)
      show up μ' 26 0 0 _ _ 26 0 0 _ = _
      by_cases h7 : k = 7
      · subst h7; rw [up_self, up_self]
      · rw [up_sl (by omega), up_sl h7]; exact hlr k hk
    have e1 : stc (up x 6 b i 7 (x 6 b i 7 + spo x b i)) b i (nI 1) = nI (2 * v) - nI (c + z) := by
      unfold stc
      rw [up_self, up_sl (by decide), hv, hcl, hz2, nI_add, pk_mul, pk_mul, Nat.mul_one]
    have ea3 : (up μ' 26 0 0 (6 + 21 * i + 7) (x 6 b i 7 + spo x b i)) 26 0 0 (6 + 21 * i + 3) = nI v := by rw [up_sl (by omega)]; exact (hlr 3 (by decide)).trans hv
    apply wX8_tick_211 G i (6 + 21 * i)
    refine ⟨by omega, by omega, fun h => ?_, fun h => ?_⟩
    · rw [up_self, ea3, hcl, hz2, nI_add, pk_mul] at h
      have h1 := (nI_ltI (by omega) (by omega)).mp h
      rw [show tlS b ng x i = up x 6 b i 7 (x 6 b i 7 + spo x b i) by rw [tlS, e1, if_pos ((nI_subpos (by omega) (by omega)).mpr h1)]] at hT
      exact hT _ hM.up26 hra (by rw [up_k (by decide)]; exact hc)
    · rw [up_self, ea3, hcl, hz2, nI_add, pk_mul] at h
      have h1 : ¬ c + z < 2 * v := fun y => h ((nI_ltI (by omega) (by omega)).mpr y)
      have et : tlS b ng x i = bcF b i ng (cbS (up x 6 b i 7 (x 6 b i 7 + spo x b i)) b i) := by
        rw [tlS, e1, if_neg (fun y => h1 ((nI_subpos (by omega) (by omega)).mp y))]
        unfold cbS
        rw [up_self, up_sl (by decide), up_sl (by decide)]
      rw [et] at hT
      refine (s_X8_cabin G hi (by rw [up_sl (by decide)]; exact w4) hra).mono (fun vv μ1 hp => ⟨hp.1, ?_⟩) (fun _ _ hp => hp)
      obtain ⟨-, hf, hr1⟩ := hp
      obtain ⟨b1, -, -⟩ := bcF_cf (cbS (up x 6 b i 7 (x 6 b i 7 + spo x b i)) b i) b i ng
      have f7 : μ1 26 0 0 (6 + 21 * i + 7) = nI (c + z - 2 * v) := by
        refine (hr1.2.2.1 i hi 7 (by decide)).trans ?_
        rw [b1 _ _ _ _ (fun z => by cases z.1) (fun z => by cases z.2.2.2)]
        unfold cbS
        rw [up_sl (by decide), up_self, up_self, up_sl (by decide), hcl, hz2, hv, nI_add, pk_mul, nI_sub (by omega)]
      have f3 : μ1 26 0 0 (6 + 21 * i + 3) = nI v := by
        refine (hr1.2.2.1 i hi 3 (by decide)).trans ?_
        rw [b1 _ _ _ _ (fun z => by cases z.1) (fun z => by cases z.2.2.2), cbS_o (fun z => by rcases z.2.2.2 with h | h <;> cases h), up_sl (by decide), hv]
      apply wX8_tick_211 G i (6 + 21 * i)
      refine ⟨by omega, by omega, fun _ => ?_, fun h2 => absurd ?_ h2⟩
      · refine hT μ1 (fun k b i s h1 h2 => ?_) hr1 ?_
        · rw [hf k b i s h1, up_k h1, hM k b i s h1 h2]
        · rw [hf 10 0 0 7 (by decide), up_k (by decide), hc]
      · rw [f7, f3, pk_mul]
        exact (nI_ltI (by omega) (by omega)).mpr (by omega)
  · intro hx μ' hM hr hc
    have hnl := hx.1.1.2
    apply wX8_tick_179 G nl
    exact ⟨fun _ => hk μ' hM hr hc, fun h => absurd ((cle (hr.cnl hx.1)).mpr (Nat.le_refl _)) h⟩
theorem s_X8_tick (hW : W < 2 ^ 30) (hR : Rok σ b nl np ng W) (hr : Rel σ b nl np ng (row μ)) (a : Int32) (i : Nat) (ha : μ 10 0 0 7 = a) : Con G mX8_tick [.ref (zad G.1 10 0 0)] μ (fun v μ9 => v = none ∧ Mt μ μ9 ∧ Rel (tkS b nl np ng (σ, a) i).1 b nl np ng (row μ9) ∧ μ9 10 0 0 7 = (tkS b nl np ng (σ, a) i).2) noX := by
  apply wX8_tick
  refine t_riders G hR hr (fun μ1 m1 r1 c1 => ?_)
  refine t_skiers G (mrF_ok hR) r1 (fun μ2 m2 r2 c2 => ?_)
  refine t_lifts G (msFn_ok (mrF_ok hR)) r2 (fun μ3 m3 r3 c3 => ?_)
  refine t_grooms G hW (tlF_ok (msFn_ok (mrF_ok hR))) r3 (fun μ4 m4 r4 c4 => ?_)
  refine t_closes G (gpF_ok hW (tlF_ok (msFn_ok (mrF_ok hR)))) r4 (fun μ5 m5 r5 c5 => ?_)
  refine ⟨rfl, (((m1.trans m2).trans m3).trans m4).trans m5, r5, ?_⟩
  rw [c5, c4, c3, c2, c1, ha]
  rfl
theorem s_X8_ticks (hW : W < 2 ^ 30) (hR : Rok σ b nl np ng W) (hr : Rel σ b nl np ng (row μ)) (n : Nat) (hn : n < 2 ^ 31) : Con G mX8_ticks [.ref (zad G.1 10 0 0), .int (nI n)] μ (fun v μ9 => v = some (.int (tkF b nl np ng n σ).2) ∧ Mt μ μ9 ∧ Rel (tkF b nl np ng n σ).1 b nl np ng (row μ9)) noX := by
  apply wX8_ticks
  refine rn_loop (f := tkS b nl np ng) (T := fun i x => ∀ μ', Mt μ μ' → Rel x.1 b nl np ng (row μ') → μ' 10 0 0 7 = x.2 → VL G mX8_ticks _ _ 7 [(0, .ref (zad G.1 10 0 0)), (1, .int (nI n)), (2, .int (nI i))] [] μ') (I := fun x => Rok x.1 b nl np ng W) (n := n) ?_ (fun i x hi hx => tkS_ok hW hx) n 0 (by omega) (σ, nI 0) hR ?_ _ (Mt.rfl' μ).come ?_ (up_self _ _ _ _ _ _)
  · intro i x hi hx hT μ' hM hr hc
    apply wX8_ticks_7 G (nI n) i
    refine ⟨fun h => absurd ((nI_leI hn (by omega)).mp h) (by omega), fun _ => ?_⟩
    exact (s_X8_tick G hW hx hr x.2 i hc).mono (fun v μ1 hp => ⟨hp.1, hT μ1 (hM.trans hp.2.1) hp.2.2.1 hp.2.2.2⟩) (fun _ _ hp => hp)
  · intro hx μ' hM hr hc
    apply wX8_ticks_7 G (nI n) n
    exact ⟨fun _ => ⟨by rw [hc]; rfl, hM, hr⟩, fun h => absurd ((nI_leI hn hn).mpr (Nat.le_refl _)) h⟩
  · exact hr.congr (fun _ _ _ => rfl) (fun _ _ _ _ => rfl) (fun _ _ _ _ => rfl) (fun _ _ _ _ => rfl) (fun j _ => up_k (by decide))
end MT2
