/-! ===== what both change of an area is the same ===== -/
section CH
variable {σ μ : St} {b nl np ng : Nat} (G : Gl)
theorem s_X8_clear (μ : St) : Con G mX8_clear [.ref (zad G.1 10 0 0)] μ (fun v μ9 => v = some (.int (μ 26 0 0 5)) ∧ μ9 = up (cpR (up μ 10 0 0 6 (nI 0)) 26 0 (fun _ => nI 0) 372) 10 0 0 4 (nI 0)) noX := by
  have T : ∀ d i, i + d = 372 → VL G mX8_clear (fun v μ9 => v = some (.int (μ 26 0 0 5)) ∧ μ9 = up (cpR (up μ 10 0 0 6 (nI 0)) 26 0 (fun _ => nI 0) 372) 10 0 0 4 (nI 0)) noX 14 [(0, .ref (zad G.1 10 0 0)), (1, .int (μ 26 0 0 5)), (2, .int (nI i))] [] (cpR (up μ 10 0 0 6 (nI 0)) 26 0 (fun _ => nI 0) i) := by
    intro d
    induction d with
    | zero =>
      intro i hi
      obtain rfl : i = 372 := by omega
      apply wX8_clear_14
      exact ⟨fun _ => ⟨rfl, rfl⟩, fun h => absurd ((nI_leI (by omega) (by omega)).mpr (Nat.le_refl _)) h⟩
    | succ d ih =>
      intro i hi
      apply wX8_clear_14
      refine ⟨fun h => absurd ((nI_leI (by omega) (by omega)).mp h) (by omega), fun _ => ⟨by omega, ?_⟩⟩
      have := ih (i + 1) (by omega)
      rw [← cpR_up0 (up μ 10 0 0 6 (nI 0)) 26 (fun _ => nI 0) i] at this
      exact this
  apply wX8_clear
  have := T 372 0 (by omega)
  rw [cpR_0] at this
  exact this
theorem s_X8_arrives (hC : Cnt σ b nl np ng) (h : Rel σ b nl np ng (row μ)) (hn : ng < 16) (x1 x2 x3 x4 x5 : Int32) : Con G mX8_arrives [.ref (zad G.1 10 0 0), .int x1, .int x2, .int x3, .int x4, .int x5] μ (fun v μ9 => v = none ∧ (∀ k b i s, k ≠ 26 → μ9 k b i s = μ k b i s) ∧ Rel (weF σ b ng x1 x2 x3 x4 x5) b nl np (ng + 1) (row μ9)) noX := by
  have e5 := h.cng hC
  have ey : nI 212 + nI 10 * μ 26 0 0 5 = nI (212 + 10 * ng) := by rw [e5, pk_mul, nI_add]
  have key : (fun (v : Option Value) (μ9 : St) => v = none ∧ (∀ k b i s, k ≠ 26 → μ9 k b i s = μ k b i s) ∧ Rel (weF σ b ng x1 x2 x3 x4 x5) b nl np (ng + 1) (row μ9)) none (up (up (up (up (up (up (cpR μ 26 (212 + 10 * ng) (fun _ => nI 0) 10) 26 0 0 (212 + 10 * ng) x2) 26 0 0 (212 + 10 * ng + 1) x3) 26 0 0 (212 + 10 * ng + 2) x4) 26 0 0 (212 + 10 * ng + 3) x5) 26 0 0 (212 + 10 * ng + 5) x1) 26 0 0 5 (nI (ng + 1))) := by
    refine ⟨rfl, fun k b i s hk => by rw [up_k hk, up_k hk, up_k hk, up_k hk, up_k hk, up_k hk, cpR_k hk], ?_⟩
    obtain ⟨hc, hz, h3, h4, h5, h6⟩ := h
    have low : ∀ j, j ≠ 5 → ¬ (212 + 10 * ng ≤ j ∧ j < 212 + 10 * ng + 10) → row (up (up (up (up (up (up (cpR μ 26 (212 + 10 * ng) (fun _ => nI 0) 10) 26 0 0 (212 + 10 * ng) x2) 26 0 0 (212 + 10 * ng + 1) x3) 26 0 0 (212 + 10 * ng + 2) x4) 26 0 0 (212 + 10 * ng + 3) x5) 26 0 0 (212 + 10 * ng + 5) x1) 26 0 0 5 (nI (ng + 1))) j = row μ j := fun j h1 h2 => by
      show up _ _ _ _ _ _ 26 0 0 j = _
      rw [up_sl h1, up_sl (by omega), up_sl (by omega), up_sl (by omega), up_sl (by omega), up_sl (by omega), cpR_no h2]
    have w3 : ∀ g s, weF σ b ng x1 x2 x3 x4 x5 3 b g s = if g = ng then (match s with | 0 => x2 | 1 => x3 | 2 => x4 | 3 => x5 | 4 => nI 0 | 5 => x1 | 6 => nI 0 | 7 => nI 0 | 8 => nI 0 | 9 => nI 0 | 10 => nI 0 | s => σ 3 b g s) else σ 3 b g s := fun g s => by
      unfold weF
      rw [up_k (by decide), u11]
      simp only [true_and]
    have wk : ∀ k i s, k ≠ 3 → ¬ (k = 2 ∧ s = 5) → weF σ b ng x1 x2 x3 x4 x5 k b i s = σ k b i s := fun k i s h1 h2 => by
      unfold weF
      by_cases hk : k = 2
      · rw [up_sl (fun z => h2 ⟨hk, z⟩), u11, if_neg (fun z => h1 z.1)]
      · rw [up_k hk, u11, if_neg (fun z => h1 z.1)]
    refine ⟨⟨hc.1, hc.2.1, by omega⟩, ⟨fun k hk => ?_, fun k hk => ?_⟩, fun l hl => (h3 l hl).congr (fun s hs => wk 6 l s (by decide) (fun z => by cases z.1)) (fun k hk => low _ (by omega) (by omega)), fun p hp => (h4 p hp).congr (fun s hs => wk 7 p s (by decide) (fun z => by cases z.1)) (fun k hk => low _ (by omega) (by omega)), fun g hg => ?_, fun l hl => ?_⟩
    · rw [low k (by omega) (by omega), wk 2 0 (6 + k) (by decide) (fun z => by omega)]; exact hz.1 k hk
    · by_cases h2 : k = 2
      · subst h2
        show up _ _ _ _ _ _ 26 0 0 5 = _
        rw [up_self]
        unfold weF
        rw [up_self]
      · rw [low (3 + k) (by omega) (by omega), wk 2 0 (3 + k) (by decide) (fun z => by omega)]; exact hz.2 k hk
    · by_cases hgn : g = ng
      · subst hgn
        refine ⟨fun k hk => ?_, fun _ => ?_, ?_, fun k hk => ?_⟩
        · rw [w3, if_pos rfl]
          show up _ _ _ _ _ _ 26 0 0 _ = _
          have hk5 : k = 0 ∨ k = 1 ∨ k = 2 ∨ k = 3 ∨ k = 4 := by omega
          rcases hk5 with rfl | rfl | rfl | rfl | rfl
          · rw [up_sl (by omega), up_sl (by omega), up_sl (by omega), up_sl (by omega), up_sl (by omega)]; exact up_self _ _ _ _ _ _
          · rw [up_sl (by omega), up_sl (by omega), up_sl (by omega), up_sl (by omega), up_self]
          · rw [up_sl (by omega), up_sl (by omega), up_sl (by omega), up_self]
          · rw [up_sl (by omega), up_sl (by omega), up_self]
          · rw [up_sl (by omega), up_sl (by omega), up_sl (by omega), up_sl (by omega), up_sl (by omega), up_sl (by omega), cpR_at (by omega) (by omega)]
        · rw [w3, if_pos rfl]
          show up _ _ _ _ _ _ 26 0 0 _ = _
          rw [up_sl (by omega), up_self]
        · rw [w3, if_pos rfl]
          show up _ _ _ _ _ _ 26 0 0 _ = _
          rw [up_sl (by omega), up_sl (by omega), up_sl (by omega), up_sl (by omega), up_sl (by omega), up_sl (by omega), cpR_at (by omega) (by omega)]
        · rw [w3, if_pos rfl]
          show up _ _ _ _ _ _ 26 0 0 _ = _
          have hk3 : k = 0 ∨ k = 1 ∨ k = 2 := by omega
          rw [up_sl (by omega), up_sl (by omega), up_sl (by omega), up_sl (by omega), up_sl (by omega), up_sl (by omega), cpR_at (by omega) (by omega)]
          rcases hk3 with rfl | rfl | rfl <;> rfl
      · exact (h5 g (by omega)).congr (fun s hs => by rw [w3, if_neg hgn]) (fun k hk => low _ (by omega) (by omega))
    · obtain ⟨q, q1, q2, q3, q4⟩ := h6 l hl
      refine ⟨q, q1, by rw [low _ (by omega) (by omega), q2], fun j hj => ?_, fun g hg g1 g2 => ?_⟩
      · obtain ⟨g, hg, s1, s2, s3, s4⟩ := q3 j hj
        have hgn : g ≠ ng := by omega
        exact ⟨g, by omega, by rw [low _ (by omega) (by omega), s1], by rw [w3, if_neg hgn, s2], by rw [w3, if_neg hgn, s3], by rw [w3, if_neg hgn, s4]⟩
      · have hgn : g ≠ ng := fun z => by
          rw [w3, if_pos z] at g1
          exact absurd g1 (nI_ne (by decide))
        rw [w3, if_neg hgn] at g1 g2
        obtain ⟨j, hj, j1, j2⟩ := q4 g (by omega) g1 g2
        exact ⟨j, hj, by rw [w3, if_neg hgn, j1], by rw [low _ (by omega) (by omega), j2]⟩
  generalize (fun (v : Option Value) (μ9 : St) => v = none ∧ (∀ k b i s, k ≠ 26 → μ9 k b i s = μ k b i s) ∧ Rel (weF σ b ng x1 x2 x3 x4 x5) b nl np (ng + 1) (row μ9)) = P at key ⊢
  have T : ∀ d i, i + d = 10 → VL G mX8_arrives P noX 14 [(0, .ref (zad G.1 10 0 0)), (1, .int x1), (2, .int x2), (3, .int x3), (4, .int x4), (5, .int x5), (6, .int (nI (212 + 10 * ng))), (7, .int (nI i))] [] (cpR μ 26 (212 + 10 * ng) (fun _ => nI 0) i) := by
    intro d
    induction d with
    | zero =>
      intro i hi
      obtain rfl : i = 10 := by omega
      apply wX8_arrives_14
      refine ⟨fun _ => ⟨212 + 10 * ng, rfl, by omega, 212 + 10 * ng + 1, nI_add _ _, by omega, 212 + 10 * ng + 2, nI_add _ _, by omega, 212 + 10 * ng + 3, nI_add _ _, by omega, 212 + 10 * ng + 5, nI_add _ _, by omega, ?_⟩, fun h => absurd ((nI_leI (by omega) (by omega)).mpr (Nat.le_refl _)) h⟩
      rw [up_sl (by omega), up_sl (by omega), up_sl (by omega), up_sl (by omega), up_sl (by omega), cpR_no (by omega), e5, nI_add]
      exact key
    | succ d ih =>
      intro i hi
      apply wX8_arrives_14
      refine ⟨fun h => absurd ((nI_leI (by omega) (by omega)).mp h) (by omega), fun _ => ⟨212 + 10 * ng + i, nI_add _ _, by omega, ?_⟩⟩
      have := ih (i + 1) (by omega)
      rw [← cpR_up μ 26 (212 + 10 * ng) (fun _ => nI 0) i] at this
      exact this
  apply wX8_arrives
  rw [ey]
  have := T 10 0 (by omega)
  rw [cpR_0] at this
  exact this
end CH
