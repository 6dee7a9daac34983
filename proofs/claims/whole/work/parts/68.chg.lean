/-! ===== what both change of an area is the same ===== -/
theorem row_up (μ : St) (j : Nat) (x : Int32) (i : Nat) : row (up μ 26 0 0 j x) i = if i = j then x else row μ i := by
  show up μ 26 0 0 j x 26 0 0 i = _
  unfold up
  simp
theorem row_o {μ : St} {k b i s : Nat} {x : Int32} (h : k ≠ 26) : row (up μ k b i s x) = row μ := funext fun j => up_k (fun z => h z.symm)
section WE
def weV (x1 x2 x3 x4 x5 : Int32) (s : Nat) : Int32 := match s with | 0 => x2 | 1 => x3 | 2 => x4 | 3 => x5 | 5 => x1 | _ => nI 0
theorem weF_3 (σ : St) (b ng : Nat) (x1 x2 x3 x4 x5 : Int32) (s : Nat) (hs : s < 11) : weF σ b ng x1 x2 x3 x4 x5 3 b ng s = weV x1 x2 x3 x4 x5 s := by
  unfold weF
  rw [up_k (by decide), u11, if_pos ⟨rfl, rfl, rfl⟩]
  rcases s with _ | _ | _ | _ | _ | _ | _ | _ | _ | _ | _ | s <;> first | rfl | omega
theorem weF_2 (σ : St) (b ng : Nat) (x1 x2 x3 x4 x5 : Int32) : weF σ b ng x1 x2 x3 x4 x5 2 b 0 5 = nI (ng + 1) := up_self _ _ _ _ _ _
theorem weF_o (σ : St) (b ng : Nat) (x1 x2 x3 x4 x5 : Int32) {k i s : Nat} (h1 : ¬ (k = 3 ∧ i = ng)) (h2 : ¬ (k = 2 ∧ s = 5)) : weF σ b ng x1 x2 x3 x4 x5 k b i s = σ k b i s := by
  unfold weF
  have e : ∀ μ : St, up μ 2 b 0 5 (nI (ng + 1)) k b i s = μ k b i s := fun μ => by unfold up; rw [if_neg (by omega)]
  rw [e, u11, if_neg (fun z => h1 ⟨z.1, z.2.2⟩)]
theorem weF_b (σ : St) (b ng : Nat) (x1 x2 x3 x4 x5 : Int32) {k b' i s : Nat} (h : b' ≠ b) : weF σ b ng x1 x2 x3 x4 x5 k b' i s = σ k b' i s := by
  unfold weF
  rw [up_b h, u11, if_neg (fun z => h z.2.1)]
theorem we_rel {σ : St} {b nl np ng : Nat} {f f' : Nat → Int32} (h : Rel σ b nl np ng f) (hn : ng < 16) {x1 x2 x3 x4 x5 : Int32} (f5 : f' 5 = nI (ng + 1)) (fl : ∀ k, k < 7 → f' (212 + 10 * ng + k) = weV x1 x2 x3 x4 x5 k) (fr : ∀ k, k < 3 → f' (212 + 10 * ng + 7 + k) = nI 0) (fo : ∀ j, j ≠ 5 → ¬ (212 + 10 * ng ≤ j ∧ j < 212 + 10 * ng + 10) → f' j = f j) : Rel (weF σ b ng x1 x2 x3 x4 x5) b nl np (ng + 1) f' := by
  obtain ⟨hc, hz, h3, h4, h5, h6⟩ := h
  refine ⟨⟨hc.1, hc.2.1, by omega⟩, ⟨fun k hk => ?_, fun k hk => ?_⟩, fun l hl => (h3 l hl).congr (fun s hs => weF_o _ _ _ _ _ _ _ _ (by omega) (by omega)) (fun k hk => fo _ (by omega) (by omega)), fun p hp => (h4 p hp).congr (fun s hs => weF_o _ _ _ _ _ _ _ _ (by omega) (by omega)) (fun k hk => fo _ (by omega) (by omega)), fun g hg => ?_, fun l hl => ?_⟩
  · rw [fo _ (by omega) (by omega), weF_o _ _ _ _ _ _ _ _ (by omega) (by omega), hz.1 k hk]
  · by_cases hk0 : k = 2
    · subst hk0
      rw [weF_2]; exact f5
    · rw [fo _ (by omega) (by omega), weF_o _ _ _ _ _ _ _ _ (by omega) (by omega), hz.2 k hk]
  · by_cases hgn : g = ng
    · subst hgn
      refine ⟨fun k hk => ?_, fun _ => ?_, ?_, fun k hk => ?_⟩
      · rw [weF_3 _ _ _ _ _ _ _ _ _ (by omega), fl k (by omega)]
      · rw [weF_3 _ _ _ _ _ _ _ _ _ (by omega), fl 5 (by omega)]
      · rw [weF_3 _ _ _ _ _ _ _ _ _ (by omega), fl 6 (by omega)]
      · rw [weF_3 _ _ _ _ _ _ _ _ _ (by omega), fr k hk]
        have hk3 : k = 0 ∨ k = 1 ∨ k = 2 := by omega
        rcases hk3 with rfl | rfl | rfl <;> rfl
    · exact (h5 g (by omega)).congr (fun s hs => weF_o _ _ _ _ _ _ _ _ (by omega) (by omega)) (fun k hk => fo _ (by omega) (by omega))
  · obtain ⟨q, q1, q2, q3, q4⟩ := h6 l hl
    refine ⟨q, q1, by rw [fo _ (by omega) (by omega), q2], fun j hj => ?_, fun g hg g1 g2 => ?_⟩
    · obtain ⟨g, hg, s1, s2, s3, s4⟩ := q3 j hj
      exact ⟨g, by omega, by rw [fo _ (by omega) (by omega), s1], by rw [weF_o _ _ _ _ _ _ _ _ (by omega) (by omega), s2], by rw [weF_o _ _ _ _ _ _ _ _ (by omega) (by omega), s3], by rw [weF_o _ _ _ _ _ _ _ _ (by omega) (by omega), s4]⟩
    · by_cases hgn : g = ng
      · subst hgn
        rw [weF_3 _ _ _ _ _ _ _ _ _ (by omega)] at g1
        exact absurd g1 (nI_ne (by decide))
      · rw [weF_o _ _ _ _ _ _ _ _ (by omega) (by omega)] at g1 g2
        obtain ⟨j, hj, j1, j2⟩ := q4 g (by omega) g1 g2
        exact ⟨j, hj, by rw [weF_o _ _ _ _ _ _ _ _ (by omega) (by omega), j1], by rw [fo _ (by omega) (by omega), j2]⟩
end WE
section CH
variable {σ μ : St} {b nl np ng : Nat} (G : Gl)
theorem s_X8_clear (μ : St) : Con G mX8_clear [.ref (zad G.1 10 0 0)] μ (fun v μ9 => v = some (.int (μ 26 0 0 5)) ∧ μ9 = up (cpR (up μ 10 0 0 6 (nI 0)) 26 0 (fun _ => nI 0) 372) 10 0 0 4 (nI 0)) noX := by
  have T : ∀ d i, i + d = 372 → VL G mX8_clear (fun v μ9 => v = some (.int (μ 26 0 0 5)) ∧ μ9 = up (cpR (up μ 10 0 0 6 (nI 0)) 26 0 (fun _ => nI 0) 372) 10 0 0 4 (nI 0)) noX 14 [(0, .ref (zad G.1 10 0 0)), (1, .int (μ 26 0 0 5)), (2, .int (nI i))] [] (cpR (up μ 10 0 0 6 (nI 0)) 26 0 (fun _ => nI 0) i) := by
    intro d
    induction d with
    | zero =>
      intro i hi
      obtain rfl : i = 372 := by omega
      apply wX8_clear_14
      exact ⟨fun _ => ⟨rfl, rfl⟩, fun h => absurd ((nI_leI (by omega) (by omega)).mpr (Nat.le_refl _)) h⟩
    | succ d ih =>
      intro i hi
      apply wX8_clear_14
      refine ⟨fun h => absurd ((nI_leI (by omega) (by omega)).mp h) (by omega), fun _ => ⟨by omega, ?_⟩⟩
      have := ih (i + 1) (by omega)
      rw [← cpR_up0 (up μ 10 0 0 6 (nI 0)) 26 (fun _ => nI 0) i] at this
      exact this
  apply wX8_clear
  have := T 372 0 (by omega)
  rw [cpR_0] at this
  exact this
theorem s_X8_arrives (hC : Cnt σ b nl np ng) (h : Rel σ b nl np ng (row μ)) (hn : ng < 16) (x1 x2 x3 x4 x5 : Int32) : Con G mX8_arrives [.ref (zad G.1 10 0 0), .int x1, .int x2, .int x3, .int x4, .int x5] μ (fun v μ9 => v = none ∧ (∀ k b i s, k ≠ 26 → μ9 k b i s = μ k b i s) ∧ Rel (weF σ b ng x1 x2 x3 x4 x5) b nl np (ng + 1) (row μ9)) noX := by
  have e5 := h.cng hC
  have ey : nI 212 + nI 10 * μ 26 0 0 5 = nI (212 + 10 * ng) := by rw [e5, pk_mul, nI_add]
  have T : ∀ d i, i + d = 10 → VL G mX8_arrives (fun v μ9 => v = none ∧ (∀ k b i s, k ≠ 26 → μ9 k b i s = μ k b i s) ∧ Rel (weF σ b ng x1 x2 x3 x4 x5) b nl np (ng + 1) (row μ9)) noX 14 [(0, .ref (zad G.1 10 0 0)), (1, .int x1), (2, .int x2), (3, .int x3), (4, .int x4), (5, .int x5), (6, .int (nI (212 + 10 * ng))), (7, .int (nI i))] [] (cpR μ 26 (212 + 10 * ng) (fun _ => nI 0) i) := by
    intro d
    induction d with
    | zero =>
      intro i hi
      obtain rfl : i = 10 := by omega
      apply wX8_arrives_14
      refine ⟨fun _ => ⟨212 + 10 * ng, rfl, by omega, 212 + 10 * ng + 1, nI_add _ _, by omega, 212 + 10 * ng + 2, nI_add _ _, by omega, 212 + 10 * ng + 3, nI_add _ _, by omega, 212 + 10 * ng + 5, nI_add _ _, by omega, ?_⟩, fun h => absurd ((nI_leI (by omega) (by omega)).mpr (Nat.le_refl _)) h⟩
      rw [up_sl (by omega), up_sl (by omega), up_sl (by omega), up_sl (by omega), up_sl (by omega), cpR_no (by omega), e5, nI_add]
      refine ⟨rfl, fun k b i s hk => by rw [up_k hk, up_k hk, up_k hk, up_k hk, up_k hk, up_k hk, cpR_k hk], we_rel h hn ?_ (fun k hk => ?_) (fun k hk => ?_) (fun j j1 j2 => ?_)⟩
      · rw [row_up, if_pos rfl]
      · rw [row_up, row_up, row_up, row_up, row_up, row_up]
        have hk10 : k = 0 ∨ k = 1 ∨ k = 2 ∨ k = 3 ∨ k = 5 ∨ (k = 4 ∨ k = 6) := by omega
        rcases hk10 with rfl | rfl | rfl | rfl | rfl | hk7
        · repeat (first | rw [if_neg (by omega)] | rw [if_pos (by omega)])
          try rfl
        · repeat (first | rw [if_neg (by omega)] | rw [if_pos (by omega)])
          try rfl
        · repeat (first | rw [if_neg (by omega)] | rw [if_pos (by omega)])
          try rfl
        · repeat (first | rw [if_neg (by omega)] | rw [if_pos (by omega)])
          try rfl
        · repeat (first | rw [if_neg (by omega)] | rw [if_pos (by omega)])
          try rfl
        · rw [if_neg (by omega), if_neg (by omega), if_neg (by omega), if_neg (by omega), if_neg (by omega), if_neg (by omega)]
          show cpR μ 26 _ _ _ 26 0 0 _ = _
          rw [cpR_at (by omega) (by omega)]
          rcases hk7 with rfl | rfl <;> rfl
      · rw [row_up, row_up, row_up, row_up, row_up, row_up]
        rw [if_neg (by omega), if_neg (by omega), if_neg (by omega), if_neg (by omega), if_neg (by omega), if_neg (by omega)]
        show cpR μ 26 _ _ _ 26 0 0 _ = _
        rw [cpR_at (by omega) (by omega)]
      · rw [row_up, row_up, row_up, row_up, row_up, row_up]
        rw [if_neg (by omega), if_neg (by omega), if_neg (by omega), if_neg (by omega), if_neg (by omega), if_neg (by omega)]
        exact cpR_no (by omega)
    | succ d ih =>
      intro i hi
      apply wX8_arrives_14
      refine ⟨fun h => absurd ((nI_leI (by omega) (by omega)).mp h) (by omega), fun _ => ⟨212 + 10 * ng + i, nI_add _ _, by omega, ?_⟩⟩
      have := ih (i + 1) (by omega)
      rw [← cpR_up μ 26 (212 + 10 * ng) (fun _ => nI 0) i] at this
      exact this
  apply wX8_arrives
  rw [ey]
  have := T 10 0 (by omega)
  rw [cpR_0] at this
  exact this
end CH
