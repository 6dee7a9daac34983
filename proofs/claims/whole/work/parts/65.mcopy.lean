/-! ===== the reference's copies of its row ===== -/
/-- n places from o on are f's -/
def cpR (μ : St) (k o : Nat) (f : Nat → Int32) (n : Nat) : St := fun k' b i s => if k' = k ∧ b = 0 ∧ i = 0 ∧ o ≤ s ∧ s < o + n then f (s - o) else μ k' b i s
theorem cpR_0 (μ : St) (k o : Nat) (f : Nat → Int32) : cpR μ k o f 0 = μ := by
  funext k' b i s
  unfold cpR
  rw [if_neg (fun z => by omega)]
theorem cpR_r (μ : St) (k o : Nat) (f : Nat → Int32) (n k' b i s : Nat) : cpR μ k o f n k' b i s = if k' = k ∧ b = 0 ∧ i = 0 ∧ o ≤ s ∧ s < o + n then f (s - o) else μ k' b i s := rfl
theorem cpR_up (μ : St) (k o : Nat) (f : Nat → Int32) (n : Nat) : up (cpR μ k o f n) k 0 0 (o + n) (f n) = cpR μ k o f (n + 1) := by
  funext k' b i s
  by_cases h : k' = k ∧ b = 0 ∧ i = 0
  · obtain ⟨rfl, rfl, rfl⟩ := h
    by_cases hs : s = o + n
    · subst hs
      rw [up_self, cpR_r, if_pos ⟨rfl, rfl, rfl, by omega, by omega⟩, Nat.add_sub_cancel_left]
    · rw [up_sl hs, cpR_r, cpR_r]
      by_cases h2 : o ≤ s ∧ s < o + n
      · rw [if_pos ⟨rfl, rfl, rfl, h2⟩, if_pos ⟨rfl, rfl, rfl, by omega, by omega⟩]
      · rw [if_neg (fun z => h2 z.2.2.2), if_neg (fun z => h2 ⟨z.2.2.2.1, by omega⟩)]
  · unfold up
    rw [if_neg (fun z => h ⟨z.1, z.2.1, z.2.2.1⟩), cpR_r, cpR_r, if_neg (fun z => h ⟨z.1, z.2.1, z.2.2.1⟩), if_neg (fun z => h ⟨z.1, z.2.1, z.2.2.1⟩)]
theorem cpR_up0 (μ : St) (k : Nat) (f : Nat → Int32) (n : Nat) : up (cpR μ k 0 f n) k 0 0 n (f n) = cpR μ k 0 f (n + 1) := by
  have := cpR_up μ k 0 f n
  rwa [Nat.zero_add] at this
theorem cpR_k {μ : St} {k o : Nat} {f : Nat → Int32} {n k' b i s : Nat} (h : k' ≠ k) : cpR μ k o f n k' b i s = μ k' b i s := by
  unfold cpR
  rw [if_neg (fun z => h z.1)]
theorem cpR_at {μ : St} {k o : Nat} {f : Nat → Int32} {n s : Nat} (h1 : o ≤ s) (h2 : s < o + n) : cpR μ k o f n k 0 0 s = f (s - o) := by
  unfold cpR
  rw [if_pos ⟨rfl, rfl, rfl, h1, h2⟩]
theorem cpR_no {μ : St} {k o : Nat} {f : Nat → Int32} {n k' b i s : Nat} (h : ¬ (o ≤ s ∧ s < o + n)) : cpR μ k o f n k' b i s = μ k' b i s := by
  unfold cpR
  rw [if_neg (fun z => h z.2.2.2)]
section MC
variable (G : Gl)
theorem s_X8_layAside (μ : St) : Con G mX8_layAside [.ref (zad G.1 10 0 0)] μ (fun v μ9 => v = none ∧ μ9 = cpR μ 29 0 (row μ) 372) noX := by
  have T : ∀ d i, i + d = 372 → VL G mX8_layAside (fun v μ9 => v = none ∧ μ9 = cpR μ 29 0 (row μ) 372) noX 2 [(0, .ref (zad G.1 10 0 0)), (1, .int (nI i))] [] (cpR μ 29 0 (row μ) i) := by
    intro d
    induction d with
    | zero =>
      intro i hi
      obtain rfl : i = 372 := by omega
      apply wX8_layAside_2
      exact ⟨fun _ => ⟨rfl, rfl⟩, fun h => absurd ((nI_leI (by omega) (by omega)).mpr (Nat.le_refl _)) h⟩
    | succ d ih =>
      intro i hi
      apply wX8_layAside_2
      refine ⟨fun h => absurd ((nI_leI (by omega) (by omega)).mp h) (by omega), fun _ => ⟨by omega, ?_⟩⟩
      have := ih (i + 1) (by omega)
      rw [← cpR_up0 μ 29 (row μ) i] at this
      rw [cpR_k (by decide)]
      exact this
  apply wX8_layAside
  have := T 372 0 (by omega)
  rw [cpR_0] at this
  exact this
theorem s_X8_takeBack (μ : St) : Con G mX8_takeBack [.ref (zad G.1 10 0 0)] μ (fun v μ9 => v = none ∧ μ9 = cpR μ 26 0 (fun i => μ 29 0 0 i) 372) noX := by
  have T : ∀ d i, i + d = 372 → VL G mX8_takeBack (fun v μ9 => v = none ∧ μ9 = cpR μ 26 0 (fun i => μ 29 0 0 i) 372) noX 2 [(0, .ref (zad G.1 10 0 0)), (1, .int (nI i))] [] (cpR μ 26 0 (fun i => μ 29 0 0 i) i) := by
    intro d
    induction d with
    | zero =>
      intro i hi
      obtain rfl : i = 372 := by omega
      apply wX8_takeBack_2
      exact ⟨fun _ => ⟨rfl, rfl⟩, fun h => absurd ((nI_leI (by omega) (by omega)).mpr (Nat.le_refl _)) h⟩
    | succ d ih =>
      intro i hi
      apply wX8_takeBack_2
      refine ⟨fun h => absurd ((nI_leI (by omega) (by omega)).mp h) (by omega), fun _ => ⟨by omega, ?_⟩⟩
      have := ih (i + 1) (by omega)
      rw [← cpR_up0 μ 26 (fun i => μ 29 0 0 i) i] at this
      rw [cpR_k (by decide)]
      exact this
  apply wX8_takeBack
  have := T 372 0 (by omega)
  rw [cpR_0] at this
  exact this
theorem s_X8_save (μ : St) : Con G mX8_save [.ref (zad G.1 10 0 0)] μ (fun v μ9 => v = some (.int (μ 26 0 0 5)) ∧ μ9 = up (cpR (up μ 10 0 0 6 (nI 0)) 27 0 (row μ) 372) 10 0 0 2 (nI 1)) noX := by
  have T : ∀ d i, i + d = 372 → VL G mX8_save (fun v μ9 => v = some (.int (μ 26 0 0 5)) ∧ μ9 = up (cpR (up μ 10 0 0 6 (nI 0)) 27 0 (row μ) 372) 10 0 0 2 (nI 1)) noX 7 [(0, .ref (zad G.1 10 0 0)), (1, .int (nI i))] [] (cpR (up μ 10 0 0 6 (nI 0)) 27 0 (row μ) i) := by
    intro d
    induction d with
    | zero =>
      intro i hi
      obtain rfl : i = 372 := by omega
      apply wX8_save_7
      refine ⟨fun _ => ⟨?_, rfl⟩, fun h => absurd ((nI_leI (by omega) (by omega)).mpr (Nat.le_refl _)) h⟩
      rw [cpR_k (by decide), up_k (by decide)]
    | succ d ih =>
      intro i hi
      apply wX8_save_7
      refine ⟨fun h => absurd ((nI_leI (by omega) (by omega)).mp h) (by omega), fun _ => ⟨by omega, ?_⟩⟩
      have := ih (i + 1) (by omega)
      rw [← cpR_up0 (up μ 10 0 0 6 (nI 0)) 27 (row μ) i] at this
      rw [cpR_k (by decide), up_k (by decide)]
      exact this
  apply wX8_save
  have := T 372 0 (by omega)
  rw [cpR_0] at this
  exact this
/-- what restore does, something being saved -/
theorem s_X8_restore (μ : St) (h : ¬ μ 10 0 0 2 = 0) : Con G mX8_restore [.ref (zad G.1 10 0 0)] μ (fun v μ9 => v = some (.int (μ 27 0 0 5)) ∧ μ9 = up (cpR (up μ 10 0 0 6 (nI 0)) 26 0 (fun i => μ 27 0 0 i) 372) 10 0 0 4 (nI 0)) noX := by
  have T : ∀ d i, i + d = 372 → VL G mX8_restore (fun v μ9 => v = some (.int (μ 27 0 0 5)) ∧ μ9 = up (cpR (up μ 10 0 0 6 (nI 0)) 26 0 (fun i => μ 27 0 0 i) 372) 10 0 0 4 (nI 0)) noX 20 [(0, .ref (zad G.1 10 0 0)), (1, .int (nI i))] [] (cpR (up μ 10 0 0 6 (nI 0)) 26 0 (fun i => μ 27 0 0 i) i) := by
    intro d
    induction d with
    | zero =>
      intro i hi
      obtain rfl : i = 372 := by omega
      apply wX8_restore_20
      refine ⟨fun _ => ⟨?_, rfl⟩, fun h => absurd ((nI_leI (by omega) (by omega)).mpr (Nat.le_refl _)) h⟩
      rw [cpR_at (by omega) (by omega)]
    | succ d ih =>
      intro i hi
      apply wX8_restore_20
      refine ⟨fun h => absurd ((nI_leI (by omega) (by omega)).mp h) (by omega), fun _ => ⟨by omega, ?_⟩⟩
      have := ih (i + 1) (by omega)
      rw [← cpR_up0 (up μ 10 0 0 6 (nI 0)) 26 (fun i => μ 27 0 0 i) i] at this
      rw [cpR_k (by decide), up_k (by decide)]
      exact this
  apply wX8_restore
  refine ⟨fun _ => ?_, fun h1 => absurd h1 h⟩
  have := T 372 0 (by omega)
  rw [cpR_0] at this
  exact this
theorem s_X8_undo (μ : St) {c : Nat} (h0 : 0 < c) (hc : c ≤ 8) (e : μ 10 0 0 4 = nI c) : Con G mX8_undo [.ref (zad G.1 10 0 0)] μ (fun v μ9 => v = some (.int (nI (c - 1))) ∧ μ9 = cpR (up (up μ 10 0 0 6 (nI 0)) 10 0 0 4 (nI (c - 1))) 26 0 (fun i => μ 28 0 0 (372 * (c - 1) + i)) 372) noX := by
  have T : ∀ d i, i + d = 372 → VL G mX8_undo (fun v μ9 => v = some (.int (nI (c - 1))) ∧ μ9 = cpR (up (up μ 10 0 0 6 (nI 0)) 10 0 0 4 (nI (c - 1))) 26 0 (fun i => μ 28 0 0 (372 * (c - 1) + i)) 372) noX 30 [(0, .ref (zad G.1 10 0 0)), (1, .int (nI i))] [] (cpR (up (up μ 10 0 0 6 (nI 0)) 10 0 0 4 (nI (c - 1))) 26 0 (fun i => μ 28 0 0 (372 * (c - 1) + i)) i) := by
    intro d
    induction d with
    | zero =>
      intro i hi
      obtain rfl : i = 372 := by omega
      apply wX8_undo_30
      refine ⟨fun _ => ⟨?_, rfl⟩, fun h => absurd ((nI_leI (by omega) (by omega)).mpr (Nat.le_refl _)) h⟩
      rw [cpR_k (by decide), up_self]
    | succ d ih =>
      intro i hi
      apply wX8_undo_30
      refine ⟨fun h => absurd ((nI_leI (by omega) (by omega)).mp h) (by omega), fun _ => ⟨372 * (c - 1) + i, ?_, by omega, by omega, ?_⟩⟩
      · rw [cpR_k (by decide), up_self, pk_mul, nI_add]
      · have := ih (i + 1) (by omega)
        rw [← cpR_up0 (up (up μ 10 0 0 6 (nI 0)) 10 0 0 4 (nI (c - 1))) 26 (fun i => μ 28 0 0 (372 * (c - 1) + i)) i] at this
        rw [cpR_k (by decide), up_k (by decide), up_k (by decide)]
        exact this
  apply wX8_undo
  refine ⟨fun _ => ?_, fun h1 => absurd h1 (by rw [e]; exact nI_ne0 h0 (by omega))⟩
  rw [e, nI_sub h0]
  have := T 372 0 (by omega)
  rw [cpR_0] at this
  exact this
/-- what keep does -/
def KpP (μ μ9 : St) (c : Nat) : Prop := (∀ k b i s, k ≠ 28 → (k = 10 → s ≠ 4) → μ9 k b i s = μ k b i s) ∧ μ9 10 0 0 4 = nI (min (c + 1) 8) ∧ (c < 8 → (∀ j, j < 372 * c → μ9 28 0 0 j = μ 28 0 0 j) ∧ ∀ i, i < 372 → μ9 28 0 0 (372 * c + i) = μ 26 0 0 i) ∧ (c = 8 → (∀ j, j < 2604 → μ9 28 0 0 j = μ 28 0 0 (j + 372)) ∧ ∀ i, i < 372 → μ9 28 0 0 (2604 + i) = μ 26 0 0 i)
theorem keep2 {P : Option Value → St → Prop} {X : String → St → Prop} (μ : St) {c : Nat} (hc : c < 8) (e : μ 10 0 0 4 = nI c) (hP : P none (up (cpR μ 28 (372 * c) (row μ) 372) 10 0 0 4 (nI (c + 1)))) : VL G mX8_keep P X 52 [(0, .ref (zad G.1 10 0 0)), (1, .int (nI 0))] [] μ := by
  have T : ∀ d i, i + d = 372 → VL G mX8_keep P X 52 [(0, .ref (zad G.1 10 0 0)), (1, .int (nI i))] [] (cpR μ 28 (372 * c) (row μ) i) := by
    intro d
    induction d with
    | zero =>
      intro i hi
      obtain rfl : i = 372 := by omega
      apply wX8_keep_52
      refine ⟨fun _ => ?_, fun h => absurd ((nI_leI (by omega) (by omega)).mpr (Nat.le_refl _)) h⟩
      rw [cpR_k (by decide), e, nI_add]
      exact hP
    | succ d ih =>
      intro i hi
      apply wX8_keep_52
      refine ⟨fun h => absurd ((nI_leI (by omega) (by omega)).mp h) (by omega), fun _ => ⟨by omega, 372 * c + i, ?_, by omega, ?_⟩⟩
      · rw [cpR_k (by decide), e, pk_mul, nI_add]
      · have := ih (i + 1) (by omega)
        rw [← cpR_up μ 28 (372 * c) (row μ) i] at this
        rw [cpR_k (by decide)]
        exact this
  have := T 372 0 (by omega)
  rw [cpR_0] at this
  exact this
theorem s_X8_keep (μ : St) {c : Nat} (hc : c ≤ 8) (e : μ 10 0 0 4 = nI c) : Con G mX8_keep [.ref (zad G.1 10 0 0)] μ (fun v μ9 => v = none ∧ KpP μ μ9 c) noX := by
  apply wX8_keep
  refine ⟨fun h => ?_, fun h => ?_⟩
  · have hc8 : c < 8 := by
      rcases Nat.lt_or_ge c 8 with h1 | h1
      · exact h1
      · exact absurd (by rw [e]; congr 1; omega) h
    refine keep2 G μ hc8 e ⟨rfl, fun k b i s h1 h2 => ?_, ?_, fun _ => ⟨fun j hj => ?_, fun i hi => ?_⟩, fun h1 => absurd h1 (by omega)⟩
    · by_cases hk : k = 10
      · rw [up_sl (h2 hk), cpR_k h1]
      · rw [up_k hk, cpR_k h1]
    · rw [up_self]; congr 1; omega
    · rw [up_k (by decide), cpR_no (by omega)]
    · rw [up_k (by decide), cpR_at (by omega) (by omega), Nat.add_sub_cancel_left]
  · have hc8 : c = 8 := nI_inj (by omega) (by decide) (e.symm.trans h)
    subst hc8
    have T : ∀ d i, i + d = 2604 → VL G mX8_keep (fun v μ9 => v = none ∧ KpP μ μ9 8) noX 11 [(0, .ref (zad G.1 10 0 0)), (1, .int (nI i))] [] (cpR μ 28 0 (fun j => μ 28 0 0 (j + 372)) i) := by
      intro d
      induction d with
      | zero =>
        intro i hi
        obtain rfl : i = 2604 := by omega
        apply wX8_keep_11
        refine ⟨fun _ => ?_, fun h => absurd ((nI_leI (by omega) (by omega)).mpr (Nat.le_refl _)) h⟩
        rw [cpR_k (by decide), e, nI_sub (by decide)]
        refine keep2 G _ (c := 7) (by decide) (up_self _ _ _ _ _ _) ⟨rfl, fun k b i s h1 h2 => ?_, ?_, fun h1 => absurd h1 (by decide), fun _ => ⟨fun j hj => ?_, fun i hi => ?_⟩⟩
        · by_cases hk : k = 10
          · rw [up_sl (h2 hk), cpR_k h1, up_sl (h2 hk), cpR_k h1]
          · rw [up_k hk, cpR_k h1, up_k hk, cpR_k h1]
        · rw [up_self]; rfl
        · rw [up_k (by decide), cpR_no (by omega), up_k (by decide), cpR_at (by omega) (by omega)]; rfl
        · rw [up_k (by decide), cpR_at (by omega) (by omega), show 2604 + i - 372 * 7 = i by omega]
          show up _ _ _ _ _ _ 26 0 0 i = _
          rw [up_k (by decide), cpR_k (by decide)]
      | succ d ih =>
        intro i hi
        apply wX8_keep_11
        refine ⟨fun h => absurd ((nI_leI (by omega) (by omega)).mp h) (by omega), fun _ => ⟨by omega, by omega, ?_⟩⟩
        have := ih (i + 1) (by omega)
        rw [← cpR_up0 μ 28 (fun j => μ 28 0 0 (j + 372)) i] at this
        rw [cpR_no (by omega)]
        exact this
    have := T 2604 0 (by omega)
    rw [cpR_0] at this
    exact this
end MC
