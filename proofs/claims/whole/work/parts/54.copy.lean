/-! ===== copies of areas ===== -/
/-- area b is as area c was -/
def CpP (μ μ' : St) (b c nl np ng : Nat) : Prop := (∀ k b' i s, b' ≠ b → μ' k b' i s = μ k b' i s) ∧ (∀ k i s, k ≠ 2 → k ≠ 3 → k ≠ 6 → k ≠ 7 → μ' k b i s = μ k b i s) ∧ (∀ s, 3 ≤ s → s < 9 → μ' 2 b 0 s = μ 2 c 0 s) ∧ (∀ i, i < nl → ∀ s, s < 10 → μ' 6 b i s = μ 6 c i s) ∧ (∀ i, i < np → ∀ s, s < 8 → μ' 7 b i s = μ 7 c i s) ∧ (∀ i, i < ng → ∀ s, s < 11 → μ' 3 b i s = μ 3 c i s)
/-- what stands of a copy while it is made: so many lifts, pistes, guests are copied -/
def CpQ (μ μ' : St) (b c i j k : Nat) : Prop := (∀ k b' i s, b' ≠ b → μ' k b' i s = μ k b' i s) ∧ (∀ k i s, k ≠ 3 → k ≠ 6 → k ≠ 7 → μ' k b i s = μ k b i s) ∧ (∀ x, x < i → ∀ s, s < 10 → μ' 6 b x s = μ 6 c x s) ∧ (∀ x, x < j → ∀ s, s < 8 → μ' 7 b x s = μ 7 c x s) ∧ (∀ x, x < k → ∀ s, s < 11 → μ' 3 b x s = μ 3 c x s)
theorem u10 (μ : St) (k b i : Nat) (x0 x1 x2 x3 x4 x5 x6 x7 x8 x9 : Int32) (k' b' i' s : Nat) : up (up (up (up (up (up (up (up (up (up μ k b i 0 x0) k b i 1 x1) k b i 2 x2) k b i 3 x3) k b i 4 x4) k b i 5 x5) k b i 6 x6) k b i 7 x7) k b i 8 x8) k b i 9 x9 k' b' i' s = if k' = k ∧ b' = b ∧ i' = i then (match s with | 0 => x0 | 1 => x1 | 2 => x2 | 3 => x3 | 4 => x4 | 5 => x5 | 6 => x6 | 7 => x7 | 8 => x8 | 9 => x9 | s => μ k' b' i' s) else μ k' b' i' s := by
  by_cases h : k' = k ∧ b' = b ∧ i' = i
  · obtain ⟨rfl, rfl, rfl⟩ := h
    rw [if_pos ⟨rfl, rfl, rfl⟩]
    rcases s with _ | _ | _ | _ | _ | _ | _ | _ | _ | _ | s <;> simp [up]
  · have h' : ∀ t, ¬ (k' = k ∧ b' = b ∧ i' = i ∧ s = t) := fun t z => h ⟨z.1, z.2.1, z.2.2.1⟩
    rw [if_neg h]
    unfold up
    simp only [h', if_false]
theorem u8 (μ : St) (k b i : Nat) (x0 x1 x2 x3 x4 x5 x6 x7 : Int32) (k' b' i' s : Nat) : up (up (up (up (up (up (up (up μ k b i 0 x0) k b i 1 x1) k b i 2 x2) k b i 3 x3) k b i 4 x4) k b i 5 x5) k b i 6 x6) k b i 7 x7 k' b' i' s = if k' = k ∧ b' = b ∧ i' = i then (match s with | 0 => x0 | 1 => x1 | 2 => x2 | 3 => x3 | 4 => x4 | 5 => x5 | 6 => x6 | 7 => x7 | s => μ k' b' i' s) else μ k' b' i' s := by
  by_cases h : k' = k ∧ b' = b ∧ i' = i
  · obtain ⟨rfl, rfl, rfl⟩ := h
    rw [if_pos ⟨rfl, rfl, rfl⟩]
    rcases s with _ | _ | _ | _ | _ | _ | _ | _ | s <;> simp [up]
  · have h' : ∀ t, ¬ (k' = k ∧ b' = b ∧ i' = i ∧ s = t) := fun t z => h ⟨z.1, z.2.1, z.2.2.1⟩
    rw [if_neg h]
    unfold up
    simp only [h', if_false]
theorem u11 (μ : St) (b i : Nat) (x0 x1 x2 x3 x4 x5 x6 x7 x8 x9 x10 : Int32) (k' b' i' s : Nat) : gbc (up (up (up (up (up (up (up μ 3 b i 0 x0) 3 b i 1 x1) 3 b i 2 x2) 3 b i 3 x3) 3 b i 8 x8) 3 b i 9 x9) 3 b i 10 x10) b i x4 x5 x6 x7 k' b' i' s = if k' = 3 ∧ b' = b ∧ i' = i then (match s with | 0 => x0 | 1 => x1 | 2 => x2 | 3 => x3 | 4 => x4 | 5 => x5 | 6 => x6 | 7 => x7 | 8 => x8 | 9 => x9 | 10 => x10 | s => μ k' b' i' s) else μ k' b' i' s := by
  by_cases h : k' = 3 ∧ b' = b ∧ i' = i
  · obtain ⟨rfl, rfl, rfl⟩ := h
    rw [if_pos ⟨rfl, rfl, rfl⟩]
    rcases s with _ | _ | _ | _ | _ | _ | _ | _ | _ | _ | _ | s <;> simp [up, gbc]
  · have h' : ∀ t, ¬ (k' = 3 ∧ b' = b ∧ i' = i ∧ s = t) := fun t z => h ⟨z.1, z.2.1, z.2.2.1⟩
    rw [if_neg h]
    unfold gbc up
    simp only [h', if_false]
section SC
variable (G : Gl) {b c nl np ng W : Nat} {μ : St}
theorem s_X0_copyFrom (hb : b < 11) (hc : c < 11) (hbc : b ≠ c) (hC : Cnt μ c nl np ng) : Con G mX0_copyFrom [.ref (zad G.1 2 b 0), .ref (zad G.1 2 c 0)] μ (fun v μ9 => v = none ∧ CpP μ μ9 b c nl np ng) noX := by
  obtain ⟨⟨h3, h3'⟩, ⟨h4, h4'⟩, ⟨h5, h5'⟩⟩ := hC
  have hcb : c ≠ b := fun e => hbc e.symm
  -- the guests
  have T3 : ∀ d k μ', k + d = ng → CpQ μ μ' b c nl np k → VL G mX0_copyFrom (fun v μ9 => v = none ∧ CpP μ μ9 b c nl np ng) noX 64 [(0, .ref (zad G.1 2 b 0)), (1, .ref (zad G.1 2 c 0)), (2, .int (nI k))] [] μ' := by
    intro d
    induction d with
    | zero =>
      intro k μ' hk hQ
      obtain rfl : k = ng := by omega
      obtain ⟨q1, q2, q3, q4, q5⟩ := hQ
      apply wX0_copyFrom_64 G b hb c hc
      refine ⟨fun _ => ⟨rfl, fun k b' i s hb' => ?_, fun k i s k2 k3 k6 k7 => ?_, fun s s1 s2 => ?_, fun i hi s hs => ?_, fun i hi s hs => ?_, fun i hi s hs => ?_⟩, fun h => absurd ((cle (by rw [q1 _ _ _ _ hcb]; exact h5)).mpr (Nat.le_refl _)) h⟩
      · rw [up_b hb', up_b hb', up_b hb', up_b hb', up_b hb', up_b hb', q1 _ _ _ _ hb']
      · rw [up_k k2, up_k k2, up_k k2, up_k k2, up_k k2, up_k k2, q2 _ _ _ k3 k6 k7]
      · have hs : s = 3 ∨ s = 4 ∨ s = 5 ∨ s = 6 ∨ s = 7 ∨ s = 8 := by omega
        rcases hs with rfl | rfl | rfl | rfl | rfl | rfl <;> simp [up, hcb, q1 _ _ _ _ hcb]
      · rw [up_k (by decide), up_k (by decide), up_k (by decide), up_k (by decide), up_k (by decide), up_k (by decide), q3 i hi s hs]
      · rw [up_k (by decide), up_k (by decide), up_k (by decide), up_k (by decide), up_k (by decide), up_k (by decide), q4 i hi s hs]
      · rw [up_k (by decide), up_k (by decide), up_k (by decide), up_k (by decide), up_k (by decide), up_k (by decide), q5 i hi s hs]
    | succ d ih =>
      intro k μ' hk hQ
      have hQ' := hQ
      obtain ⟨q1, q2, q3, q4, q5⟩ := hQ
      apply wX0_copyFrom_64 G b hb c hc
      refine ⟨fun h => absurd ((cle (by rw [q1 _ _ _ _ hcb]; exact h5)).mp h) (by omega), fun _ => ⟨by omega, ?_⟩⟩
      apply wX1_copyFrom G b hb k (by omega) c hc k (by omega)
      refine ⟨rfl, ih (k + 1) _ (by omega) ⟨fun k b' i s hb' => ?_, fun k i s k3 k6 k7 => ?_, fun x hx s hs => ?_, fun x hx s hs => ?_, fun x hx s hs => ?_⟩⟩
      · rw [u11, if_neg (fun z => hb' z.2.1), q1 _ _ _ _ hb']
      · rw [u11, if_neg (fun z => k3 z.1), q2 _ _ _ k3 k6 k7]
      · rw [u11, if_neg (fun z => by cases z.1), q3 x hx s hs]
      · rw [u11, if_neg (fun z => by cases z.1), q4 x hx s hs]
      · rw [u11]
        by_cases hxk : x = k
        · subst hxk
          rw [if_pos ⟨rfl, rfl, rfl⟩]
          rcases s with _ | _ | _ | _ | _ | _ | _ | _ | _ | _ | _ | s <;> first | exact q1 _ _ _ _ hcb | omega
        · rw [if_neg (fun z => hxk z.2.2), q5 x (by omega) s hs]
  have T2 : ∀ d j μ', j + d = np → CpQ μ μ' b c nl j 0 → VL G mX0_copyFrom (fun v μ9 => v = none ∧ CpP μ μ9 b c nl np ng) noX 33 [(0, .ref (zad G.1 2 b 0)), (1, .ref (zad G.1 2 c 0)), (2, .int (nI j))] [] μ' := by
    intro d
    induction d with
    | zero =>
      intro k μ' hk hQ
      obtain rfl : k = np := by omega
      have q1 := hQ.1
      apply wX0_copyFrom_33 G b hb c hc
      exact ⟨fun _ => T3 ng 0 _ (by omega) hQ, fun h => absurd ((cle (by rw [q1 _ _ _ _ hcb]; exact h4)).mpr (Nat.le_refl _)) h⟩
    | succ d ih =>
      intro k μ' hk hQ
      obtain ⟨q1, q2, q3, q4, q5⟩ := hQ
      apply wX0_copyFrom_33 G b hb c hc
      refine ⟨fun h => absurd ((cle (by rw [q1 _ _ _ _ hcb]; exact h4)).mp h) (by omega), fun _ => ⟨by omega, ?_⟩⟩
      apply wX5_copyFrom G b hb k (by omega) c hc k (by omega)
      refine ⟨rfl, ih (k + 1) _ (by omega) ⟨fun k b' i s hb' => ?_, fun k i s k3 k6 k7 => ?_, fun x hx s hs => ?_, fun x hx s hs => ?_, fun x hx s hs => ?_⟩⟩
      · rw [u8, if_neg (fun z => hb' z.2.1), q1 _ _ _ _ hb']
      · rw [u8, if_neg (fun z => k7 z.1), q2 _ _ _ k3 k6 k7]
      · rw [u8, if_neg (fun z => by cases z.1), q3 x hx s hs]
      · rw [u8]
        by_cases hxk : x = k
        · subst hxk
          rw [if_pos ⟨rfl, rfl, rfl⟩]
          rcases s with _ | _ | _ | _ | _ | _ | _ | _ | s <;> first | exact q1 _ _ _ _ hcb | omega
        · rw [if_neg (fun z => hxk z.2.2), q4 x (by omega) s hs]
      · omega
  have T1 : ∀ d j μ', j + d = nl → CpQ μ μ' b c j 0 0 → VL G mX0_copyFrom (fun v μ9 => v = none ∧ CpP μ μ9 b c nl np ng) noX 2 [(0, .ref (zad G.1 2 b 0)), (1, .ref (zad G.1 2 c 0)), (2, .int (nI j))] [] μ' := by
    intro d
    induction d with
    | zero =>
      intro k μ' hk hQ
      obtain rfl : k = nl := by omega
      have q1 := hQ.1
      apply wX0_copyFrom_2 G b hb c hc
      exact ⟨fun _ => T2 np 0 _ (by omega) hQ, fun h => absurd ((cle (by rw [q1 _ _ _ _ hcb]; exact h3)).mpr (Nat.le_refl _)) h⟩
    | succ d ih =>
      intro k μ' hk hQ
      obtain ⟨q1, q2, q3, q4, q5⟩ := hQ
      apply wX0_copyFrom_2 G b hb c hc
      refine ⟨fun h => absurd ((cle (by rw [q1 _ _ _ _ hcb]; exact h3)).mp h) (by omega), fun _ => ⟨by omega, ?_⟩⟩
      apply wX4_copyFrom G b hb k (by omega) c hc k (by omega)
      refine ⟨rfl, ih (k + 1) _ (by omega) ⟨fun k b' i s hb' => ?_, fun k i s k3 k6 k7 => ?_, fun x hx s hs => ?_, fun x hx s hs => ?_, fun x hx s hs => ?_⟩⟩
      · rw [u10, if_neg (fun z => hb' z.2.1), q1 _ _ _ _ hb']
      · rw [u10, if_neg (fun z => k6 z.1), q2 _ _ _ k3 k6 k7]
      · rw [u10]
        by_cases hxk : x = k
        · subst hxk
          rw [if_pos ⟨rfl, rfl, rfl⟩]
          rcases s with _ | _ | _ | _ | _ | _ | _ | _ | _ | _ | s <;> first | exact q1 _ _ _ _ hcb | omega
        · rw [if_neg (fun z => hxk z.2.2), q3 x (by omega) s hs]
      · omega
      · omega
  apply wX0_copyFrom G b hb c hc
  exact T1 nl 0 μ (by omega) ⟨fun _ _ _ _ _ => rfl, fun _ _ _ _ _ _ => rfl, fun x hx => absurd hx (by omega), fun x hx => absurd hx (by omega), fun x hx => absurd hx (by omega)⟩
end SC
