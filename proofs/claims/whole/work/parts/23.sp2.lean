/-! ===== what the next ones answer ===== -/
section SP2
variable (G : Gl)
theorem s_X7_isStation (x : Int32) (μ : St) : Con G mX7_isStation [.int x] μ (fun v μ9 => v = some (.int (bI (isSt x))) ∧ μ9 = μ) noX := wX7_isStation G x μ ⟨rfl, rfl⟩
theorem s_X0_isHeld (b : Nat) (hb : b < 11) (i : Nat) (hi : i < 6) (μ : St) : Con G mX0_isHeld [.ref (zad G.1 2 b 0), .ref (zad G.1 6 b i)] μ (fun v μ9 => v = some (.int (bI (ihd μ b i))) ∧ μ9 = μ) noX := by
  apply wX0_isHeld G b hb i hi
  refine ⟨fun h1 => ⟨?_, rfl⟩, fun h1 => ⟨?_, rfl⟩⟩
  · rw [show ihd μ b i = false from decide_eq_false h1, bI_0]
  · rw [show ihd μ b i = true from decide_eq_true h1, bI_1]
theorem s_X0_isWayFor_ (b : Nat) (hb : b < 11) (i : Nat) (hi : i < 16) (j : Nat) (hj : j < 10) (μ : St) : Con G mX0_isWayFor_ [.ref (zad G.1 2 b 0), .ref (zad G.1 3 b i), .ref (zad G.1 7 b j)] μ (fun v μ9 => v = some (.int (bI (iwp μ b i j))) ∧ μ9 = μ) noX := by
  apply wX0_isWayFor_ G b hb i hi j hj
  refine ⟨fun h1 => ⟨?_, rfl⟩, fun h1 => ⟨fun h2 => ⟨?_, rfl⟩, fun h2 => ⟨?_, rfl⟩⟩⟩
  · rw [show iwp μ b i j = false by rw [iwp, decide_eq_false h1]; rfl, bI_0]
  · rw [show iwp μ b i j = false by rw [iwp, h2, Bool.not_true, Bool.and_false], bI_0]
  · rw [show iwp μ b i j = true by rw [iwp, h2, decide_eq_true h1]; rfl, bI_1]
theorem s_X1_standAt (b : Nat) (hb : b < 11) (i : Nat) (hi : i < 16) (x : Int32) (μ : St) : Con G mX1_standAt [.ref (zad G.1 3 b i), .int x] μ (fun v μ9 => v = none ∧ μ9 = gbc μ b i (nI 0) x (nI 0) (nI 0)) noX := wX1_standAt G b hb i hi x μ ⟨rfl, rfl⟩
theorem s_X1_goAway (b : Nat) (hb : b < 11) (i : Nat) (hi : i < 16) (μ : St) : Con G mX1_goAway [.ref (zad G.1 3 b i)] μ (fun v μ9 => v = none ∧ μ9 = gbc μ b i (nI 4) (-1) (nI 0) (nI 0)) noX := wX1_goAway G b hb i hi μ ⟨rfl, rfl⟩
end SP2
