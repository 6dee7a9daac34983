/-! ===== the reference's leaves ===== -/
section SP7
variable (G : Gl)
theorem s_X8_in (x lo hi : Int32) (μ : St) : Con G mX8_in [.int x, .int lo, .int hi] μ (fun v μ9 => v = some (.int (bI (btw x lo hi))) ∧ μ9 = μ) noX := by
  apply wX8_in
  refine ⟨fun h1 => ⟨?_, rfl⟩, fun h1 => ⟨fun h2 => ⟨?_, rfl⟩, fun h2 => ⟨?_, rfl⟩⟩⟩
  · rw [show btw x lo hi = false by rw [btw, decide_eq_false (i_nle.mpr h1)]; rfl, bI_0]
  · rw [show btw x lo hi = false by rw [btw, decide_eq_false (p := x ≤ hi) (i_nle.mpr h2), Bool.and_false], bI_0]
  · rw [show btw x lo hi = true by rw [btw, decide_eq_true (i_nlt.mp h1), decide_eq_true (i_nlt.mp h2)]; rfl, bI_1]
theorem s_X8_lift0 (x : Int32) (μ : St) : Con G mX8_lift0 [.int x] μ (fun v μ9 => v = some (.int (nI 6 + nI 21 * x)) ∧ μ9 = μ) noX := wX8_lift0 G x μ ⟨rfl, rfl⟩
theorem s_X8_piste0 (x : Int32) (μ : St) : Con G mX8_piste0 [.int x] μ (fun v μ9 => v = some (.int (nI 132 + nI 8 * x)) ∧ μ9 = μ) noX := wX8_piste0 G x μ ⟨rfl, rfl⟩
theorem s_X8_guest0 (x : Int32) (μ : St) : Con G mX8_guest0 [.int x] μ (fun v μ9 => v = some (.int (nI 212 + nI 10 * x)) ∧ μ9 = μ) noX := wX8_guest0 G x μ ⟨rfl, rfl⟩
theorem s_X8_lift0N (l : Nat) (μ : St) : Con G mX8_lift0 [.int (nI l)] μ (fun v μ9 => v = some (.int (nI (6 + 21 * l))) ∧ μ9 = μ) noX := wX8_lift0 G (nI l) μ ⟨by rw [pk_mul, nI_add], rfl⟩
theorem s_X8_piste0N (l : Nat) (μ : St) : Con G mX8_piste0 [.int (nI l)] μ (fun v μ9 => v = some (.int (nI (132 + 8 * l))) ∧ μ9 = μ) noX := wX8_piste0 G (nI l) μ ⟨by rw [pk_mul, nI_add], rfl⟩
theorem s_X8_guest0N (l : Nat) (μ : St) : Con G mX8_guest0 [.int (nI l)] μ (fun v μ9 => v = some (.int (nI (212 + 10 * l))) ∧ μ9 = μ) noX := wX8_guest0 G (nI l) μ ⟨by rw [pk_mul, nI_add], rfl⟩
theorem s_X8_refuse (x : Int32) (μ : St) : Con G mX8_refuse [.ref (zad G.1 10 0 0), .int x] μ (fun v μ9 => v = some (.int (nI 0)) ∧ μ9 = up μ 10 0 0 6 x) noX := wX8_refuse G x μ ⟨rfl, rfl⟩
theorem s_X8_thrown (μ : St) : Con G mX8_thrown [.ref (zad G.1 10 0 0)] μ (fun v μ9 => v = some (.int (μ 10 0 0 6)) ∧ μ9 = μ) noX := wX8_thrown G μ ⟨rfl, rfl⟩
end SP7
