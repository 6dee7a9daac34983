def mop (μ : St) (g l : Nat) : Bool := decide ((μ 26 0 0 (212 + 10 * g + 1) >>> (μ 26 0 0 (6 + 21 * l + 2) &&& 31)) &&& nI 1 = nI 1) && btw (μ 26 0 0 2) (μ 26 0 0 (212 + 10 * g + 2)) (μ 26 0 0 (212 + 10 * g + 3))
def msk (μ : St) (g p : Nat) : Int32 := if μ 26 0 0 (212 + 10 * g) < μ 26 0 0 (132 + 8 * p + 2) then nI 2 * μ 26 0 0 (132 + 8 * p + 3) else μ 26 0 0 (132 + 8 * p + 3)
def mwp (μ : St) (g p : Nat) : Bool := decide (μ 26 0 0 (132 + 8 * p + 4) = 0) && decide (μ 26 0 0 (132 + 8 * p + 2) ≤ μ 26 0 0 (212 + 10 * g) + nI 1)
def mlk (μ : St) (x y z : Int32) : Int32 := if mix μ 5 x && isSt y && isSt z then nI 0 else nI 1
section SP9
variable (G : Gl)
theorem s_X8_stepOf (x : Int32) (l : Nat) (hx : x = nI l) (hl : l < 6) (μ : St) : Con G mX8_stepOf [.ref (zad G.1 10 0 0), .int x] μ (fun v μ9 => v = some (.int (nI 2 - msf μ l)) ∧ μ9 = μ) noX := by
  subst hx
  exact wX8_stepOf G l hl μ ⟨rfl, rfl⟩
theorem s_X8_isOpenTo (x : Int32) (g : Nat) (hx : x = nI g) (hg : g < 16) (y : Int32) (l : Nat) (hy : y = nI l) (hl : l < 6) (μ : St) : Con G mX8_isOpenTo [.ref (zad G.1 10 0 0), .int x, .int y] μ (fun v μ9 => v = some (.int (bI (mop μ g l))) ∧ μ9 = μ) noX := by
  subst hx; subst hy
  apply wX8_isOpenTo G g hg l hl
  refine ⟨fun h1 => ⟨?_, rfl⟩, fun h1 => ⟨fun h2 => ⟨?_, rfl⟩, fun h2 => ⟨?_, rfl⟩⟩⟩
  · rw [show mop μ g l = false by rw [mop, decide_eq_false h1]; rfl, bI_0]
  · rw [show mop μ g l = false by rw [mop, h2, Bool.and_false], bI_0]
  · rw [show mop μ g l = true by rw [mop, h2, decide_eq_true h1]; rfl, bI_1]
theorem s_X8_skiTime (x : Int32) (g : Nat) (hx : x = nI g) (hg : g < 16) (y : Int32) (p : Nat) (hy : y = nI p) (hl : p < 10) (μ : St) : Con G mX8_skiTime [.ref (zad G.1 10 0 0), .int x, .int y] μ (fun v μ9 => v = some (.int (msk μ g p)) ∧ μ9 = μ) noX := by
  subst hx; subst hy
  apply wX8_skiTime G g hg p hl
  refine ⟨fun h1 => ⟨?_, rfl⟩, fun h1 => ⟨?_, rfl⟩⟩
  · rw [msk, if_neg (i_nlt.mpr h1)]
  · rw [msk, if_pos (i_nle.mp h1)]
theorem s_X8_isWayPiste (x : Int32) (g : Nat) (hx : x = nI g) (hg : g < 16) (y : Int32) (p : Nat) (hy : y = nI p) (hl : p < 10) (μ : St) : Con G mX8_isWayPiste [.ref (zad G.1 10 0 0), .int x, .int y] μ (fun v μ9 => v = some (.int (bI (mwp μ g p))) ∧ μ9 = μ) noX := by
  subst hx; subst hy
  apply wX8_isWayPiste G g hg p hl
  refine ⟨fun h1 => ⟨?_, rfl⟩, fun h1 => ⟨fun h2 => ⟨?_, rfl⟩, fun h2 => ⟨?_, rfl⟩⟩⟩
  · rw [show mwp μ g p = false by rw [mwp, decide_eq_false h1]; rfl, bI_0]
  · rw [show mwp μ g p = false by rw [mwp, decide_eq_false (p := μ 26 0 0 (132 + 8 * p + 2) ≤ _) (i_nle.mpr h2), Bool.and_false], bI_0]
  · rw [show mwp μ g p = true by rw [mwp, decide_eq_true h1, decide_eq_true (i_nlt.mp h2)]; rfl, bI_1]
theorem s_X8_lacks (x y z : Int32) (μ : St) : Con G mX8_lacks [.ref (zad G.1 10 0 0), .int x, .int y, .int z] μ (fun v μ9 => v = some (.int (mlk μ x y z)) ∧ μ9 = μ) noX := by
  apply wX8_lacks G x y z
  refine ⟨fun h1 => ⟨?_, rfl⟩, fun h1 => ⟨fun h2 => ⟨?_, rfl⟩, fun h2 => ⟨fun h3 => ⟨?_, rfl⟩, fun h3 => ⟨?_, rfl⟩⟩⟩⟩ <;> first | simp [mlk, h1, h2, h3] | simp [mlk, h1, h2] | simp [mlk, h1]
end SP9
