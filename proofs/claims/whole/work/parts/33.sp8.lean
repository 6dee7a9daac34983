def msF (f : Int32) : Int32 := if f < nI 6 then nI 0 else if f < nI 9 then nI 1 else nI 2
/-- a lift's state in the reference -/
def msf (μ : St) (l : Nat) : Int32 := msF (μ 26 0 0 0 + μ 26 0 0 (6 + 21 * l + 6))
/-- a number below a count of the reference's -/
def mix (μ : St) (c : Nat) (x : Int32) : Bool := btw x (nI 0) (μ 26 0 0 c - nI 1)
section SP8
variable (G : Gl)
theorem s_X8_isStation (x : Int32) (μ : St) : Con G mX8_isStation [.int x] μ (fun v μ9 => v = some (.int (bI (isSt x))) ∧ μ9 = μ) noX := wX8_isStation G x μ ⟨rfl, rfl⟩
theorem s_X8_isLift (x : Int32) (μ : St) : Con G mX8_isLift [.ref (zad G.1 10 0 0), .int x] μ (fun v μ9 => v = some (.int (bI (mix μ 3 x))) ∧ μ9 = μ) noX := wX8_isLift G x μ ⟨rfl, rfl⟩
theorem s_X8_isPiste (x : Int32) (μ : St) : Con G mX8_isPiste [.ref (zad G.1 10 0 0), .int x] μ (fun v μ9 => v = some (.int (bI (mix μ 4 x))) ∧ μ9 = μ) noX := wX8_isPiste G x μ ⟨rfl, rfl⟩
theorem s_X8_isGuest (x : Int32) (μ : St) : Con G mX8_isGuest [.ref (zad G.1 10 0 0), .int x] μ (fun v μ9 => v = some (.int (bI (mix μ 5 x))) ∧ μ9 = μ) noX := wX8_isGuest G x μ ⟨rfl, rfl⟩
theorem s_X8_stateOf (x : Int32) (l : Nat) (hx : x = nI l) (hl : l < 6) (μ : St) : Con G mX8_stateOf [.ref (zad G.1 10 0 0), .int x] μ (fun v μ9 => v = some (.int (msf μ l)) ∧ μ9 = μ) noX := by
  subst hx
  apply wX8_stateOf G l hl
  refine ⟨fun h1 => ⟨fun h2 => ⟨?_, rfl⟩, fun h2 => ⟨?_, rfl⟩⟩, fun h1 => ⟨?_, rfl⟩⟩
  · rw [msf, msF, if_neg (i_nlt.mpr h1), if_neg (i_nlt.mpr h2)]
  · rw [msf, msF, if_neg (i_nlt.mpr h1), if_pos (i_nle.mp h2)]
  · rw [msf, msF, if_pos (i_nle.mp h1)]
end SP8
