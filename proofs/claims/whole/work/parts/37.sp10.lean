def mwl (μ : St) (g l : Nat) : Bool := mop μ g l && decide (msf μ l < nI 2)
/-- why a guest may not queue, by the reference -/
def mnl (μ : St) (g l : Nat) : Int32 := if μ 26 0 0 (212 + 10 * g + 4) = 0 then (if μ 26 0 0 (212 + 10 * g + 5) = μ 26 0 0 (6 + 21 * l) then (if mop μ g l then (if msf μ l = nI 2 then nI 4 else if μ 26 0 0 (6 + 21 * l + 10) = nI 10 then nI 5 else nI 0) else nI 3) else nI 2) else nI 1
def mnp (μ : St) (g p : Nat) : Int32 := if μ 26 0 0 (212 + 10 * g + 4) = 0 then (if μ 26 0 0 (212 + 10 * g + 5) = μ 26 0 0 (132 + 8 * p) then (if μ 26 0 0 (132 + 8 * p + 4) = 0 then (if μ 26 0 0 (132 + 8 * p + 2) ≤ μ 26 0 0 (212 + 10 * g) + nI 1 then nI 0 else nI 7) else nI 6) else nI 2) else nI 1
section SP10
variable (G : Gl)
theorem s_X8_isWayLift (x : Int32) (g : Nat) (hx : x = nI g) (hg : g < 16) (y : Int32) (l : Nat) (hy : y = nI l) (hl : l < 6) (μ : St) : Con G mX8_isWayLift [.ref (zad G.1 10 0 0), .int x, .int y] μ (fun v μ9 => v = some (.int (bI (mwl μ g l))) ∧ μ9 = μ) noX := by
  subst hx; subst hy
  apply wX8_isWayLift G g hg l hl
  refine ⟨fun h1 => ⟨?_, rfl⟩, fun h1 => ⟨fun h2 => ⟨?_, rfl⟩, fun h2 => ⟨?_, rfl⟩⟩⟩
  · rw [show mwl μ g l = false by rw [mwl, h1]; rfl, bI_0]
  · rw [show mwl μ g l = false by rw [mwl, decide_eq_false (i_nlt.mpr h2), Bool.and_false], bI_0]
  · rw [show mwl μ g l = true by rw [mwl, h1, decide_eq_true (i_nle.mp h2)]; rfl, bI_1]
theorem s_X8_whyNoLift (x : Int32) (g : Nat) (hx : x = nI g) (hg : g < 16) (y : Int32) (l : Nat) (hy : y = nI l) (hl : l < 6) (μ : St) : Con G mX8_whyNoLift [.ref (zad G.1 10 0 0), .int x, .int y] μ (fun v μ9 => v = some (.int (mnl μ g l)) ∧ μ9 = μ) noX := by
  subst hx; subst hy
  apply wX8_whyNoLift G g hg l hl
  refine ⟨fun h1 => ⟨fun h2 => ⟨fun h3 => ⟨fun h4 => ⟨fun h5 => ⟨?_, rfl⟩, fun h5 => ⟨?_, rfl⟩⟩, fun h4 => ⟨?_, rfl⟩⟩, fun h3 => ⟨?_, rfl⟩⟩, fun h2 => ⟨?_, rfl⟩⟩, fun h1 => ⟨?_, rfl⟩⟩ <;> first | simp only [mnl, h1, h2, h3, h4, h5, if_true, if_false] | simp only [mnl, h1, h2, h3, h4, if_true, if_false] | simp only [mnl, h1, h2, h3, if_true, if_false] | simp only [mnl, h1, h2, if_true, if_false] | simp only [mnl, h1, if_true, if_false]
  all_goals simp
theorem s_X8_whyNoPiste (x : Int32) (g : Nat) (hx : x = nI g) (hg : g < 16) (y : Int32) (p : Nat) (hy : y = nI p) (hl : p < 10) (μ : St) : Con G mX8_whyNoPiste [.ref (zad G.1 10 0 0), .int x, .int y] μ (fun v μ9 => v = some (.int (mnp μ g p)) ∧ μ9 = μ) noX := by
  subst hx; subst hy
  apply wX8_whyNoPiste G g hg p hl
  refine ⟨fun h1 => ⟨fun h2 => ⟨fun h3 => ⟨fun h4 => ⟨?_, rfl⟩, fun h4 => ⟨?_, rfl⟩⟩, fun h3 => ⟨?_, rfl⟩⟩, fun h2 => ⟨?_, rfl⟩⟩, fun h1 => ⟨?_, rfl⟩⟩
  · rw [mnp, if_pos h1, if_pos h2, if_pos h3, if_pos h4]
  · rw [mnp, if_pos h1, if_pos h2, if_pos h3, if_neg h4]
  · rw [mnp, if_pos h1, if_pos h2, if_neg h3]
  · rw [mnp, if_pos h1, if_neg h2]
  · rw [mnp, if_neg h1]
end SP10
