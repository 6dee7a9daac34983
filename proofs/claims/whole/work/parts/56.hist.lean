/-! ===== the history of the class ===== -/
theorem fm_at : ∀ x, x < 8 → fmd (nI x) (nI 8) = nI x := by decide +kernel
theorem fm_up : ∀ x, x < 8 → fmd (nI x + nI 1) (nI 8) = nI ((x + 1) % 8) := by decide +kernel
theorem fm_dn : ∀ x, x < 8 → fmd (nI x - nI 1) (nI 8) = nI ((x + 7) % 8) := by decide +kernel
theorem im_8 : ∀ c, c ≤ 8 → imn (nI c + nI 1) (nI 8) = nI (min (c + 1) 8) := by
  intro c hc
  have h : ∀ c, c < 9 → imn (nI c + nI 1) (nI 8) = nI (min (c + 1) 8) := by decide +kernel
  exact h c (by omega)
section SH
variable (G : Gl) {b nl np ng : Nat} {μ : St}
/-- what remember does: row x is the area, the next row follows, there is one more or 8 -/
def RmP (μ μ9 : St) (b x c nl np ng : Nat) : Prop := ∃ μ1, CpP μ μ1 (x + 3) b nl np ng ∧ μ9 = up (up μ1 4 0 0 1 (nI ((x + 1) % 8))) 4 0 0 2 (nI (min (c + 1) 8))
theorem s_X2_remember (hb : b < 3) (hC : Cnt μ b nl np ng) {x c : Nat} (hx : x < 8) (hc : c ≤ 8) (e1 : μ 4 0 0 1 = nI x) (e2 : μ 4 0 0 2 = nI c) : Con G mX2_remember [.ref (zad G.1 4 0 0), .ref (zad G.1 2 b 0)] μ (fun v μ9 => v = none ∧ RmP μ μ9 b x c nl np ng) noX := by
  apply wX2_remember G b (by omega)
  refine ⟨x, by rw [e1, fm_at x hx], hx, ?_⟩
  refine (s_X0_copyFrom G (by omega) (by omega) (by omega) hC).mono (fun v μ1 hp => ⟨hp.1, rfl, μ1, hp.2, ?_⟩) (fun _ _ hp => hp)
  have f1 : ∀ s, μ1 4 0 0 s = μ 4 0 0 s := fun s => hp.2.1 4 0 0 s (by omega)
  rw [f1, f1, e1, e2, fm_up x hx, im_8 c hc]
/-- what takeBack does -/
def TbP (μ μ9 : St) (b x c nl np ng : Nat) : Prop := ∃ μ1, CpP (up μ 4 0 0 1 (nI ((x + 7) % 8))) μ1 b ((x + 7) % 8 + 3) nl np ng ∧ μ9 = up μ1 4 0 0 2 (nI (c - 1))
theorem s_X2_takeBack (hb : b < 3) {x c : Nat} (hx : x < 8) (hc : c ≤ 8) (h0 : 0 < c) (hC : Cnt μ ((x + 7) % 8 + 3) nl np ng) (e1 : μ 4 0 0 1 = nI x) (e2 : μ 4 0 0 2 = nI c) : Con G mX2_takeBack [.ref (zad G.1 4 0 0), .ref (zad G.1 2 b 0)] μ (fun v μ9 => v = none ∧ TbP μ μ9 b x c nl np ng) noX := by
  have hm : (x + 7) % 8 < 8 := Nat.mod_lt _ (by decide)
  apply wX2_takeBack G b (by omega)
  refine ⟨fun h => absurd h (by rw [e2]; exact nI_nle h0 (by omega)), fun _ => ⟨(x + 7) % 8, by rw [e1, fm_dn x hx], hm, ?_⟩⟩
  rw [e1, fm_dn x hx]
  have hC' : Cnt (up μ 4 0 0 1 (nI ((x + 7) % 8))) ((x + 7) % 8 + 3) nl np ng := by
    unfold Cnt at *
    rw [up_k (by decide), up_k (by decide), up_k (by decide)]
    exact hC
  refine (s_X0_copyFrom G (by omega) (by omega) (by omega) hC').mono (fun v μ1 hp => ⟨hp.1, rfl, μ1, hp.2, ?_⟩) (fun _ _ hp => hp)
  have f1 : μ1 4 0 0 2 = nI c := by
    by_cases hb0 : b = 0
    · subst hb0
      rw [hp.2.2.1 4 0 2 (by decide) (by decide) (by decide) (by decide), up_sl (by decide), e2]
    · rw [hp.2.1 4 0 0 2 (by omega), up_sl (by decide), e2]
  rw [f1, nI_sub h0]
end SH
