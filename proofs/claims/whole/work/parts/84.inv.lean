/-! ===== what holds between calls ===== -/
def Inv (μ : St) (W : Nat) : Prop := AR μ 0 (row μ) W ∧ ((μ 9 0 0 6 = nI 0 ∧ μ 10 0 0 2 = nI 0) ∨ (μ 9 0 0 6 = nI 1 ∧ μ 10 0 0 2 = nI 1 ∧ AR μ 2 (fun i => μ 27 0 0 i) W)) ∧ (∃ x c, HR μ W x c) ∧ μ 9 0 0 7 = μ 10 0 0 5 ∧ ((μ 9 0 0 8 = -1 ∧ μ 10 0 0 14 = nI 0) ∨ ∃ e, e ≤ 60 ∧ μ 9 0 0 8 = nI e ∧ μ 10 0 0 14 = nI 1 ∧ μ 10 0 0 15 = nI e) ∧ ∃ t n, Tc μ t n ∧ Tm μ t n
/-- what no call reads of an earlier one -/
def Ig (k b s : Nat) : Prop := k = 25 ∨ k = 26 ∨ k = 29 ∨ k = 30 ∨ (32 ≤ k ∧ k ≤ 36) ∨ (k = 10 ∧ (s = 6 ∨ s = 7 ∨ s = 12 ∨ s = 13 ∨ s = 16)) ∨ (k = 5 ∧ 2 ≤ s) ∨ (b = 1 ∧ (k = 2 ∨ k = 3 ∨ k = 6 ∨ k = 7))
theorem Inv.ig {μ μ' : St} {W W' : Nat} (h : Inv μ W) (hw : W ≤ W') (e : ∀ k b i s, ¬ Ig k b s → μ' k b i s = μ k b i s) (e26 : ∀ i, i < 372 → row μ' i = row μ i) : Inv μ' W' := by
  unfold Ig at e
  obtain ⟨h1, h2, ⟨x, c, h3⟩, h4, h5, t, n, h6, h7⟩ := h
  refine ⟨(h1.mono hw).congr (fun k i s hk => e _ _ _ _ (by omega)) e26, ?_, ⟨x, c, (h3.mono hw).congr (fun y k i s hy hk => e _ _ _ _ (by omega)) (fun s => e _ _ _ _ (by omega)) (e _ _ _ _ (by omega)) (fun i => e _ _ _ _ (by omega))⟩, ?_, ?_, t, n, ⟨?_, h6.2.1, fun j hj => ?_, h6.2.2.2⟩, ⟨?_, h7.2.1, fun j hj => ?_, h7.2.2.2⟩⟩
  · rw [e 9 0 0 6 (by omega), e 10 0 0 2 (by omega)]
    rcases h2 with h2 | ⟨a, b, c⟩
    · exact Or.inl h2
    · exact Or.inr ⟨a, b, (c.mono hw).congr (fun k i s hk => e _ _ _ _ (by omega)) (fun i _ => e _ _ _ _ (by omega))⟩
  · rw [e 9 0 0 7 (by omega), e 10 0 0 5 (by omega)]; exact h4
  · rw [e 9 0 0 8 (by omega), e 10 0 0 14 (by omega), e 10 0 0 15 (by omega)]; exact h5
  · rw [e 5 0 0 1 (by omega)]; exact h6.1
  · rw [e 24 0 0 j (by omega)]; exact h6.2.2.1 j hj
  · rw [e 10 0 0 10 (by omega)]; exact h7.1
  · rw [e 31 0 0 j (by omega)]; exact h7.2.2.1 j hj
/-- what the reference owes: its answer, what holds after it, whether it refuses -/
def MP (W k : Nat) (r : Int32) (v : Option Value) (μ2 : St) : Prop := ∃ r', v = some (.int r') ∧ Inv μ2 (W + 64) ∧ μ2 10 0 0 6 = nI k ∧ (k = 0 → r' = r)
def Mc (G : Gl) (Z : MD) (av : List Value) (W k : Nat) (r : Int32) (μ : St) : Prop := Con G Z (.ref (zad G.1 10 0 0) :: av) μ (MP W k r) noX
/-- a call: what the class answers, and then the reference -/
def XP (G : Gl) (Z : MD) (av : List Value) (W : Nat) (exs : List String) (E : String) (μ1 : St) : Prop := ∃ k, exs[k]? = some E ∧ Mc G Z av W (k + 1) (nI 0) μ1
def Opn (G : Gl) (Y Z : MD) (av : List Value) (W : Nat) (exs : List String) (μ : St) : Prop := Con G Y (.ref (zad G.1 9 0 0) :: av) μ (fun v μ1 => ∃ r, v = some (.int r) ∧ Mc G Z av W 0 r μ1) (XP G Z av W exs)
abbrev eIOOB : String := "java/lang/IndexOutOfBoundsException"
abbrev eIAE : String := "java/lang/IllegalArgumentException"
abbrev eISE : String := "java/lang/IllegalStateException"
abbrev eNSE : String := "java/util/NoSuchElementException"
abbrev eUOE : String := "java/lang/UnsupportedOperationException"
theorem n00 : (nI 0 ≤ (0 : Int32)) = True := eq_true (by decide)
theorem n10 : (nI 1 ≤ (0 : Int32)) = False := eq_false (by decide)
theorem n20 : (nI 2 ≤ (0 : Int32)) = False := eq_false (by decide)
theorem n30 : (nI 3 ≤ (0 : Int32)) = False := eq_false (by decide)
theorem mix_idx {x : Int32} {n : Nat} (hn : n ≤ 16) : btw x (nI 0) (nI n - nI 1) = idx x (nI n) := by
  unfold btw idx
  rw [nI_0]
  congr 1
  have h1 : (nI n - nI 1).toInt = n - 1 := by
    rcases Nat.eq_zero_or_pos n with rfl | hp
    · decide
    · rw [nI_sub hp, nI_toInt (by omega)]; omega
  have h2 : (nI n).toInt = n := nI_toInt (by omega)
  have e : (x ≤ nI n - nI 1) ↔ x < nI n := by
    rw [Int32.le_iff_toInt_le, Int32.lt_iff_toInt_lt, h1, h2]
    omega
  exact decide_eq_decide.mpr e
theorem idx_lt {i n : Nat} (hi : i < 16) (hn : n ≤ 16) (h : idx (nI i) (nI n) = true) : i < n := by
  unfold idx at h
  rw [Bool.and_eq_true, decide_eq_true_eq, decide_eq_true_eq] at h
  exact (nI_ltI (by omega) (by omega)).mp h.2
theorem mix_up {μ : St} {x y : Int32} {c : Nat} : mix (up μ 10 0 0 6 x) c y = mix μ c y := by
  unfold mix
  rw [up_k (by decide)]
section INV
variable {μ : St} {W nl np ng : Nat}
theorem mix5 (hR : Rok μ 0 nl np ng W) (h : Rel μ 0 nl np ng (row μ)) (x : Int32) : mix μ 5 x = idx x (μ 2 0 0 5) := by
  unfold mix
  rw [hR.1.2.2.1, ← mix_idx hR.1.2.2.2, h.cng hR.1]
theorem mix4 (hR : Rok μ 0 nl np ng W) (h : Rel μ 0 nl np ng (row μ)) (x : Int32) : mix μ 4 x = idx x (μ 2 0 0 4) := by
  have := hR.1.2.1.2
  unfold mix
  rw [hR.1.2.1.1, ← mix_idx (by omega), h.cnp hR.1]
theorem mix3 (hR : Rok μ 0 nl np ng W) (h : Rel μ 0 nl np ng (row μ)) (x : Int32) : mix μ 3 x = idx x (μ 2 0 0 3) := by
  have := hR.1.1.2
  unfold mix
  rw [hR.1.1.1, ← mix_idx (by omega), h.cnl hR.1]
theorem Inv.up6 (h : Inv μ W) (x : Int32) {W' : Nat} (hw : W ≤ W') : Inv (up μ 10 0 0 6 x) W' := h.ig hw (fun k b i s hk => by unfold Ig at hk; unfold up; rw [if_neg (by omega)]) (fun i _ => up_k (by decide))
/-- a question's end -/
theorem qd (h : Inv μ W) {k : Nat} {r x : Int32} (hx : k = 0 → x = r) : MP W k r (some (.int x)) (up μ 10 0 0 6 (nI k)) := ⟨x, rfl, h.up6 _ (by omega), up_self _ _ _ _ _ _, hx⟩
theorem qd2 (h : Inv μ W) {k : Nat} {y r x : Int32} (hx : k = 0 → x = r) : MP W k r (some (.int x)) (up (up μ 10 0 0 6 y) 10 0 0 6 (nI k)) := ⟨x, rfl, (h.up6 _ (Nat.le_refl _)).up6 _ (by omega), up_self _ _ _ _ _ _, hx⟩
theorem le16 {x : Int32} {n m : Nat} (h : x = nI n) (hn : n ≤ m) (hm : m < 2 ^ 31) : x ≤ nI m := by rw [h]; exact (nI_leI (by omega) hm).mpr hn
variable (G : Gl)
theorem op_whyNotQueue (hI : Inv μ W) (x1 x2 : Int32) : Opn G mX7_whyNotQueue mX8_whyNotQueue [.int x1, .int x2] W [eIOOB] μ := by
  obtain ⟨nl, np, ng, hR, h, -⟩ := hI.1
  have m5 := mix5 hR h
  have m3 := mix3 hR h
  have bad : (idx x1 (μ 2 0 0 5) = false ∨ idx x2 (μ 2 0 0 3) = false) → XP G mX8_whyNotQueue [.int x1, .int x2] W [eIOOB] eIOOB μ := fun hb => by
    refine ⟨0, rfl, wX8_whyNotQueue G x1 x2 μ ?_⟩
    rw [mix_up, mix_up, m5, m3]
    refine ⟨fun _ => qd2 hI (fun z => by cases z), fun z => ⟨fun _ => qd2 hI (fun z => by cases z), fun z2 => ?_⟩⟩
    rcases hb with hb | hb
    · rw [hb] at z; cases z
    · rw [hb] at z2; cases z2
  apply wX7_whyNotQueue
  refine ⟨le16 hR.1.2.2.1 hR.1.2.2.2 (by decide), fun hx => ⟨le16 hR.1.1.1 hR.1.1.2 (by decide), fun _ => bad (Or.inl hx), fun _ _ _ _ => bad (Or.inl hx)⟩, fun g hg e1 hx => ⟨le16 hR.1.1.1 hR.1.1.2 (by decide), fun hy => bad (Or.inr hy), fun l hl e2 hy => ?_⟩⟩
  subst e1; subst e2
  have hgn : g < ng := by rw [hR.1.2.2.1] at hx; exact idx_lt hg hR.1.2.2.2 hx
  have hln : l < nl := by rw [hR.1.1.1] at hy; have := hR.1.1.2; exact idx_lt (by omega) (by omega) hy
  refine (s_X0_queueRefusal G (by decide) hR.1 hg hl).mono (fun v μ1 hp => ⟨_, hp.1, _, rfl, ?_⟩) (fun _ _ hp => absurd hp (fun z => z))
  obtain ⟨-, rfl⟩ := hp
  apply wX8_whyNotQueue
  rw [mix_up, mix_up, m5, m3, hx, hy]
  refine ⟨fun z => (by cases z), fun _ => ⟨fun z => (by cases z), fun _ => ⟨g, rfl, hg, l, rfl, hl, qd hI (fun _ => ?_)⟩⟩⟩
  rw [← h.eqrF hgn hln]
  unfold mnl mop msf
  simp only [up_k (show (26 : Nat) ≠ 10 by decide)]
end INV
