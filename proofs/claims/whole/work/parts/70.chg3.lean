/-! ===== a guest leaves a queue; the day ends; new lifts and pistes ===== -/
section CH3
variable {σ : St} {b nl np ng : Nat} {f f' : Nat → Int32}
theorem lq_rel {fd : Nat → Int32} (h : Rel σ b nl np ng f) {g l p q : Nat} (hg : g < ng) (hl : l < nl) (h4 : σ 3 b g 4 = nI 1) (h5 : σ 3 b g 5 = nI l) (h6 : σ 3 b g 6 = nI 0) (h7 : σ 3 b g 7 = nI p) (hp : p < q) (hq10 : q ≤ 10) (hq : f (6 + 21 * l + 10) = nI q) (he : f (6 + 21 * l + 11 + p) = nI g) (d1 : ∀ j, j ≠ 6 + 21 * l + 10 → ¬ (6 + 21 * l + 11 + p ≤ j ∧ j < 6 + 21 * l + 11 + (q - 1)) → fd j = f j) (d2 : fd (6 + 21 * l + 10) = nI (q - 1)) (d3 : ∀ j, p ≤ j → j < q - 1 → fd (6 + 21 * l + 11 + j) = f (6 + 21 * l + 11 + j + 1)) (ff : ∀ j, f' j = if j = 212 + 10 * g + 5 then f (6 + 21 * l) else if j = 212 + 10 * g + 4 then nI 0 else fd j) : Rel (lqF b g l ng σ) b nl np ng f' := by
  have hc := h.1
  obtain ⟨q0, q01, q02, q03, q04⟩ := h.2.2.2.2.2 l hl
  obtain rfl : q0 = q := nI_inj (by omega) (by omega) (q02.symm.trans hq)
  obtain ⟨x1, x2⟩ := lqS_cf σ b g ng
  have xo : ∀ k i s, ¬ (k = 3 ∧ s = 7) → rn (lqS b g) 0 ng σ k b i s = σ k b i s := fun k i s hk => x1 k b i s (fun z => hk ⟨z.1, z.2.2⟩)
  have e60 : rn (lqS b g) 0 ng σ 6 b l 0 = f (6 + 21 * l) := by rw [xo _ _ _ (by omega)]; exact (h.2.2.1 l hl 0 (by decide)).symm
  have y7 : ∀ g' l' j, g' < ng → l' < nl → j ≤ 10 → σ 3 b g' 4 = nI 1 → σ 3 b g' 5 = nI l' → σ 3 b g' 7 = nI j → rn (lqS b g) 0 ng σ 3 b g' 7 = if l' = l ∧ p < j then nI (j - 1) else nI j := fun g' l' j hg' hl' hj w4 w5 w7 => by
    rw [x2, h5, h7, w7]
    have hgi : gis σ b g' (nI 1) (nI l) = true ↔ l' = l := by
      unfold gis
      rw [w4, w5]
      simp only [decide_true, Bool.true_and, decide_eq_true_eq]
      exact ⟨fun z => nI_inj (by omega) (by omega) z, fun z => by rw [z]⟩
    have hle : ¬ nI j ≤ nI p ↔ p < j := by rw [nI_leI (by omega) (by omega)]; omega
    by_cases c : l' = l ∧ p < j
    · rw [if_pos c, if_pos ⟨hg', hgi.mpr c.1, hle.mpr c.2⟩, nI_sub (by omega)]
    · rw [if_neg c, if_neg (fun z => c ⟨hgi.mp z.2.1, hle.mp z.2.2⟩)]
  have fo : ∀ j, j ≠ 212 + 10 * g + 5 → j ≠ 212 + 10 * g + 4 → f' j = fd j := fun j n1 n2 => by rw [ff, if_neg n1, if_neg n2]
  unfold lqF
  rw [e60]
  generalize rn (lqS b g) 0 ng σ = x at *
  refine h.many (fun k i s hk => by rw [gbc_k hk, xo _ _ _ (fun z => hk z.1)]) (fun j hj hj2 => ?_) (fun g' hg' => ?_) (fun l' hl' => ?_)
  · have := hj2 l hl
    rw [fo j (by omega) (by omega), d1 j (by omega) (by omega)]
  · have fg : ∀ k, k < 10 → ¬ (g' = g ∧ (k = 4 ∨ k = 5)) → f' (212 + 10 * g' + k) = f (212 + 10 * g' + k) := fun k hk hn => by
      rw [fo _ (by omega) (by omega), d1 _ (by omega) (by omega)]
    obtain ⟨a1, a2, a3, a4⟩ := h.2.2.2.2.1 g' hg'
    by_cases hgg : g' = g
    · subst hgg
      refine ⟨fun k hk => ?_, fun _ => ?_, ?_, fun k hk => ?_⟩
      · by_cases hk4 : k = 4
        · subst hk4
          rw [gbc_4, ff, if_neg (by omega), if_pos rfl]
        · rw [gbc_o (by omega), xo _ _ _ (by omega), fg k (by omega) (by omega), a1 k hk]
      · rw [gbc_5, ff, if_pos rfl]
      · rw [gbc_6, fg 6 (by omega) (by omega), a3, h6]
      · rw [gbc_o (by omega), xo _ _ _ (by omega), Nat.add_assoc, fg (7 + k) (by omega) (by omega), ← Nat.add_assoc, a4 k hk]
    · refine ⟨fun k hk => ?_, fun z => ?_, ?_, fun k hk => ?_⟩
      · rw [gbc_i hgg, xo _ _ _ (by omega), fg k (by omega) (by omega), a1 k hk]
      · rw [gbc_i hgg, xo _ _ _ (by omega)] at z
        rw [gbc_i hgg, xo _ _ _ (by omega), fg 5 (by omega) (by omega), a2 z]
      · rw [gbc_i hgg, xo _ _ _ (by omega), fg 6 (by omega) (by omega), a3]
      · rw [gbc_i hgg, xo _ _ _ (by omega), Nat.add_assoc, fg (7 + k) (by omega) (by omega), ← Nat.add_assoc, a4 k hk]
  · by_cases hll : l' = l
    · subst hll
      refine ⟨q0 - 1, by omega, ?_, fun j hj => ?_, fun g' hg' g1 g2 => ?_⟩
      · rw [fo _ (by omega) (by omega), d2]
      · by_cases hjp : j < p
        · obtain ⟨g', hg', s1, s2, s3, s4⟩ := q03 j (by omega)
          have hgg : g' ≠ g := fun z => by
            subst z
            exact absurd (nI_inj (by omega) (by omega) (s4.symm.trans h7)) (by omega)
          refine ⟨g', hg', ?_, by rw [gbc_i hgg, xo _ _ _ (by omega), s2], by rw [gbc_i hgg, xo _ _ _ (by omega), s3], ?_⟩
          · rw [fo _ (by omega) (by omega), d1 _ (by omega) (by omega), s1]
          · rw [gbc_i hgg, y7 g' l' j hg' hl (by omega) s2 s3 s4, if_neg (by omega)]
        · obtain ⟨g', hg', s1, s2, s3, s4⟩ := q03 (j + 1) (by omega)
          have hgg : g' ≠ g := fun z => by
            subst z
            exact absurd (nI_inj (by omega) (by omega) (s4.symm.trans h7)) (by omega)
          refine ⟨g', hg', ?_, by rw [gbc_i hgg, xo _ _ _ (by omega), s2], by rw [gbc_i hgg, xo _ _ _ (by omega), s3], ?_⟩
          · rw [fo _ (by omega) (by omega), d3 j (by omega) (by omega), ← s1]; rfl
          · rw [gbc_i hgg, y7 g' l' (j + 1) hg' hl (by omega) s2 s3 s4, if_pos ⟨rfl, by omega⟩, Nat.add_sub_cancel]
      · by_cases hgg : g' = g
        · subst hgg
          rw [gbc_4] at g1
          exact absurd g1 (nI_ne (by decide))
        · rw [gbc_i hgg, xo _ _ _ (by omega)] at g1 g2
          obtain ⟨j, hj, j1, j2⟩ := q04 g' hg' g1 g2
          have hjp : j ≠ p := fun z => by
            subst z
            exact hgg (nI_inj (by omega) (by omega) (j2.symm.trans he))
          by_cases hlt : p < j
          · refine ⟨j - 1, by omega, ?_, ?_⟩
            · rw [gbc_i hgg, y7 g' l' j hg' hl (by omega) g1 g2 j1, if_pos ⟨rfl, hlt⟩]
            · rw [fo _ (by omega) (by omega), d3 (j - 1) (by omega) (by omega), ← j2]
              congr 1; omega
          · refine ⟨j, by omega, ?_, ?_⟩
            · rw [gbc_i hgg, y7 g' l' j hg' hl (by omega) g1 g2 j1, if_neg (by omega)]
            · rw [fo _ (by omega) (by omega), d1 _ (by omega) (by omega), j2]
    · obtain ⟨q, q1, q2, q3, q4⟩ := h.2.2.2.2.2 l' hl'
      have fl : ∀ k, 10 ≤ k → k < 21 → f' (6 + 21 * l' + k) = f (6 + 21 * l' + k) := fun k k1 k2 => by
        rw [fo _ (by omega) (by omega), d1 _ (by omega) (by omega)]
      refine ⟨q, q1, by rw [fl 10 (by omega) (by omega), q2], fun j hj => ?_, fun g' hg' g1 g2 => ?_⟩
      · obtain ⟨g', hg', s1, s2, s3, s4⟩ := q3 j hj
        have hgg : g' ≠ g := fun z => by
          subst z
          exact hll (nI_inj (by omega) (by omega) (s3.symm.trans h5))
        refine ⟨g', hg', ?_, by rw [gbc_i hgg, xo _ _ _ (by omega), s2], by rw [gbc_i hgg, xo _ _ _ (by omega), s3], ?_⟩
        · rw [Nat.add_assoc, fl _ (by omega) (by omega), ← Nat.add_assoc, s1]
        · rw [gbc_i hgg, y7 g' l' j hg' hl' (by omega) s2 s3 s4, if_neg (by omega)]
      · by_cases hgg : g' = g
        · subst hgg
          rw [gbc_4] at g1
          exact absurd g1 (nI_ne (by decide))
        · rw [gbc_i hgg, xo _ _ _ (by omega)] at g1 g2
          obtain ⟨j, hj, j1, j2⟩ := q4 g' hg' g1 g2
          refine ⟨j, hj, ?_, ?_⟩
          · rw [gbc_i hgg, y7 g' l' j hg' hl' (by omega) g1 g2 j1, if_neg (by omega)]
          · rw [Nat.add_assoc, fl _ (by omega) (by omega), ← Nat.add_assoc, j2]
/-! the end of a day -/
theorem cdG_cf (σ : St) (b n : Nat) (k b' i s : Nat) : rn (cdG b) 0 n σ k b' i s = if k = 3 ∧ b' = b ∧ i < n then (if s = 4 then nI 4 else if s = 5 then -1 else if s = 6 then nI 0 else if s = 7 then nI 0 else σ k b' i s) else σ k b' i s := by
  induction n with
  | zero => rw [if_neg (by omega)]; rfl
  | succ n ih =>
    rw [rn_end, Nat.zero_add]
    unfold cdG at *
    rw [gbc_r]
    by_cases c : k = 3 ∧ b' = b ∧ i = n
    · have ee : rn (fun μ i => gbc μ b i (nI 4) (-1) (nI 0) (nI 0)) 0 n σ k b' i s = σ k b' i s := by rw [ih, if_neg (by omega)]
      rw [if_pos c, if_pos (c := k = 3 ∧ b' = b ∧ i < n + 1) ⟨c.1, c.2.1, by omega⟩, ee]
    · rw [if_neg c, ih]
      by_cases c2 : k = 3 ∧ b' = b ∧ i < n
      · rw [if_pos c2, if_pos (c := k = 3 ∧ b' = b ∧ i < n + 1) ⟨c2.1, c2.2.1, by omega⟩]
      · rw [if_neg c2, if_neg (by omega)]
theorem up_r (μ : St) (k b i s : Nat) (x : Int32) (k' b' i' s' : Nat) : up μ k b i s x k' b' i' s' = if k' = k ∧ b' = b ∧ i' = i ∧ s' = s then x else μ k' b' i' s' := rfl
theorem cdL_cf (σ : St) (b n : Nat) (k b' i s : Nat) : rn (cdL b) 0 n σ k b' i s = if k = 6 ∧ b' = b ∧ i < n ∧ s = 7 then nI 0 else σ k b' i s := by
  induction n with
  | zero => rw [if_neg (by omega)]; rfl
  | succ n ih =>
    rw [rn_end, Nat.zero_add]
    unfold cdL at *
    by_cases c : k = 6 ∧ b' = b ∧ i = n ∧ s = 7
    · rw [if_pos ⟨c.1, c.2.1, by omega, c.2.2.2⟩]
      obtain ⟨rfl, rfl, rfl, rfl⟩ := c
      exact up_self _ _ _ _ _ _
    · rw [up_r, if_neg c, ih]
      by_cases c2 : k = 6 ∧ b' = b ∧ i < n ∧ s = 7
      · rw [if_pos c2, if_pos ⟨c2.1, c2.2.1, by omega, c2.2.2.2⟩]
      · rw [if_neg c2, if_neg (by omega)]
theorem pfr_r (μ : St) (b i : Nat) (k b' p s : Nat) : pfr μ b i k b' p s = if k = 7 ∧ b' = b ∧ p = i ∧ (4 ≤ s ∧ s ≤ 6) then nI 0 else μ k b' p s := by
  unfold pfr
  by_cases h : k = 7 ∧ b' = b ∧ p = i ∧ (4 ≤ s ∧ s ≤ 6)
  · rw [if_pos h]
    obtain ⟨rfl, rfl, rfl, h⟩ := h
    have : s = 4 ∨ s = 5 ∨ s = 6 := by omega
    rcases this with rfl | rfl | rfl
    · rw [up_sl (by decide), up_sl (by decide), up_self]
    · rw [up_sl (by decide), up_self]
    · rw [up_self]
  · rw [if_neg h]
    unfold up
    rw [if_neg (by omega), if_neg (by omega), if_neg (by omega)]
theorem cdP_cf (σ : St) (b n : Nat) : ∀ (k b' i s : Nat), rn (cdP b) 0 n σ k b' i s = if k = 7 ∧ b' = b ∧ i < n ∧ (4 ≤ s ∧ s ≤ 6) ∧ σ 7 b i 4 = nI 2 then nI 0 else σ k b' i s := by
  induction n with
  | zero => intro k b' i s; rw [if_neg (by omega)]; rfl
  | succ n ih =>
    intro k b' i s
    rw [rn_end, Nat.zero_add]
    have e : rn (cdP b) 0 n σ 7 b n 4 = σ 7 b n 4 := by rw [ih, if_neg (by omega)]
    unfold cdP at *
    rw [e]
    by_cases c0 : σ 7 b n 4 = nI 2
    · rw [if_pos c0, pfr_r]
      by_cases c : k = 7 ∧ b' = b ∧ i = n ∧ (4 ≤ s ∧ s ≤ 6)
      · rw [if_pos c, if_pos ⟨c.1, c.2.1, by omega, c.2.2.2, by rw [c.2.2.1]; exact c0⟩]
      · rw [if_neg c, ih]
        by_cases c2 : k = 7 ∧ b' = b ∧ i < n ∧ (4 ≤ s ∧ s ≤ 6) ∧ σ 7 b i 4 = nI 2
        · rw [if_pos c2, if_pos ⟨c2.1, c2.2.1, by omega, c2.2.2.2⟩]
        · rw [if_neg c2, if_neg]
          intro z
          rcases Nat.lt_or_ge i n with hlt | hge
          · exact c2 ⟨z.1, z.2.1, hlt, z.2.2.2⟩
          · exact c ⟨z.1, z.2.1, by omega, z.2.2.2.1⟩
    · rw [if_neg c0, ih]
      by_cases c2 : k = 7 ∧ b' = b ∧ i < n ∧ (4 ≤ s ∧ s ≤ 6) ∧ σ 7 b i 4 = nI 2
      · rw [if_pos c2, if_pos ⟨c2.1, c2.2.1, by omega, c2.2.2.2⟩]
      · rw [if_neg c2, if_neg]
        intro z
        rcases Nat.lt_or_ge i n with hlt | hge
        · exact c2 ⟨z.1, z.2.1, hlt, z.2.2.2⟩
        · obtain rfl : i = n := by omega
          exact c0 z.2.2.2.2
/-- the class's store at the end of a day -/
theorem cdF_cf (σ : St) (b nl np ng : Nat) (k b' i s : Nat) : cdF b nl np ng σ k b' i s = if k = 2 ∧ b' = b ∧ i = 0 ∧ s = 8 then σ 2 b 0 8 + nI 1 else if k = 2 ∧ b' = b ∧ i = 0 ∧ s = 7 then nI 0 else if k = 7 ∧ b' = b ∧ i < np ∧ (4 ≤ s ∧ s ≤ 6) ∧ σ 7 b i 4 = nI 2 then nI 0 else if k = 6 ∧ b' = b ∧ i < nl ∧ s = 7 then nI 0 else if k = 3 ∧ b' = b ∧ i < ng then (if s = 4 then nI 4 else if s = 5 then -1 else if s = 6 then nI 0 else if s = 7 then nI 0 else σ k b' i s) else σ k b' i s := by
  have r7 : rn (cdL b) 0 nl (rn (cdG b) 0 ng σ) 7 b i 4 = σ 7 b i 4 := by rw [cdL_cf, if_neg (by omega), cdG_cf, if_neg (by omega)]
  have r8 : cdR b nl np ng σ 2 b 0 8 = σ 2 b 0 8 := by unfold cdR; rw [cdP_cf, if_neg (by omega), cdL_cf, if_neg (by omega), cdG_cf, if_neg (by omega)]
  unfold cdF
  rw [r8]
  unfold up cdR
  rw [cdP_cf, r7, cdL_cf, cdG_cf]
end CH3
