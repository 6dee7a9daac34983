/-! ===== a guest queues, skis, leaves, is refused ===== -/
section CG
variable {σ : St} {b nl np ng : Nat} {f f' : Nat → Int32}
/-- the guests and the queues change, the rest stays -/
theorem Rel.many {σ' : St} (h : Rel σ b nl np ng f) (e : ∀ k i s, k ≠ 3 → σ' k b i s = σ k b i s) (ef : ∀ j, j < 212 → (∀ l, l < nl → ¬ (6 + 21 * l + 10 ≤ j ∧ j < 6 + 21 * l + 21)) → f' j = f j) (hg : ∀ g, g < ng → gRel σ' b f' g) (hq : ∀ l, l < nl → Que σ' b ng f' l) : Rel σ' b nl np ng f' := by
  obtain ⟨hc, hz, h3, h4, h5, h6⟩ := h
  have hc1 := hc.1
  exact ⟨hc, hz.congr (fun s _ _ => e 2 _ _ (by decide)) (fun k hk => ef _ (by omega) (fun l hl => by omega)), fun l hl => (h3 l hl).congr (fun s _ => e 6 _ _ (by decide)) (fun k hk => ef _ (by omega) (fun l' hl' => by omega)), fun p hp => (h4 p hp).congr (fun s _ => e 7 _ _ (by decide)) (fun k hk => ef _ (by have := hc.2.1; omega) (fun l hl => by omega)), hg, hq⟩
theorem jq_rel (h : Rel σ b nl np ng f) {g l q : Nat} (hg : g < ng) (hl : l < nl) (h4 : σ 3 b g 4 = nI 0) (h6 : σ 3 b g 6 = nI 0) (hq : f (6 + 21 * l + 10) = nI q) (hw : gwF σ b (nI 1) (nI l) ng = nI q) (q9 : q < 10) (ff : ∀ j, f' j = if j = 212 + 10 * g + 5 then nI l else if j = 212 + 10 * g + 4 then nI 1 else if j = 6 + 21 * l + 10 then nI (q + 1) else if j = 6 + 21 * l + 11 + q then nI g else f j) : Rel (jqF σ b g l ng) b nl np ng f' := by
  have hc := h.1
  have n41 : ¬ σ 3 b g 4 = nI 1 := by rw [h4]; exact nI_ne (by decide)
  unfold jqF
  rw [hw]
  refine h.many (fun k i s hk => gbc_k hk) (fun j hj hj2 => ?_) (fun g' hg' => ?_) (fun l' hl' => ?_)
  · have := hj2 l hl
    rw [ff]
    repeat (first | rw [if_neg (by omega)] | rw [if_pos (by omega)])
  · by_cases hgg : g' = g
    · subst hgg
      obtain ⟨a1, a2, a3, a4⟩ := h.2.2.2.2.1 g' hg'
      refine ⟨fun k hk => ?_, fun _ => ?_, ?_, fun k hk => ?_⟩
      · rw [ff]
        by_cases hk4 : k = 4
        · subst hk4
          rw [gbc_4]
          repeat (first | rw [if_neg (by omega)] | rw [if_pos (by omega)])
        · rw [gbc_o (by omega), ← a1 k hk]
          repeat (first | rw [if_neg (by omega)] | rw [if_pos (by omega)])
      · rw [ff, gbc_5]
        repeat (first | rw [if_neg (by omega)] | rw [if_pos (by omega)])
      · rw [ff, gbc_6, ← h6, ← a3]
        repeat (first | rw [if_neg (by omega)] | rw [if_pos (by omega)])
      · rw [ff, gbc_o (by omega), ← a4 k hk]
        repeat (first | rw [if_neg (by omega)] | rw [if_pos (by omega)])
    · refine (h.2.2.2.2.1 g' hg').congr (fun s _ => gbc_i hgg) (fun k hk => ?_)
      rw [ff]
      repeat (first | rw [if_neg (by omega)] | rw [if_pos (by omega)])
  · obtain ⟨q', q1, q2, q3, q4⟩ := h.2.2.2.2.2 l' hl'
    have oth : ∀ g', σ 3 b g' 4 = nI 1 → g' ≠ g := fun g' z e => n41 (e ▸ z)
    by_cases hll : l' = l
    · subst hll
      obtain rfl : q' = q := nI_inj (by omega) (by omega) (q2.symm.trans hq)
      refine ⟨q' + 1, by omega, ?_, fun j hj => ?_, fun g' hg' g1 g2 => ?_⟩
      · rw [ff]
        repeat (first | rw [if_neg (by omega)] | rw [if_pos (by omega)])
      · by_cases hjq : j = q'
        · subst hjq
          refine ⟨g, hg, ?_, gbc_4, gbc_5, gbc_7⟩
          rw [ff]
          repeat (first | rw [if_neg (by omega)] | rw [if_pos (by omega)])
        · obtain ⟨g', hg', s1, s2, s3, s4⟩ := q3 j (by omega)
          have hgg := oth g' s2
          refine ⟨g', hg', ?_, by rw [gbc_i hgg, s2], by rw [gbc_i hgg, s3], by rw [gbc_i hgg, s4]⟩
          rw [ff, ← s1]
          repeat (first | rw [if_neg (by omega)] | rw [if_pos (by omega)])
      · by_cases hgg : g' = g
        · subst hgg
          refine ⟨q', by omega, gbc_7, ?_⟩
          rw [ff]
          repeat (first | rw [if_neg (by omega)] | rw [if_pos (by omega)])
        · rw [gbc_i hgg] at g1 g2
          obtain ⟨j, hj, j1, j2⟩ := q4 g' hg' g1 g2
          refine ⟨j, by omega, by rw [gbc_i hgg, j1], ?_⟩
          rw [ff, ← j2]
          repeat (first | rw [if_neg (by omega)] | rw [if_pos (by omega)])
    · refine ⟨q', q1, ?_, fun j hj => ?_, fun g' hg' g1 g2 => ?_⟩
      · rw [ff, ← q2]
        repeat (first | rw [if_neg (by omega)] | rw [if_pos (by omega)])
      · obtain ⟨g', hg', s1, s2, s3, s4⟩ := q3 j (by omega)
        have hgg := oth g' s2
        refine ⟨g', hg', ?_, by rw [gbc_i hgg, s2], by rw [gbc_i hgg, s3], by rw [gbc_i hgg, s4]⟩
        rw [ff, ← s1]
        repeat (first | rw [if_neg (by omega)] | rw [if_pos (by omega)])
      · by_cases hgg : g' = g
        · subst hgg
          rw [gbc_5] at g2
          exact absurd (nI_inj (by omega) (by omega) g2) (fun z => hll z.symm)
        · rw [gbc_i hgg] at g1 g2
          obtain ⟨j, hj, j1, j2⟩ := q4 g' hg' g1 g2
          refine ⟨j, by omega, by rw [gbc_i hgg, j1], ?_⟩
          rw [ff, ← j2]
          repeat (first | rw [if_neg (by omega)] | rw [if_pos (by omega)])
theorem sp_rel (h : Rel σ b nl np ng f) {g p : Nat} (hg : g < ng) (hp : p < np) (h4 : σ 3 b g 4 = nI 0) (ff : ∀ j, f' j = if j = 132 + 8 * p + 7 then f (132 + 8 * p + 7) + nI 1 else if j = 132 + 8 * p + 5 then f (132 + 8 * p + 5) + f (132 + 8 * p + 2) else if j = 212 + 10 * g + 8 then f (212 + 10 * g + 8) + nI 1 else if j = 212 + 10 * g + 6 then rfo σ b p g else if j = 212 + 10 * g + 5 then nI p else if j = 212 + 10 * g + 4 then nI 3 else f j) : Rel (spF σ b g p) b nl np ng f' := by
  have hc := h.1
  have hs := h.2.2.2.1 p hp
  have h1 : Rel (up (gbc σ b g (nI 3) (nI p) (rfo σ b p g) (nI 0)) 3 b g 9 (σ 3 b g 9 + nI 1)) b nl np ng (fun j => if j = 212 + 10 * g + 8 then f (212 + 10 * g + 8) + nI 1 else if j = 212 + 10 * g + 6 then rfo σ b p g else if j = 212 + 10 * g + 5 then nI p else if j = 212 + 10 * g + 4 then nI 3 else f j) := by
    refine h.guest1 (i := g) (fun k i s hk => by rw [up_k hk, gbc_k hk]) (fun g' s hg' => by rw [up_i hg', gbc_i hg']) (fun j hj => ?_) (fun _ => ?_) (by rw [h4]; exact nI_ne (by decide)) (by rw [up_sl (by decide), gbc_4]; exact nI_ne (by decide))
    · show ite _ _ _ = _
      repeat (first | rw [if_neg (by omega)] | rw [if_pos (by omega)])
    · obtain ⟨a1, a2, a3, a4⟩ := h.2.2.2.2.1 g hg
      refine ⟨fun k hk => ?_, fun _ => ?_, ?_, fun k hk => ?_⟩
      · show ite _ _ _ = _
        rw [up_sl (by omega)]
        by_cases hk4 : k = 4
        · subst hk4
          rw [gbc_4]
          repeat (first | rw [if_neg (by omega)] | rw [if_pos (by omega)])
        · rw [gbc_o (by omega), ← a1 k hk]
          repeat (first | rw [if_neg (by omega)] | rw [if_pos (by omega)])
      · show ite _ _ _ = _
        rw [up_sl (by omega), gbc_5]
        repeat (first | rw [if_neg (by omega)] | rw [if_pos (by omega)])
      · show ite _ _ _ = _
        rw [up_sl (by omega), gbc_6]
        repeat (first | rw [if_neg (by omega)] | rw [if_pos (by omega)])
      · show ite _ _ _ = _
        by_cases hk1 : k = 1
        · subst hk1
          rw [up_self, ← a4 1 hk]
          repeat (first | rw [if_neg (by omega)] | rw [if_pos (by omega)])
        · rw [up_sl (by omega), gbc_o (by omega), ← a4 k hk]
          repeat (first | rw [if_neg (by omega)] | rw [if_pos (by omega)])
  unfold spF
  have q7 : ∀ s, up (gbc σ b g (nI 3) (nI p) (rfo σ b p g) (nI 0)) 3 b g 9 (σ 3 b g 9 + nI 1) 7 b p s = σ 7 b p s := fun s => by rw [up_k (by decide), gbc_k (by decide)]
  refine h1.piste1 (i := p) (by omega) (fun k i s hk => by rw [up_k hk, up_k hk]) (fun p' s hp' => by rw [up_i hp', up_i hp']) (fun j hj => ?_) (fun _ => fun k hk => ?_)
  · rw [ff]
    rw [if_neg (by omega), if_neg (by omega)]
  · by_cases hk5 : k = 5
    · subst hk5
      rw [up_self, ff, hs 5 (by decide), hs 2 (by decide)]
      repeat (first | rw [if_neg (by omega)] | rw [if_pos (by omega)])
    · by_cases hk7 : k = 7
      · subst hk7
        rw [up_sl (by decide), up_self, ff, hs 7 (by decide)]
        repeat (first | rw [if_neg (by omega)] | rw [if_pos (by omega)])
      · rw [up_sl (by omega), up_sl (by omega), q7, ff, ← hs k hk]
        repeat (first | rw [if_neg (by omega)] | rw [if_pos (by omega)])
/-- one leaves a station -/
theorem aw_rel (h : Rel σ b nl np ng f) {g : Nat} (hg : g < ng) (h4 : σ 3 b g 4 = nI 0) (h6 : σ 3 b g 6 = nI 0) (ff : ∀ j, f' j = if j = 212 + 10 * g + 4 then nI 4 else f j) : Rel (gbc σ b g (nI 4) (-1) (nI 0) (nI 0)) b nl np ng f' := by
  refine h.guest1 (i := g) (fun k i s hk => by rw [gbc_k hk]) (fun g' s hg' => by rw [gbc_i hg']) (fun j hj => ?_) (fun _ => ?_) (by rw [h4]; exact nI_ne (by decide)) (by rw [gbc_4]; exact nI_ne (by decide))
  · rw [ff, if_neg (by omega)]
  · obtain ⟨a1, a2, a3, a4⟩ := h.2.2.2.2.1 g hg
    refine ⟨fun k hk => ?_, fun z => absurd gbc_4 z, ?_, fun k hk => ?_⟩
    · rw [ff]
      by_cases hk4 : k = 4
      · subst hk4
        rw [gbc_4, if_pos rfl]
      · rw [gbc_o (by omega), ← a1 k hk, if_neg (by omega)]
    · rw [ff, gbc_6, ← h6, ← a3, if_neg (by omega)]
    · rw [ff, gbc_o (by omega), ← a4 k hk, if_neg (by omega)]
/-- one is refused -/
theorem rf_rel (h : Rel σ b nl np ng f) {g : Nat} (hg : g < ng) (ff : ∀ j, f' j = if j = 212 + 10 * g + 9 then f (212 + 10 * g + 9) + nI 1 else f j) : Rel (up σ 3 b g 10 (σ 3 b g 10 + nI 1)) b nl np ng f' := by
  have hc := h.1
  refine h.many (fun k i s hk => up_k hk) (fun j hj hj2 => by rw [ff, if_neg (by omega)]) (fun g' hg' => ?_) (fun l hl => ?_)
  · by_cases hgg : g' = g
    · subst hgg
      obtain ⟨a1, a2, a3, a4⟩ := h.2.2.2.2.1 g' hg'
      refine ⟨fun k hk => ?_, fun z => ?_, ?_, fun k hk => ?_⟩
      · rw [up_sl (by omega), ← a1 k hk, ff, if_neg (by omega)]
      · rw [up_sl (by omega)] at z
        rw [up_sl (by omega), ← a2 z, ff, if_neg (by omega)]
      · rw [up_sl (by omega), ← a3, ff, if_neg (by omega)]
      · by_cases hk2 : k = 2
        · subst hk2
          rw [up_self, ← a4 2 hk, ff, if_pos (by omega)]
        · rw [up_sl (by omega), ← a4 k hk, ff, if_neg (by omega)]
    · exact (h.2.2.2.2.1 g' hg').congr (fun s _ => up_i hgg) (fun k hk => by rw [ff, if_neg (by omega)])
  · obtain ⟨q, q1, q2, q3, q4⟩ := h.2.2.2.2.2 l hl
    refine ⟨q, q1, by rw [ff, if_neg (by omega), q2], fun j hj => ?_, fun g' hg' g1 g2 => ?_⟩
    · obtain ⟨g', hg', s1, s2, s3, s4⟩ := q3 j hj
      exact ⟨g', hg', by rw [ff, if_neg (by omega), s1], by rw [up_sl (by decide), s2], by rw [up_sl (by decide), s3], by rw [up_sl (by decide), s4]⟩
    · rw [up_sl (by decide)] at g1 g2
      obtain ⟨j, hj, j1, j2⟩ := q4 g' hg' g1 g2
      exact ⟨j, hj, by rw [up_sl (by decide), j1], by rw [ff, if_neg (by omega), j2]⟩
/-- one leaves a queue: the places of those who wait -/
theorem lqS_cf (σ : St) (b g ng : Nat) : (∀ k b' i s, ¬ (k = 3 ∧ b' = b ∧ s = 7) → rn (lqS b g) 0 ng σ k b' i s = σ k b' i s) ∧ ∀ i, rn (lqS b g) 0 ng σ 3 b i 7 = if i < ng ∧ gis σ b i (nI 1) (σ 3 b g 5) = true ∧ ¬ σ 3 b i 7 ≤ σ 3 b g 7 then σ 3 b i 7 - nI 1 else σ 3 b i 7 := by
  induction ng with
  | zero => exact ⟨fun _ _ _ _ _ => rfl, fun i => by rw [if_neg (by omega)]; rfl⟩
  | succ n ih =>
    obtain ⟨h1, h2⟩ := ih
    rw [rn_end, Nat.zero_add]
    have e5 : ∀ i, rn (lqS b g) 0 n σ 3 b i 5 = σ 3 b i 5 := fun i => h1 _ _ _ _ (by omega)
    have e4 : ∀ i, rn (lqS b g) 0 n σ 3 b i 4 = σ 3 b i 4 := fun i => h1 _ _ _ _ (by omega)
    have eg : rn (lqS b g) 0 n σ 3 b g 7 = σ 3 b g 7 := by
      rw [h2, if_neg (fun z => z.2.2 (Int32.le_refl _))]
    have en : rn (lqS b g) 0 n σ 3 b n 7 = σ 3 b n 7 := by rw [h2, if_neg (by omega)]
    generalize rn (lqS b g) 0 n σ = x at *
    have gi : gis x b n (nI 1) (x 3 b g 5) = gis σ b n (nI 1) (σ 3 b g 5) := by unfold gis; rw [e4, e5, e5]
    have key : lqS b g x n = if gis σ b n (nI 1) (σ 3 b g 5) = true ∧ ¬ σ 3 b n 7 ≤ σ 3 b g 7 then up x 3 b n 7 (σ 3 b n 7 - nI 1) else x := by
      unfold lqS
      rw [gi, en, eg]
      by_cases c1 : gis σ b n (nI 1) (σ 3 b g 5) = true
      · rw [if_pos c1]
        by_cases c2 : σ 3 b n 7 ≤ σ 3 b g 7
        · rw [if_pos c2, if_neg (fun z => z.2 c2)]
        · rw [if_neg c2, if_pos ⟨c1, c2⟩]
      · rw [if_neg c1, if_neg (fun z => c1 z.1)]
    rw [key]
    by_cases c : gis σ b n (nI 1) (σ 3 b g 5) = true ∧ ¬ σ 3 b n 7 ≤ σ 3 b g 7
    · rw [if_pos c]
      refine ⟨fun k b' i s hk => ?_, fun i => ?_⟩
      · rw [← h1 k b' i s hk]
        unfold up
        rw [if_neg (fun z => hk ⟨z.1, z.2.1, z.2.2.2⟩)]
      · by_cases hin : i = n
        · subst hin
          rw [up_self, if_pos ⟨by omega, c⟩]
        · rw [up_i hin, h2]
          by_cases hlt : i < n
          · by_cases c3 : gis σ b i (nI 1) (σ 3 b g 5) = true ∧ ¬ σ 3 b i 7 ≤ σ 3 b g 7
            · rw [if_pos ⟨hlt, c3⟩, if_pos ⟨by omega, c3⟩]
            · rw [if_neg (fun z => c3 z.2), if_neg (fun z => c3 z.2)]
          · rw [if_neg (by omega), if_neg (by omega)]
    · rw [if_neg c]
      refine ⟨h1, fun i => ?_⟩
      rw [h2]
      by_cases hin : i = n
      · subst hin
        rw [if_neg (by omega), if_neg (fun z => c z.2)]
      · by_cases c3 : gis σ b i (nI 1) (σ 3 b g 5) = true ∧ ¬ σ 3 b i 7 ≤ σ 3 b g 7
        · by_cases hlt : i < n
          · rw [if_pos ⟨hlt, c3⟩, if_pos ⟨by omega, c3⟩]
          · rw [if_neg (by omega), if_neg (by omega)]
        · rw [if_neg (fun z => c3 z.2), if_neg (fun z => c3 z.2)]
end CG
