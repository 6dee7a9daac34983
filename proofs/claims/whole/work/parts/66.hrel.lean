/-! ===== areas against rows, histories ===== -/
def AR (μ : St) (b : Nat) (f : Nat → Int32) (W : Nat) : Prop := ∃ nl np ng, Rok μ b nl np ng W ∧ Rel μ b nl np ng f ∧ isN (μ 2 b 0 7) 0 1000
theorem AR.mono {μ : St} {b W W' : Nat} {f : Nat → Int32} (h : AR μ b f W) (hw : W ≤ W') : AR μ b f W' := by
  obtain ⟨nl, np, ng, h1, h2, h3⟩ := h
  exact ⟨nl, np, ng, h1.mono hw, h2, h3⟩
theorem AR.congr {μ μ' : St} {b b' W : Nat} {f f' : Nat → Int32} (h : AR μ b f W) (e : ∀ k i s, k = 2 ∨ k = 3 ∨ k = 6 ∨ k = 7 → μ' k b' i s = μ k b i s) (ef : ∀ i, i < 372 → f' i = f i) : AR μ' b' f' W := by
  obtain ⟨nl, np, ng, h1, h2, h3⟩ := h
  exact ⟨nl, np, ng, h1.congr (fun s _ _ => e 2 0 s (by decide)) (fun l s _ _ => e 6 l s (by decide)) (fun l s _ _ => e 7 l s (by decide)) (fun l s _ _ => e 3 l s (by decide)), h2.congr (fun s _ _ => e 2 0 s (by decide)) (fun l s _ _ => e 6 l s (by decide)) (fun l s _ _ => e 7 l s (by decide)) (fun l s _ _ => e 3 l s (by decide)) ef, by rw [e 2 0 7 (by decide)]; exact h3⟩
theorem AR.copy {μ μ' μ'' : St} {b c nl np ng W : Nat} {f f' : Nat → Int32} (h1 : Rok μ c nl np ng W) (h2 : Rel μ c nl np ng f) (h3 : isN (μ 2 c 0 7) 0 1000) (hp : CpP μ μ' b c nl np ng) (e : ∀ k i s, k = 2 ∨ k = 3 ∨ k = 6 ∨ k = 7 → μ'' k b i s = μ' k b i s) (ef : ∀ i, i < 372 → f' i = f i) : AR μ'' b f' W := by
  obtain ⟨-, -, p2, p6, p7, p3⟩ := hp
  exact ⟨nl, np, ng, h1.congr (fun s s1 s2 => by rw [e 2 0 s (by decide), p2 s s1 s2]) (fun l s hl hs => by rw [e 6 l s (by decide), p6 l hl s hs]) (fun l s hl hs => by rw [e 7 l s (by decide), p7 l hl s hs]) (fun l s hl hs => by rw [e 3 l s (by decide), p3 l hl s hs]), h2.congr (fun s s1 s2 => by rw [e 2 0 s (by decide), p2 s s1 s2]) (fun l s hl hs => by rw [e 6 l s (by decide), p6 l hl s hs]) (fun l s hl hs => by rw [e 7 l s (by decide), p7 l hl s hs]) (fun l s hl hs => by rw [e 3 l s (by decide), p3 l hl s hs]) ef, by rw [e 2 0 7 (by decide), p2 7 (by decide) (by decide)]; exact h3⟩
/-- the class's history and the reference's -/
def HR (μ : St) (W x c : Nat) : Prop := (x < 8 ∧ c ≤ 8) ∧ μ 4 0 0 1 = nI x ∧ μ 4 0 0 2 = nI c ∧ μ 10 0 0 4 = nI c ∧ ∀ k, k < c → AR μ ((x + 8 - c + k) % 8 + 3) (fun i => μ 28 0 0 (372 * k + i)) W
theorem HR.congr {μ μ' : St} {W x c : Nat} (h : HR μ W x c) (e : ∀ y k i s, y < 8 → k = 2 ∨ k = 3 ∨ k = 6 ∨ k = 7 → μ' k (y + 3) i s = μ k (y + 3) i s) (e4 : ∀ s, μ' 4 0 0 s = μ 4 0 0 s) (e10 : μ' 10 0 0 4 = μ 10 0 0 4) (e28 : ∀ i, μ' 28 0 0 i = μ 28 0 0 i) : HR μ' W x c := by
  obtain ⟨h1, h2, h3, h4, h5⟩ := h
  exact ⟨h1, by rw [e4, h2], by rw [e4, h3], by rw [e10, h4], fun k hk => (h5 k hk).congr (fun k' i s hk' => e _ _ _ _ (Nat.mod_lt _ (by decide)) hk') (fun i hi => e28 _)⟩
theorem HR.mono {μ : St} {W W' x c : Nat} (h : HR μ W x c) (hw : W ≤ W') : HR μ W' x c := ⟨h.1, h.2.1, h.2.2.1, h.2.2.2.1, fun k hk => (h.2.2.2.2 k hk).mono hw⟩
/-- one more is remembered on both sides -/
theorem HR.keep {μ μa μ9 : St} {W x c nl np ng : Nat} {f : Nat → Int32} (h : HR μ W x c) {b : Nat} (hb : b < 3) (h1 : Rok μ b nl np ng W) (h2 : Rel μ b nl np ng f) (h3 : isN (μ 2 b 0 7) 0 1000) (hp : CpP μ μa (x + 3) b nl np ng) (e : ∀ y k i s, y < 8 → k = 2 ∨ k = 3 ∨ k = 6 ∨ k = 7 → μ9 k (y + 3) i s = μa k (y + 3) i s) (f1 : μ9 4 0 0 1 = nI ((x + 1) % 8)) (f2 : μ9 4 0 0 2 = nI (min (c + 1) 8)) (f3 : μ9 10 0 0 4 = nI (min (c + 1) 8)) (g1 : c < 8 → (∀ j, j < 372 * c → μ9 28 0 0 j = μ 28 0 0 j) ∧ ∀ i, i < 372 → μ9 28 0 0 (372 * c + i) = f i) (g2 : c = 8 → (∀ j, j < 2604 → μ9 28 0 0 j = μ 28 0 0 (j + 372)) ∧ ∀ i, i < 372 → μ9 28 0 0 (2604 + i) = f i) : HR μ9 W ((x + 1) % 8) (min (c + 1) 8) := by
  obtain ⟨⟨hx, hc⟩, a1, a2, a3, a4⟩ := h
  refine ⟨⟨Nat.mod_lt _ (by decide), Nat.min_le_right _ _⟩, f1, f2, f3, fun k hk => ?_⟩
  -- an old row that stays
  have old : ∀ y, y < 8 → y ≠ x → ∀ k i s, k = 2 ∨ k = 3 ∨ k = 6 ∨ k = 7 → μ9 k (y + 3) i s = μ k (y + 3) i s := fun y hy hyx k i s hk => by
    rw [e y k i s hy hk, hp.1 k (y + 3) i s (by omega)]
  rcases Nat.lt_or_ge c 8 with hc8 | hc8
  · obtain ⟨g3, g4⟩ := g1 hc8
    have hm : min (c + 1) 8 = c + 1 := by omega
    rw [hm] at hk ⊢
    by_cases hkc : k = c
    · subst hkc
      have ex : ((x + 1) % 8 + 8 - (k + 1) + k) % 8 = x := by omega
      rw [ex]
      exact AR.copy h1 h2 h3 hp (fun k i s hk => e x k i s hx hk) (fun i hi => g4 i hi)
    · have ex : ((x + 1) % 8 + 8 - (c + 1) + k) % 8 = (x + 8 - c + k) % 8 := by omega
      rw [ex]
      exact (a4 k (by omega)).congr (old _ (Nat.mod_lt _ (by decide)) (by omega)) (fun i hi => g3 _ (by omega))
  · have hc9 : c = 8 := by omega
    subst hc9
    obtain ⟨g3, g4⟩ := g2 rfl
    have hm : min (8 + 1) 8 = 8 := by decide
    rw [hm] at hk ⊢
    by_cases hkc : k = 7
    · subst hkc
      have ex : ((x + 1) % 8 + 8 - 8 + 7) % 8 = x := by omega
      rw [ex]
      exact AR.copy h1 h2 h3 hp (fun k i s hk => e x k i s hx hk) (fun i hi => g4 i hi)
    · have ex : ((x + 1) % 8 + 8 - 8 + k) % 8 = (x + 8 - 8 + (k + 1)) % 8 := by omega
      rw [ex]
      refine (a4 (k + 1) (by omega)).congr (old _ (Nat.mod_lt _ (by decide)) (by omega)) (fun i hi => ?_)
      show μ9 28 0 0 (372 * k + i) = μ 28 0 0 (372 * (k + 1) + i)
      rw [g3 _ (by omega)]
      congr 1; omega
/-- the newest is taken back on both sides -/
theorem HR.back {μ μ9 : St} {W x c : Nat} (h : HR μ W x c) (h0 : 0 < c) (e : ∀ y k i s, y < 8 → k = 2 ∨ k = 3 ∨ k = 6 ∨ k = 7 → μ9 k (y + 3) i s = μ k (y + 3) i s) (f1 : μ9 4 0 0 1 = nI ((x + 7) % 8)) (f2 : μ9 4 0 0 2 = nI (c - 1)) (f3 : μ9 10 0 0 4 = nI (c - 1)) (f4 : ∀ i, μ9 28 0 0 i = μ 28 0 0 i) : HR μ9 W ((x + 7) % 8) (c - 1) := by
  obtain ⟨⟨hx, hc⟩, a1, a2, a3, a4⟩ := h
  refine ⟨⟨Nat.mod_lt _ (by decide), by omega⟩, f1, f2, f3, fun k hk => ?_⟩
  have ex : ((x + 7) % 8 + 8 - (c - 1) + k) % 8 = (x + 8 - c + k) % 8 := by omega
  rw [ex]
  exact (a4 k (by omega)).congr (fun k' i s hk' => e _ k' i s (Nat.mod_lt _ (by decide)) hk') (fun i hi => f4 _)
theorem HR.top {μ : St} {W x c : Nat} (h : HR μ W x c) (h0 : 0 < c) : AR μ ((x + 7) % 8 + 3) (fun i => μ 28 0 0 (372 * (c - 1) + i)) W := by
  have := h.2.2.2.2 (c - 1) (by omega)
  have hx := h.1.1
  have hc := h.1.2
  rw [show (x + 8 - c + (c - 1)) % 8 = (x + 7) % 8 by omega] at this
  exact this
/-- nothing is remembered any more -/
theorem HR.none {μ : St} {W x c : Nat} (h : HR μ W x c) {μ9 : St} (f1 : μ9 4 0 0 1 = μ 4 0 0 1) (f2 : μ9 4 0 0 2 = nI 0) (f3 : μ9 10 0 0 4 = nI 0) : HR μ9 W x 0 := ⟨⟨h.1.1, by omega⟩, by rw [f1, h.2.1], f2, f3, fun k hk => absurd hk (by omega)⟩
