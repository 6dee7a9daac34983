/-! ===== the reference's row holds what an area holds ===== -/
def Que (μ : St) (b ng : Nat) (f : Nat → Int32) (l : Nat) : Prop := ∃ q : Nat, q ≤ 10 ∧ f (6 + 21 * l + 10) = nI q ∧ (∀ j, j < q → ∃ g, g < ng ∧ f (6 + 21 * l + 11 + j) = nI g ∧ μ 3 b g 4 = nI 1 ∧ μ 3 b g 5 = nI l ∧ μ 3 b g 7 = nI j) ∧ (∀ g, g < ng → μ 3 b g 4 = nI 1 → μ 3 b g 5 = nI l → ∃ j, j < q ∧ μ 3 b g 7 = nI j ∧ f (6 + 21 * l + 11 + j) = nI g)
def lRel (μ : St) (b : Nat) (f : Nat → Int32) (l : Nat) : Prop := ∀ k, k < 10 → f (6 + 21 * l + k) = μ 6 b l k
def pRel (μ : St) (b : Nat) (f : Nat → Int32) (p : Nat) : Prop := ∀ k, k < 8 → f (132 + 8 * p + k) = μ 7 b p k
def gRel (μ : St) (b : Nat) (f : Nat → Int32) (g : Nat) : Prop := (∀ k, k < 5 → f (212 + 10 * g + k) = μ 3 b g k) ∧ (¬ μ 3 b g 4 = nI 4 → f (212 + 10 * g + 5) = μ 3 b g 5) ∧ f (212 + 10 * g + 6) = μ 3 b g 6 ∧ ∀ k, k < 3 → f (212 + 10 * g + 7 + k) = μ 3 b g (8 + k)
def zRel (μ : St) (b : Nat) (f : Nat → Int32) : Prop := (∀ k, k < 3 → f k = μ 2 b 0 (6 + k)) ∧ (∀ k, k < 3 → f (3 + k) = μ 2 b 0 (3 + k))
def Rel (μ : St) (b nl np ng : Nat) (f : Nat → Int32) : Prop := (nl ≤ 6 ∧ np ≤ 10 ∧ ng ≤ 16) ∧ zRel μ b f ∧ (∀ l, l < nl → lRel μ b f l) ∧ (∀ p, p < np → pRel μ b f p) ∧ (∀ g, g < ng → gRel μ b f g) ∧ (∀ l, l < nl → Que μ b ng f l)
theorem lRel.congr {μ μ' : St} {b b' l : Nat} {f f' : Nat → Int32} (h : lRel μ b f l) (e : ∀ s, s < 10 → μ' 6 b' l s = μ 6 b l s) (ef : ∀ k, k < 10 → f' (6 + 21 * l + k) = f (6 + 21 * l + k)) : lRel μ' b' f' l := fun k hk => by rw [ef k hk, e k hk, h k hk]
theorem pRel.congr {μ μ' : St} {b b' l : Nat} {f f' : Nat → Int32} (h : pRel μ b f l) (e : ∀ s, s < 8 → μ' 7 b' l s = μ 7 b l s) (ef : ∀ k, k < 8 → f' (132 + 8 * l + k) = f (132 + 8 * l + k)) : pRel μ' b' f' l := fun k hk => by rw [ef k hk, e k hk, h k hk]
theorem gRel.congr {μ μ' : St} {b b' g : Nat} {f f' : Nat → Int32} (h : gRel μ b f g) (e : ∀ s, s < 11 → μ' 3 b' g s = μ 3 b g s) (ef : ∀ k, k < 10 → f' (212 + 10 * g + k) = f (212 + 10 * g + k)) : gRel μ' b' f' g := by
  obtain ⟨a1, a2, a3, a4⟩ := h
  refine ⟨fun k hk => by rw [ef _ (by omega), e _ (by omega), a1 k hk], fun hx => ?_, ?_, fun k hk => ?_⟩
  · rw [e _ (by omega)] at hx
    rw [ef _ (by omega), e _ (by omega), a2 hx]
  · rw [ef _ (by omega), e _ (by omega), a3]
  · rw [Nat.add_assoc, ef _ (by omega), e _ (by omega), ← Nat.add_assoc, a4 k hk]
theorem Que.congr {μ μ' : St} {b b' ng l : Nat} {f f' : Nat → Int32} (h : Que μ b ng f l) (e : ∀ g s, g < ng → s < 11 → μ' 3 b' g s = μ 3 b g s) (ef : ∀ k, 10 ≤ k → k < 21 → f' (6 + 21 * l + k) = f (6 + 21 * l + k)) : Que μ' b' ng f' l := by
  obtain ⟨q, q1, q2, q3, q4⟩ := h
  refine ⟨q, q1, by rw [ef _ (by omega) (by omega), q2], fun j hj => ?_, fun g hg g1 g2 => ?_⟩
  · obtain ⟨g, hg, g1, g2, g3, g4⟩ := q3 j hj
    exact ⟨g, hg, by rw [Nat.add_assoc, ef _ (by omega) (by omega), ← Nat.add_assoc, g1], by rw [e _ _ hg (by omega), g2], by rw [e _ _ hg (by omega), g3], by rw [e _ _ hg (by omega), g4]⟩
  · rw [e _ _ hg (by omega)] at g1 g2
    obtain ⟨j, hj, j1, j2⟩ := q4 g hg g1 g2
    exact ⟨j, hj, by rw [e _ _ hg (by omega), j1], by rw [Nat.add_assoc, ef _ (by omega) (by omega), ← Nat.add_assoc, j2]⟩
theorem zRel.congr {μ μ' : St} {b b' : Nat} {f f' : Nat → Int32} (h : zRel μ b f) (e : ∀ s, 3 ≤ s → s < 9 → μ' 2 b' 0 s = μ 2 b 0 s) (ef : ∀ k, k < 6 → f' k = f k) : zRel μ' b' f' := ⟨fun k hk => by rw [ef _ (by omega), e _ (by omega) (by omega), h.1 k hk], fun k hk => by rw [ef _ (by omega), e _ (by omega) (by omega), h.2 k hk]⟩
theorem Rel.congr {μ μ' : St} {b b' nl np ng : Nat} {f f' : Nat → Int32} (h : Rel μ b nl np ng f) (e2 : ∀ s, 3 ≤ s → s < 9 → μ' 2 b' 0 s = μ 2 b 0 s) (e6 : ∀ l s, l < nl → s < 10 → μ' 6 b' l s = μ 6 b l s) (e7 : ∀ l s, l < np → s < 8 → μ' 7 b' l s = μ 7 b l s) (e3 : ∀ l s, l < ng → s < 11 → μ' 3 b' l s = μ 3 b l s) (ef : ∀ i, i < 372 → f' i = f i) : Rel μ' b' nl np ng f' := by
  obtain ⟨hc, h1, h3, h4, h5, h6⟩ := h
  exact ⟨hc, h1.congr e2 (fun k hk => ef _ (by omega)), fun l hl => (h3 l hl).congr (fun s hs => e6 l s hl hs) (fun k hk => ef _ (by omega)), fun l hl => (h4 l hl).congr (fun s hs => e7 l s hl hs) (fun k hk => ef _ (by omega)), fun l hl => (h5 l hl).congr (fun s hs => e3 l s hl hs) (fun k hk => ef _ (by omega)), fun l hl => (h6 l hl).congr (fun g s hg hs => e3 g s hg hs) (fun k hk hk2 => ef _ (by omega))⟩
/-- one guest who doesn't wait changes -/
theorem Rel.guest1 {μ μ' : St} {b nl np ng i : Nat} {f f' : Nat → Int32} (h : Rel μ b nl np ng f) (e : ∀ k i s, k ≠ 3 → μ' k b i s = μ k b i s) (ei : ∀ g s, g ≠ i → μ' 3 b g s = μ 3 b g s) (ef : ∀ j, ¬ (212 + 10 * i ≤ j ∧ j < 212 + 10 * i + 10) → f' j = f j) (hg : i < ng → gRel μ' b f' i) (h1 : ¬ μ 3 b i 4 = nI 1) (h2 : ¬ μ' 3 b i 4 = nI 1) : Rel μ' b nl np ng f' := by
  obtain ⟨hc, hz, h3, h4, h5, h6⟩ := h
  refine ⟨hc, hz.congr (fun s _ _ => e 2 _ _ (by decide)) (fun k hk => ef _ (by omega)), fun l hl => (h3 l hl).congr (fun s _ => e 6 _ _ (by decide)) (fun k hk => ef _ (by omega)), fun l hl => (h4 l hl).congr (fun s _ => e 7 _ _ (by decide)) (fun k hk => ef _ (by omega)), fun g hgl => ?_, fun l hl => ?_⟩
  · by_cases hgi : g = i
    · subst hgi; exact hg hgl
    · exact (h5 g hgl).congr (fun s _ => ei g s hgi) (fun k hk => ef _ (by omega))
  · obtain ⟨q, q1, q2, q3, q4⟩ := h6 l hl
    refine ⟨q, q1, by rw [ef _ (by omega), q2], fun j hj => ?_, fun g hg g1 g2 => ?_⟩
    · obtain ⟨g, hg, g1, g2, g3, g4⟩ := q3 j hj
      have hgi : g ≠ i := fun z => h1 (by rw [← z]; exact g2)
      exact ⟨g, hg, by rw [ef _ (by omega), g1], by rw [ei _ _ hgi, g2], by rw [ei _ _ hgi, g3], by rw [ei _ _ hgi, g4]⟩
    · have hgi : g ≠ i := fun z => h2 (by rw [← z]; exact g1)
      rw [ei _ _ hgi] at g1 g2
      obtain ⟨j, hj, j1, j2⟩ := q4 g hg g1 g2
      exact ⟨j, hj, by rw [ei _ _ hgi, j1], by rw [ef _ (by omega), j2]⟩
theorem Rel.piste1 {μ μ' : St} {b nl np ng i : Nat} {f f' : Nat → Int32} (h : Rel μ b nl np ng f) (hi : i < 10) (e : ∀ k i s, k ≠ 7 → μ' k b i s = μ k b i s) (ei : ∀ g s, g ≠ i → μ' 7 b g s = μ 7 b g s) (ef : ∀ j, ¬ (132 + 8 * i ≤ j ∧ j < 132 + 8 * i + 8) → f' j = f j) (hg : i < np → pRel μ' b f' i) : Rel μ' b nl np ng f' := by
  obtain ⟨hc, hz, h3, h4, h5, h6⟩ := h
  refine ⟨hc, hz.congr (fun s _ _ => e 2 _ _ (by decide)) (fun k hk => ef _ (by omega)), fun l hl => (h3 l hl).congr (fun s _ => e 6 _ _ (by decide)) (fun k hk => ef _ (by omega)), fun l hl => ?_, fun g hgl => (h5 g hgl).congr (fun s _ => e 3 _ _ (by decide)) (fun k hk => ef _ (by omega)), fun l hl => (h6 l hl).congr (fun g s _ _ => e 3 _ _ (by decide)) (fun k hk hk2 => ef _ (by omega))⟩
  by_cases hgi : l = i
  · subst hgi; exact hg hl
  · exact (h4 l hl).congr (fun s _ => ei l s hgi) (fun k hk => ef _ (by omega))
theorem Rel.lift1 {μ μ' : St} {b nl np ng i : Nat} {f f' : Nat → Int32} (h : Rel μ b nl np ng f) (hi : i < 6) (e : ∀ k i s, k ≠ 6 → μ' k b i s = μ k b i s) (ei : ∀ g s, g ≠ i → μ' 6 b g s = μ 6 b g s) (ef : ∀ j, ¬ (6 + 21 * i ≤ j ∧ j < 6 + 21 * i + 10) → f' j = f j) (hg : i < nl → lRel μ' b f' i) : Rel μ' b nl np ng f' := by
  obtain ⟨hc, hz, h3, h4, h5, h6⟩ := h
  refine ⟨hc, hz.congr (fun s _ _ => e 2 _ _ (by decide)) (fun k hk => ef _ (by omega)), fun l hl => ?_, fun l hl => (h4 l hl).congr (fun s _ => e 7 _ _ (by decide)) (fun k hk => ef _ (by omega)), fun g hgl => (h5 g hgl).congr (fun s _ => e 3 _ _ (by decide)) (fun k hk => ef _ (by omega)), fun l hl => (h6 l hl).congr (fun g s _ _ => e 3 _ _ (by decide)) (fun k hk hk2 => ef _ (by omega))⟩
  by_cases hgi : l = i
  · subst hgi; exact hg hl
  · exact (h3 l hl).congr (fun s _ => ei l s hgi) (fun k hk => ef _ (by omega))
/-- the reference's row -/
abbrev row (μ : St) : Nat → Int32 := fun i => μ 26 0 0 i
/-- a part of the reference that touches its row and its count of arrivals alone -/
def Mt (μ μ' : St) : Prop := ∀ k b i s, k ≠ 26 → (k = 10 → s ≠ 7) → μ' k b i s = μ k b i s
theorem Mt.rfl' (μ : St) : Mt μ μ := fun _ _ _ _ _ _ => rfl
theorem Mt.up26 {μ μ' : St} {j : Nat} {x : Int32} (h : Mt μ μ') : Mt μ (up μ' 26 0 0 j x) := fun k b i s h1 h2 => by rw [up_k h1, h k b i s h1 h2]
theorem Mt.trans {μ μ' μ'' : St} (h : Mt μ μ') (h' : Mt μ' μ'') : Mt μ μ'' := fun k b i s h1 h2 => by rw [h' k b i s h1 h2, h k b i s h1 h2]
theorem Mt.come {μ μ' : St} {x : Int32} (h : Mt μ μ') : Mt μ (up μ' 10 0 0 7 x) := fun k b i s h1 h2 => by
  by_cases hk : k = 10
  · rw [up_sl (h2 hk), h k b i s h1 h2]
  · rw [up_k hk, h k b i s h1 h2]
theorem ms_sp (x : Int32) : nI 2 - msF x = spf x := by
  unfold msF spf
  by_cases h6 : x < nI 6
  · rw [if_pos h6]
    have h9 : x < nI 9 := Int32.lt_trans h6 (by decide)
    rw [if_pos h9, if_pos h6]; rfl
  · rw [if_neg h6]
    by_cases h9 : x < nI 9
    · rw [if_pos h9, if_pos h9, if_neg h6]; rfl
    · rw [if_neg h9, if_neg h9]; rfl
theorem Rel.step {σ μ : St} {b nl np ng l : Nat} (h : Rel σ b nl np ng (row μ)) (hl : l < nl) : nI 2 - msf μ l = spo σ b l := by
  unfold msf spo
  rw [ms_sp, ← h.2.1.1 0 (by decide), ← h.2.2.1 l hl 6 (by decide)]
