/-! ===== counting ===== -/
def cn (p : Nat → Bool) : Nat → Nat
  | 0 => 0
  | n + 1 => cn p n + (if p n = true then 1 else 0)
theorem cn_ext {p q : Nat → Bool} : ∀ (n : Nat), (∀ i, i < n → p i = q i) → cn p n = cn q n
  | 0, _ => rfl
  | n + 1, h => by rw [cn, cn, cn_ext n (fun i hi => h i (by omega)), h n (by omega)]
theorem cn_zero {p : Nat → Bool} : ∀ (n : Nat), (∀ i, i < n → ¬ p i = true) → cn p n = 0
  | 0, _ => rfl
  | n + 1, h => by rw [cn, cn_zero n (fun i hi => h i (by omega)), if_neg (h n (by omega))]
theorem cn_le (p : Nat → Bool) : ∀ (n : Nat), cn p n ≤ n
  | 0 => Nat.le_refl _
  | n + 1 => by
    have := cn_le p n
    rw [cn]
    split <;> omega
theorem cn_rm {p : Nat → Bool} {g0 : Nat} (hp : p g0 = true) : ∀ (N : Nat), g0 < N → cn p N = cn (fun g => p g && decide (g ≠ g0)) N + 1
  | 0, h => absurd h (by omega)
  | N + 1, h => by
    by_cases e : g0 = N
    · subst e
      rw [cn, cn, if_pos hp, if_neg (by simp), cn_ext (q := fun g => p g && decide (g ≠ g0)) g0 (fun i hi => by simp [show i ≠ g0 by omega])]
    · have h1 := cn_rm hp N (by omega)
      have e2 : (p N && decide (N ≠ g0)) = p N := by simp [show N ≠ g0 by omega]
      rw [cn, cn, h1, e2]
      omega
theorem cn_bij {f : Nat → Nat} {N : Nat} : ∀ (n : Nat) (p : Nat → Bool), (∀ g, g < N → p g = true → f g < n) → (∀ j, j < n → ∃ g, g < N ∧ p g = true ∧ f g = j) → (∀ g g', g < N → g' < N → p g = true → p g' = true → f g = f g' → g = g') → cn p N = n
  | 0, p, h1, _, _ => cn_zero N (fun i hi hp => absurd (h1 i hi hp) (by omega))
  | n + 1, p, h1, h2, h3 => by
    obtain ⟨g0, hg, hp, hf⟩ := h2 n (by omega)
    rw [cn_rm hp N hg]
    refine congrArg (· + 1) (cn_bij (f := f) n (fun g => p g && decide (g ≠ g0)) (fun g hg' hp' => ?_) (fun j hj => ?_) (fun g g' hg1 hg2 hp1 hp2 e => ?_))
    · simp only [Bool.and_eq_true, decide_eq_true_eq] at hp'
      have h4 := h1 g hg' hp'.1
      have h5 : f g ≠ n := fun e => hp'.2 (h3 g g0 hg' hg hp'.1 hp (by rw [e, hf]))
      omega
    · obtain ⟨g, hg', hp', hf'⟩ := h2 j (by omega)
      refine ⟨g, hg', ?_, hf'⟩
      simp only [Bool.and_eq_true, decide_eq_true_eq]
      exact ⟨hp', fun e => by rw [e, hf] at hf'; omega⟩
    · simp only [Bool.and_eq_true, decide_eq_true_eq] at hp1 hp2
      exact h3 g g' hg1 hg2 hp1.1 hp2.1 e
theorem rn_cn {c : Nat → Bool} (n : Nat) : rn (fun (a : Int32) i => if c i = true then a + 1 else a) 0 n (nI 0) = nI (cn c n) := by
  refine rn_inv (I := fun i (x : Int32) => x = nI (cn c i)) (fun i x hi hx => ?_) n 0 (by omega) (nI 0) rfl
  rw [hx, cn]
  by_cases h : c i = true
  · rw [if_pos h, if_pos h, nI_1]
  · rw [if_neg h, if_neg h]; rfl
/-- those of a queue are as many as the reference says -/
theorem Que.count {σ : St} {b ng l q : Nat} {f : Nat → Int32} (hn : ng ≤ 16) (hq : q ≤ 10) (q3 : ∀ j, j < q → ∃ g, g < ng ∧ f (6 + 21 * l + 11 + j) = nI g ∧ σ 3 b g 4 = nI 1 ∧ σ 3 b g 5 = nI l ∧ σ 3 b g 7 = nI j) (q4 : ∀ g, g < ng → σ 3 b g 4 = nI 1 → σ 3 b g 5 = nI l → ∃ j, j < q ∧ σ 3 b g 7 = nI j ∧ f (6 + 21 * l + 11 + j) = nI g) (m : Nat) (hm : m ≤ q) : cn (fun g => gis σ b g (nI 1) (nI l) && decide (tN (σ 3 b g 7) < m)) ng = m := by
  refine cn_bij (f := fun g => tN (σ 3 b g 7)) m _ (fun g hg hp => ?_) (fun j hj => ?_) (fun g g' hg hg' hp hp' e => ?_)
  · simp only [Bool.and_eq_true, decide_eq_true_eq] at hp
    exact hp.2
  · obtain ⟨g, hg, g1, g2, g3, g4⟩ := q3 j (by omega)
    refine ⟨g, hg, ?_, by show tN _ = _; rw [g4, tN_nI (by omega)]⟩
    simp only [Bool.and_eq_true, decide_eq_true_eq, gis]
    exact ⟨⟨g2, g3⟩, by rw [g4, tN_nI (by omega)]; exact hj⟩
  · simp only [Bool.and_eq_true, decide_eq_true_eq] at hp hp'
    obtain ⟨h1, h2⟩ := gis_y hp.1
    obtain ⟨h1', h2'⟩ := gis_y hp'.1
    obtain ⟨j, hj, j1, j2⟩ := q4 g hg h1 h2
    obtain ⟨j', hj', j1', j2'⟩ := q4 g' hg' h1' h2'
    simp only [j1, j1', tN_nI (show j < 2 ^ 31 by omega), tN_nI (show j' < 2 ^ 31 by omega)] at e
    subst e
    exact nI_inj (by omega) (by omega) (j2.symm.trans j2')
theorem Que.gw {σ : St} {b ng l : Nat} {f : Nat → Int32} (h : Que σ b ng f l) (hn : ng ≤ 16) : gwF σ b (nI 1) (nI l) ng = f (6 + 21 * l + 10) := by
  obtain ⟨q, q1, q2, q3, q4⟩ := h
  rw [q2, gwF, rn_cn (c := fun i => gis σ b i (nI 1) (nI l))]
  congr 1
  rw [← Que.count hn q1 q3 q4 q (Nat.le_refl _)]
  refine cn_ext ng (fun g hg => ?_)
  by_cases hp : gis σ b g (nI 1) (nI l) = true
  · obtain ⟨h1, h2⟩ := gis_y hp
    obtain ⟨j, hj, j1, j2⟩ := q4 g hg h1 h2
    rw [hp, j1, tN_nI (by omega), decide_eq_true hj]; rfl
  · rw [Bool.not_eq_true] at hp
    rw [hp]; rfl
/-! ===== a cabin's guests, at once ===== -/
def bg (σ : St) (b l g s : Nat) : Int32 := if gis σ b g (nI 1) (nI l) = true then (if σ 6 b l 4 ≤ σ 3 b g 7 then (if s = 7 then σ 3 b g 7 - σ 6 b l 4 else σ 3 b g s) else (if s = 4 then nI 2 else if s = 5 then nI l else if s = 6 then nI 2 * σ 6 b l 5 else if s = 7 then nI 0 else if s = 8 then σ 3 b g 8 + nI 1 else σ 3 b g s)) else σ 3 b g s
def bp (σ : St) (b l g : Nat) : Bool := gis σ b g (nI 1) (nI l) && !decide (σ 6 b l 4 ≤ σ 3 b g 7)
def BcI (σ x : St) (b l i : Nat) : Prop := (∀ k b' g s, ¬ (k = 3 ∧ b' = b ∧ g < i) → ¬ (k = 6 ∧ b' = b ∧ g = l ∧ s = 8) → x k b' g s = σ k b' g s) ∧ (∀ g, g < i → ∀ s, x 3 b g s = bg σ b l g s) ∧ x 6 b l 8 = σ 6 b l 8 + nI (cn (bp σ b l) i)
theorem bcF_cf (σ : St) (b l ng : Nat) : BcI σ (bcF b l ng σ) b l ng := by
  refine rn_inv (I := fun i x => BcI σ x b l i) (fun i x hi hx => ?_) ng 0 (by omega) σ ⟨fun _ _ _ _ _ _ => rfl, fun g hg => absurd hg (by omega), ?_⟩
  · obtain ⟨h1, h2, h3⟩ := hx
    have eg : ∀ s, x 3 b i s = σ 3 b i s := fun s => h1 3 b i s (fun z => absurd z.2.2 (by omega)) (fun z => by cases z.1)
    have e4 : x 6 b l 4 = σ 6 b l 4 := h1 6 b l 4 (fun z => by cases z.1) (fun z => by cases z.2.2.2)
    have e5 : x 6 b l 5 = σ 6 b l 5 := h1 6 b l 5 (fun z => by cases z.1) (fun z => by cases z.2.2.2)
    have egi : gis x b i (nI 1) (nI l) = gis σ b i (nI 1) (nI l) := by unfold gis; rw [eg, eg]
    unfold bcS
    rw [egi, e4, eg 7, e5]
    by_cases hp : gis σ b i (nI 1) (nI l) = true
    · rw [if_pos hp]
      by_cases h0 : σ 6 b l 4 ≤ σ 3 b i 7
      · rw [if_pos h0]
        refine ⟨fun k b' g s n1 n2 => ?_, fun g hg s => ?_, ?_⟩
        · by_cases hk : k = 3 ∧ b' = b ∧ g = i
          · exact absurd ⟨hk.1, hk.2.1, by omega⟩ n1
          · rw [show up x 3 b i 7 (σ 3 b i 7 - σ 6 b l 4) k b' g s = x k b' g s by unfold up; rw [if_neg (fun z => hk ⟨z.1, z.2.1, z.2.2.1⟩)], h1 k b' g s (fun z => n1 ⟨z.1, z.2.1, by omega⟩) n2]
        · by_cases hgi : g = i
          · subst hgi
            unfold bg
            rw [if_pos hp, if_pos h0]
            by_cases h7 : s = 7
            · subst h7; rw [up_self, if_pos rfl]
            · rw [up_sl h7, if_neg h7, eg]
          · rw [up_i hgi, h2 g (by omega)]
        · rw [up_k (by decide), h3, cn, if_neg (by simp [bp, h0])]; rfl
      · rw [if_neg h0]
        refine ⟨fun k b' g s n1 n2 => ?_, fun g hg s => ?_, ?_⟩
        · have hk : ¬ (k = 3 ∧ b' = b ∧ g = i) := fun z => n1 ⟨z.1, z.2.1, by omega⟩
          rw [show ∀ (y : St) w, up y 6 b l 8 w k b' g s = y k b' g s from fun y w => by unfold up; rw [if_neg n2], show ∀ (y : St) w, up y 3 b i 8 w k b' g s = y k b' g s from fun y w => by unfold up; rw [if_neg (fun z => hk ⟨z.1, z.2.1, z.2.2.1⟩)], gbc_r, if_neg hk, h1 k b' g s (fun z => n1 ⟨z.1, z.2.1, by omega⟩) n2]
        · rw [up_k (by decide)]
          by_cases hgi : g = i
          · subst hgi
            unfold bg
            rw [if_pos hp, if_neg h0]
            by_cases h8 : s = 8
            · subst h8; rw [up_self, gbc_o (by decide), eg]; rfl
            · rw [up_sl h8, gbc_r, if_pos ⟨rfl, rfl, rfl⟩, if_neg h8, eg]
          · rw [up_i hgi, gbc_i hgi, h2 g (by omega)]
        · rw [up_self, gbc_k (by decide), h3, cn, if_pos (by simp [bp, h0, hp]), Int32.add_assoc, nI_add]
    · rw [if_neg hp]
      refine ⟨fun k b' g s n1 n2 => h1 k b' g s (fun z => n1 ⟨z.1, z.2.1, by omega⟩) n2, fun g hg s => ?_, ?_⟩
      · by_cases hgi : g = i
        · subst hgi
          unfold bg
          rw [if_neg hp, eg]
        · rw [h2 g (by omega)]
      · rw [h3, cn, if_neg (by simp [bp, hp])]; rfl
  · rw [cn, nI_0, Int32.add_zero]
