/-! ===== the reference's queues: the first so many go ===== -/
/-- what is left of a queue of q when m go from place fr on -/
def DrP (μ μ' : St) (l fr q m : Nat) : Prop := (∀ k b i s, k ≠ 26 → μ' k b i s = μ k b i s) ∧ (∀ j, j ≠ 6 + 21 * l + 10 → ¬ (6 + 21 * l + 11 + fr ≤ j ∧ j < 6 + 21 * l + 11 + (q - m)) → μ' 26 0 0 j = μ 26 0 0 j) ∧ μ' 26 0 0 (6 + 21 * l + 10) = nI (q - m) ∧ ∀ j, fr ≤ j → j < q - m → μ' 26 0 0 (6 + 21 * l + 11 + j) = μ 26 0 0 (6 + 21 * l + 11 + j + m)
section DR
variable (G : Gl)
theorem s_X8_drops {l fr q m : Nat} (hl : l < 6) (hq : q ≤ 10) (hm : m ≤ q) (hf : fr ≤ q - m) (μ : St) (e : μ 26 0 0 (6 + 21 * l + 10) = nI q) : Con G mX8_drops [.ref (zad G.1 10 0 0), .int (nI l), .int (nI fr), .int (nI m)] μ (fun v μ9 => v = none ∧ DrP μ μ9 l fr q m) noX := by
  have T : ∀ d i μ', i + d = q - m → fr ≤ i → ((∀ k b i s, k ≠ 26 → μ' k b i s = μ k b i s) ∧ (∀ j, j ≠ 6 + 21 * l + 10 → ¬ (6 + 21 * l + 11 + fr ≤ j ∧ j < 6 + 21 * l + 11 + i) → μ' 26 0 0 j = μ 26 0 0 j) ∧ μ' 26 0 0 (6 + 21 * l + 10) = nI (q - m) ∧ ∀ j, fr ≤ j → j < i → μ' 26 0 0 (6 + 21 * l + 11 + j) = μ 26 0 0 (6 + 21 * l + 11 + j + m)) → VL G mX8_drops (fun v μ9 => v = none ∧ DrP μ μ9 l fr q m) noX 23 [(0, .ref (zad G.1 10 0 0)), (1, .int (nI l)), (2, .int (nI fr)), (3, .int (nI m)), (4, .int (nI (6 + 21 * l))), (5, .int (nI i))] [] μ' := by
    intro d
    induction d with
    | zero =>
      intro i μ' hi hfi hI
      obtain rfl : i = q - m := by omega
      apply wX8_drops_23 G l hl fr
      exact ⟨fun _ => ⟨rfl, hI⟩, fun h => absurd ((cle hI.2.2.1).mpr (Nat.le_refl _)) h⟩
    | succ d ih =>
      intro i μ' hi hfi hI
      obtain ⟨h1, h2, h3, h4⟩ := hI
      apply wX8_drops_23 G l hl fr
      refine ⟨fun h => absurd ((cle h3).mp h) (by omega), fun _ => ⟨6 + 21 * l + 11 + i + m, by rw [nI_add, nI_add], by omega, 6 + 21 * l + 11 + i, by rw [nI_add], by omega, ?_⟩⟩
      rw [nI_1]
      refine ih (i + 1) _ (by omega) (by omega) ⟨fun k b i s hk => by rw [up_k hk, h1 k b i s hk], fun j hj1 hj2 => by rw [up_sl (by omega), h2 j hj1 (by omega)], by rw [up_sl (by omega), h3], fun j hj1 hj2 => ?_⟩
      by_cases hji : j = i
      · subst hji
        rw [up_self, h2 _ (by omega) (by omega)]
      · rw [up_sl (by omega), h4 j hj1 (by omega)]
  apply wX8_drops G l hl fr
  rw [e, nI_sub hm]
  refine T (q - m - fr) fr _ (by omega) (Nat.le_refl _) ⟨fun k b i s hk => up_k hk, fun j hj1 hj2 => up_sl hj1, up_self _ _ _ _ _ _, fun j hj1 hj2 => absurd hj2 (by omega)⟩
end DR
/-! ===== the reference's cabin ===== -/
def cbg (σ : St) (b : Nat) (f : Nat → Int32) (l g k t : Nat) : Int32 := if gis σ b g (nI 1) (nI l) = true ∧ tN (σ 3 b g 7) < k then (if t = 4 then nI 2 else if t = 6 then nI 2 * σ 6 b l 5 else if t = 7 then f (212 + 10 * g + 7) + nI 1 else f (212 + 10 * g + t)) else f (212 + 10 * g + t)
def CbQ (σ μ μ' : St) (b ng l k : Nat) : Prop := (∀ k b i s, k ≠ 26 → μ' k b i s = μ k b i s) ∧ (∀ j, j < 212 → μ' 26 0 0 j = μ 26 0 0 j) ∧ ∀ g, g < ng → ∀ t, t < 10 → μ' 26 0 0 (212 + 10 * g + t) = cbg σ b (row μ) l g k t
/-- a lift's clock is set back, its cabin counted -/
def cbS (σ : St) (b l : Nat) : St := up (up σ 6 b l 7 (σ 6 b l 7 - nI 2 * σ 6 b l 3)) 6 b l 9 (σ 6 b l 9 + nI 1)
theorem cbS_o {σ : St} {b l k b' i s : Nat} (h : ¬ (k = 6 ∧ b' = b ∧ i = l ∧ (s = 7 ∨ s = 9))) : cbS σ b l k b' i s = σ k b' i s := by
  unfold cbS up
  rw [if_neg (fun z => h ⟨z.1, z.2.1, z.2.2.1, Or.inr z.2.2.2⟩), if_neg (fun z => h ⟨z.1, z.2.1, z.2.2.1, Or.inl z.2.2.2⟩)]
theorem cab_rel {σ μ μ1 μ2 μ9 : St} {b nl np ng l q c : Nat} (hl : l < nl) (hq : q ≤ 10) (hc1 : 1 ≤ c) (hc2 : c ≤ 8) (hcap : σ 6 b l 4 = nI c) (hr : Rel σ b nl np ng (row μ)) (q2 : row μ (6 + 21 * l + 10) = nI q) (q3 : ∀ j, j < q → ∃ g, g < ng ∧ row μ (6 + 21 * l + 11 + j) = nI g ∧ σ 3 b g 4 = nI 1 ∧ σ 3 b g 5 = nI l ∧ σ 3 b g 7 = nI j) (q4 : ∀ g, g < ng → σ 3 b g 4 = nI 1 → σ 3 b g 5 = nI l → ∃ j, j < q ∧ σ 3 b g 7 = nI j ∧ row μ (6 + 21 * l + 11 + j) = nI g)
    (h1 : CbQ σ μ μ1 b ng l (min q c)) (h2 : DrP μ1 μ2 l 0 q (min q c)) (h9 : μ9 = up (up (up μ2 26 0 0 (6 + 21 * l + 8) (μ2 26 0 0 (6 + 21 * l + 8) + nI (min q c))) 26 0 0 (6 + 21 * l + 9) (μ2 26 0 0 (6 + 21 * l + 9) + nI 1)) 26 0 0 (6 + 21 * l + 7) (μ2 26 0 0 (6 + 21 * l + 7) - nI 2 * μ2 26 0 0 (6 + 21 * l + 3))) : Rel (bcF b l ng (cbS σ b l)) b nl np ng (row μ9) := by
  obtain ⟨hc, hz, h3, h4, h5, h6⟩ := hr
  obtain ⟨a1, a2, a3⟩ := h1
  obtain ⟨d1, d2, d3, d4⟩ := h2
  obtain ⟨b1, b2, b3⟩ := bcF_cf (cbS σ b l) b l ng
  have hl6 : l < 6 := by omega
  -- the row's places that nothing touched
  have rlow : ∀ j, j < 212 → ¬ (6 + 21 * l + 7 ≤ j ∧ j < 6 + 21 * l + 21) → row μ9 j = row μ j := fun j hj hn => by
    show μ9 26 0 0 j = _
    rw [h9, up_sl (by omega), up_sl (by omega), up_sl (by omega), d2 j (by omega) (by omega), a2 j hj]
  have r8 : ∀ j, j < 10 → μ2 26 0 0 (6 + 21 * l + j) = σ 6 b l j := fun j hj => by
    rw [d2 _ (by omega) (by omega), a2 _ (by omega)]; exact h3 l hl j hj
  have rg : ∀ g, g < ng → ∀ t, t < 10 → row μ9 (212 + 10 * g + t) = cbg σ b (row μ) l g (min q c) t := fun g hg t ht => by
    show μ9 26 0 0 _ = _
    rw [h9, up_sl (by omega), up_sl (by omega), up_sl (by omega), d2 _ (by omega) (by omega), a3 g hg t ht]
  -- the guests
  have egi : ∀ g x y, gis (cbS σ b l) b g x y = gis σ b g x y := fun g x y => by unfold gis; rw [cbS_o (fun z => by cases z.1), cbS_o (fun z => by cases z.1)]
  have e4 : cbS σ b l 6 b l 4 = nI c := by rw [cbS_o (fun z => by rcases z.2.2.2 with h | h <;> cases h), hcap]
  have e5 : cbS σ b l 6 b l 5 = σ 6 b l 5 := cbS_o (fun z => by rcases z.2.2.2 with h | h <;> cases h)
  have ebg : ∀ g s, bg (cbS σ b l) b l g s = if gis σ b g (nI 1) (nI l) = true then (if nI c ≤ σ 3 b g 7 then (if s = 7 then σ 3 b g 7 - nI c else σ 3 b g s) else (if s = 4 then nI 2 else if s = 5 then nI l else if s = 6 then nI 2 * σ 6 b l 5 else if s = 7 then nI 0 else if s = 8 then σ 3 b g 8 + nI 1 else σ 3 b g s)) else σ 3 b g s := fun g s => by
    unfold bg
    rw [egi, e4, e5]
    simp only [show ∀ t, cbS σ b l 3 b g t = σ 3 b g t from fun t => cbS_o (fun z => by cases z.1)]
  have hcn : cn (bp (cbS σ b l) b l) ng = min q c := by
    rw [← Que.count hc.2.2 hq q3 q4 (min q c) (Nat.min_le_left _ _)]
    refine cn_ext ng (fun g hg => ?_)
    unfold bp
    rw [egi, e4, show cbS σ b l 3 b g 7 = σ 3 b g 7 from cbS_o (fun z => by cases z.1)]
    by_cases hp : gis σ b g (nI 1) (nI l) = true
    · obtain ⟨g1, g2⟩ := gis_y hp
      obtain ⟨j, hj, j1, j2⟩ := q4 g hg g1 g2
      rw [hp, j1, tN_nI (by omega), Bool.true_and, Bool.true_and]
      rcases Nat.lt_or_ge j c with h | h
      · rw [decide_eq_false (fun z => by have := (nI_leI (by omega) (by omega)).mp z; omega), decide_eq_true (by omega)]; rfl
      · rw [decide_eq_true ((nI_leI (by omega) (by omega)).mpr h), decide_eq_false (by omega)]; rfl
    · rw [Bool.not_eq_true] at hp
      rw [hp]; rfl
  refine ⟨hc, hz.congr (fun s _ _ => ?_) (fun k hk => rlow k (by omega) (by omega)), fun l' hl' => ?_, fun p hp => (h4 p hp).congr (fun s _ => ?_) (fun k hk => rlow _ (by omega) (by omega)), fun g hg => ?_, fun l' hl' => ?_⟩
  · rw [b1 _ _ _ _ (fun z => by cases z.1) (fun z => by cases z.1), cbS_o (fun z => by cases z.1)]
  · by_cases hll : l' = l
    · subst hll
      intro k hk
      by_cases h8 : k = 8
      · subst h8
        rw [b3, hcn, cbS_o (fun z => by rcases z.2.2.2 with h | h <;> cases h)]
        show μ9 26 0 0 _ = _
        rw [h9, up_sl (by omega), up_sl (by omega), up_self, r8 8 (by decide)]
      · rw [b1 _ _ _ _ (fun z => by cases z.1) (fun z => h8 z.2.2.2)]
        show μ9 26 0 0 _ = _
        rw [h9]
        unfold cbS
        by_cases h7 : k = 7
        · subst h7
          rw [up_self, up_sl (by decide), up_self, r8 7 (by decide), r8 3 (by decide)]
        · by_cases h9' : k = 9
          · subst h9'
            rw [up_sl (by omega), up_self, up_self, r8 9 (by decide)]
          · rw [up_sl (by omega), up_sl (by omega), up_sl (by omega), up_sl h9', up_sl h7, r8 k hk]
    · refine (h3 l' hl').congr (fun s _ => ?_) (fun k hk => rlow _ (by omega) (by omega))
      rw [b1 _ _ _ _ (fun z => by cases z.1) (fun z => hll z.2.2.1), cbS_o (fun z => hll z.2.2.1)]
  · rw [b1 _ _ _ _ (fun z => by cases z.1) (fun z => by cases z.1), cbS_o (fun z => by cases z.1)]
  · obtain ⟨g1, g2, g3, g4⟩ := h5 g hg
    have eb : ∀ s, bcF b l ng (cbS σ b l) 3 b g s = bg (cbS σ b l) b l g s := b2 g hg
    by_cases hp : gis σ b g (nI 1) (nI l) = true
    · obtain ⟨p1, p2⟩ := gis_y hp
      obtain ⟨j, hj, j1, j2⟩ := q4 g hg p1 p2
      have p4 : ¬ σ 3 b g 4 = nI 4 := by rw [p1]; exact nI_ne (by decide)
      rcases Nat.lt_or_ge j c with h | h
      · have n0 : ¬ nI c ≤ σ 3 b g 7 := fun z => by rw [j1] at z; have := (nI_leI (by omega) (by omega)).mp z; omega
        have ec : ∀ t, cbg σ b (row μ) l g (min q c) t = if t = 4 then nI 2 else if t = 6 then nI 2 * σ 6 b l 5 else if t = 7 then row μ (212 + 10 * g + 7) + nI 1 else row μ (212 + 10 * g + t) := fun t => by
          unfold cbg
          rw [if_pos ⟨hp, by rw [j1, tN_nI (by omega)]; omega⟩]
        refine ⟨fun k hk => ?_, fun _ => ?_, ?_, fun k hk => ?_⟩
        · rw [rg g hg k (by omega), ec, eb, ebg, if_pos hp, if_neg n0]
          by_cases h4 : k = 4
          · rw [if_pos h4, if_pos h4]
          · rw [if_neg h4, if_neg (by omega), if_neg (by omega), if_neg h4, if_neg (by omega), if_neg (by omega), if_neg (by omega), if_neg (by omega)]; exact g1 k hk
        · rw [rg g hg 5 (by omega), ec, eb, ebg, if_pos hp, if_neg n0, if_neg (by decide), if_neg (by decide), if_neg (by decide), if_neg (by decide), if_pos rfl, ← p2]; exact g2 p4
        · rw [rg g hg 6 (by omega), ec, eb, ebg, if_pos hp, if_neg n0]; rfl
        · rw [Nat.add_assoc, rg g hg (7 + k) (by omega), ec, eb, ebg, if_pos hp, if_neg n0]
          by_cases h7 : k = 0
          · subst h7
            rw [if_neg (by decide), if_neg (by decide), if_pos rfl, if_neg (by decide), if_neg (by decide), if_neg (by decide), if_neg (by decide), if_pos rfl]
            exact congrArg (· + nI 1) (g4 0 (by decide))
          · rw [if_neg (by omega), if_neg (by omega), if_neg (by omega), if_neg (by omega), if_neg (by omega), if_neg (by omega), if_neg (by omega), if_neg (by omega), ← Nat.add_assoc]
            exact g4 k hk
      · have n0 : nI c ≤ σ 3 b g 7 := by rw [j1]; exact (nI_leI (by omega) (by omega)).mpr h
        have ec : ∀ t, cbg σ b (row μ) l g (min q c) t = row μ (212 + 10 * g + t) := fun t => by
          unfold cbg
          rw [if_neg (fun z => by have := z.2; rw [j1, tN_nI (by omega)] at this; omega)]
        have es : ∀ s, ¬ s = 7 → bcF b l ng (cbS σ b l) 3 b g s = σ 3 b g s := fun s hs => by rw [eb, ebg, if_pos hp, if_pos n0, if_neg hs]
        refine ⟨fun k hk => ?_, fun _ => ?_, ?_, fun k hk => ?_⟩
        · rw [rg g hg k (by omega), ec, es k (by omega)]; exact g1 k hk
        · rw [rg g hg 5 (by omega), ec, es 5 (by decide)]; exact g2 p4
        · rw [rg g hg 6 (by omega), ec, es 6 (by decide)]; exact g3
        · rw [Nat.add_assoc, rg g hg (7 + k) (by omega), ec, es (8 + k) (by omega), ← Nat.add_assoc]; exact g4 k hk
    · have es : ∀ s, bcF b l ng (cbS σ b l) 3 b g s = σ 3 b g s := fun s => by rw [eb, ebg, if_neg hp]
      have ec : ∀ t, cbg σ b (row μ) l g (min q c) t = row μ (212 + 10 * g + t) := fun t => by unfold cbg; rw [if_neg (fun z => hp z.1)]
      refine ⟨fun k hk => ?_, fun hx => ?_, ?_, fun k hk => ?_⟩
      · rw [rg g hg k (by omega), ec, es]; exact g1 k hk
      · rw [es] at hx
        rw [rg g hg 5 (by omega), ec, es]; exact g2 hx
      · rw [rg g hg 6 (by omega), ec, es]; exact g3
      · rw [Nat.add_assoc, rg g hg (7 + k) (by omega), ec, es, ← Nat.add_assoc]; exact g4 k hk
  · -- the queues
    have eb : ∀ g, g < ng → ∀ s, bcF b l ng (cbS σ b l) 3 b g s = bg (cbS σ b l) b l g s := b2
    by_cases hll : l' = l
    · subst hll
      have r10 : row μ9 (6 + 21 * l' + 10) = nI (q - min q c) := by
        show μ9 26 0 0 _ = _
        rw [h9, up_sl (by omega), up_sl (by omega), up_sl (by omega), d3]
      have r11 : ∀ j, j < q - min q c → row μ9 (6 + 21 * l' + 11 + j) = row μ (6 + 21 * l' + 11 + (j + min q c)) := fun j hj => by
        show μ9 26 0 0 _ = _
        rw [h9, up_sl (by omega), up_sl (by omega), up_sl (by omega), d4 j (by omega) hj, a2 _ (by omega), Nat.add_assoc]
      refine ⟨q - min q c, by omega, r10, fun j hj => ?_, fun g hg g1 g2 => ?_⟩
      · obtain ⟨g, hg, s1, s2, s3, s4⟩ := q3 (j + min q c) (by omega)
        have hp : gis σ b g (nI 1) (nI l') = true := by unfold gis; rw [s2, s3]; simp
        have n0 : nI c ≤ σ 3 b g 7 := by rw [s4]; exact (nI_leI (by omega) (by omega)).mpr (by omega)
        refine ⟨g, hg, by rw [r11 j hj, s1], ?_, ?_, ?_⟩
        · rw [eb g hg, ebg, if_pos hp, if_pos n0, if_neg (by decide)]; exact s2
        · rw [eb g hg, ebg, if_pos hp, if_pos n0, if_neg (by decide)]; exact s3
        · rw [eb g hg, ebg, if_pos hp, if_pos n0, if_pos rfl, s4, nI_sub (by omega)]; congr 1; omega
      · rw [eb g hg, ebg] at g1 g2
        by_cases hp : gis σ b g (nI 1) (nI l') = true
        · rw [if_pos hp] at g1 g2
          obtain ⟨p1, p2⟩ := gis_y hp
          obtain ⟨j, hj, j1, j2⟩ := q4 g hg p1 p2
          by_cases n0 : nI c ≤ σ 3 b g 7
          · have n1 := n0
            rw [j1] at n1
            have hcj := (nI_leI (by omega) (by omega)).mp n1
            refine ⟨j - c, by omega, ?_, ?_⟩
            · rw [eb g hg, ebg, if_pos hp, if_pos n0, if_pos rfl, j1, nI_sub hcj]
            · rw [r11 _ (by omega), ← j2]; congr 2; omega
          · rw [if_neg n0, if_pos rfl] at g1
            exact absurd g1 (nI_ne (by decide))
        · rw [if_neg hp] at g1 g2
          exact absurd (by unfold gis; rw [g1, g2]; simp) hp
    · obtain ⟨q', s1, s2, s3, s4⟩ := h6 l' hl'
      have no : ∀ g, σ 3 b g 5 = nI l' → ¬ gis σ b g (nI 1) (nI l) = true := fun g hg z => hll (nI_inj (by omega) (by omega) (hg.symm.trans (gis_y z).2))
      refine ⟨q', s1, by rw [rlow _ (by omega) (by omega), s2], fun j hj => ?_, fun g hg g1 g2 => ?_⟩
      · obtain ⟨g, hg, t1, t2, t3, t4⟩ := s3 j hj
        refine ⟨g, hg, by rw [rlow _ (by omega) (by omega), t1], ?_, ?_, ?_⟩
        · rw [eb g hg, ebg, if_neg (no g t3), t2]
        · rw [eb g hg, ebg, if_neg (no g t3), t3]
        · rw [eb g hg, ebg, if_neg (no g t3), t4]
      · rw [eb g hg, ebg] at g1 g2
        by_cases hp : gis σ b g (nI 1) (nI l) = true
        · rw [if_pos hp] at g1 g2
          obtain ⟨p1, p2⟩ := gis_y hp
          by_cases n0 : nI c ≤ σ 3 b g 7
          · rw [if_pos n0, if_neg (by decide), p2] at g2
            exact absurd (nI_inj (by omega) (by omega) g2).symm hll
          · rw [if_neg n0, if_pos rfl] at g1
            exact absurd g1 (nI_ne (by decide))
        · rw [if_neg hp] at g1 g2
          obtain ⟨j, hj, j1, j2⟩ := s4 g hg g1 g2
          exact ⟨j, hj, by rw [eb g hg, ebg, if_neg hp, j1], by rw [rlow _ (by omega) (by omega), j2]⟩
