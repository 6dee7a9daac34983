/-! ===== what changes keep sound ===== -/
theorem nI_div {a c : Nat} (ha : a < 2 ^ 31) (hc : c < 2 ^ 31) (h0 : 0 < c) : nI a / nI c = nI (a / c) := by
  refine Int32.toInt_inj.mp ?_
  have hd : a / c ≤ a := Nat.div_le_self a c
  rw [Int32.toInt_div, nI_toInt ha, nI_toInt hc, nI_toInt (by omega), Int.tdiv_eq_ediv_of_nonneg (by omega), show (a : Int) / (c : Int) = ((a / c : Nat) : Int) from (Int.natCast_ediv a c).symm]
  generalize a / c = q at hd
  exact Int.bmod_eq_of_le (by omega) (by omega)
section CH5
variable {σ : St} {b nl np ng W : Nat}
theorem we_ok (hR : Rok σ b nl np ng W) (hn : ng < 16) {x1 x2 x3 x4 x5 : Int32} (n1 : isN x1 0 7) (n2 : isN x2 1 3) : Rok (weF σ b ng x1 x2 x3 x4 x5) b nl np (ng + 1) W := by
  obtain ⟨⟨c1, c2, c3⟩, ⟨w1, w2⟩, h3, h4, h5⟩ := hR
  refine ⟨⟨?_, ?_, ⟨weF_2 _ _ _ _ _ _ _ _, by omega⟩⟩, ⟨?_, ?_⟩, fun l hl => (h3 l hl).congr (fun s hs => weF_o _ _ _ _ _ _ _ _ (by omega) (by omega)), fun p hp => (h4 p hp).congr (fun s hs => weF_o _ _ _ _ _ _ _ _ (by omega) (by omega)), fun g hg => ?_⟩
  · rw [weF_o _ _ _ _ _ _ _ _ (by omega) (by omega)]; exact c1
  · rw [weF_o _ _ _ _ _ _ _ _ (by omega) (by omega)]; exact c2
  · rw [weF_o _ _ _ _ _ _ _ _ (by omega) (by omega)]; exact w1
  · rw [weF_o _ _ _ _ _ _ _ _ (by omega) (by omega)]; exact w2
  · by_cases hgn : g = ng
    · subst hgn
      refine ⟨?_, Or.inl ⟨?_, ?_, ?_⟩⟩
      · rw [weF_3 _ _ _ _ _ _ _ _ _ (by decide)]; exact n2
      · rw [weF_3 _ _ _ _ _ _ _ _ _ (by decide)]; rfl
      · rw [weF_3 _ _ _ _ _ _ _ _ _ (by decide)]; exact n1
      · rw [weF_3 _ _ _ _ _ _ _ _ _ (by decide)]; rfl
    · exact (h5 g (by omega)).congr (fun s hs => weF_o _ _ _ _ _ _ _ _ (by omega) (by omega))
theorem jq_ok (hR : Rok σ b nl np ng W) {g l q : Nat} (hg : g < ng) (hl : l < nl) (hw : gwF σ b (nI 1) (nI l) ng = nI q) (q9 : q < 10) : Rok (jqF σ b g l ng) b nl np ng W := by
  unfold jqF
  rw [hw]
  refine hR.guest1 (i := g) (fun k i s hk => gbc_k hk) (fun g' s hg' => gbc_i hg') (fun _ => ⟨by rw [gbc_o (by decide)]; exact (hR.2.2.2.2 g hg).1, Or.inr (Or.inl ⟨gbc_4, ⟨l, hl, gbc_5⟩, gbc_6, ?_⟩)⟩)
  rw [gbc_7]; exact ⟨q, by omega, by omega, rfl⟩
theorem rfo_n (hR : Rok σ b nl np ng W) {g p : Nat} (hp : p < np) : isN (rfo σ b p g) 1 18 := by
  obtain ⟨-, -, -, ⟨x, x1, x2, x3⟩, -⟩ := hR.2.2.2.1 p hp
  unfold rfo
  rw [x3, pk_mul]
  split
  · exact ⟨2 * x, by omega, by omega, rfl⟩
  · exact ⟨x, by omega, by omega, rfl⟩
theorem sp_ok (hR : Rok σ b nl np ng W) {g p : Nat} (hg : g < ng) (hp : p < np) : Rok (spF σ b g p) b nl np ng (W + 3) := by
  have hrf := rfo_n hR (g := g) hp
  unfold spF
  have h1 : Rok (up (gbc σ b g (nI 3) (nI p) (rfo σ b p g) (nI 0)) 3 b g 9 (σ 3 b g 9 + nI 1)) b nl np ng W := by
    refine hR.guest1 (i := g) (fun k i s hk => by rw [up_k hk, gbc_k hk]) (fun g' s hg' => by rw [up_i hg', gbc_i hg']) (fun _ => ⟨by rw [up_sl (by decide), gbc_o (by decide)]; exact (hR.2.2.2.2 g hg).1, Or.inr (Or.inr (Or.inr (Or.inl ⟨by rw [up_sl (by decide), gbc_4], ⟨p, hp, by rw [up_sl (by decide), gbc_5]⟩, by rw [up_sl (by decide), gbc_6]; exact hrf⟩)))⟩)
  obtain ⟨p1, p2, p3, p4, p5, p6, p7⟩ := hR.2.2.2.1 p hp
  have q7 : ∀ s, up (gbc σ b g (nI 3) (nI p) (rfo σ b p g) (nI 0)) 3 b g 9 (σ 3 b g 9 + nI 1) 7 b p s = σ 7 b p s := fun s => by rw [up_k (by decide), gbc_k (by decide)]
  have r : ∀ s, s ≠ 5 → s ≠ 7 → up (up (up (gbc σ b g (nI 3) (nI p) (rfo σ b p g) (nI 0)) 3 b g 9 (σ 3 b g 9 + nI 1)) 7 b p 7 (σ 7 b p 7 + nI 1)) 7 b p 5 (σ 7 b p 5 + σ 7 b p 2) 7 b p s = σ 7 b p s := fun s s1 s2 => by rw [up_sl s1, up_sl s2, q7]
  refine h1.piste1 (i := p) (by omega) (fun k i s hk => by rw [up_k hk, up_k hk]) (fun p' s hp' => by rw [up_i hp', up_i hp']) (fun _ => ⟨?_, ?_, ?_, ?_, ?_, ?_, fun z => ?_⟩)
  · rw [r _ (by decide) (by decide)]; exact p1
  · rw [r _ (by decide) (by decide)]; exact p2
  · rw [r _ (by decide) (by decide)]; exact p3
  · rw [r _ (by decide) (by decide)]; exact p4
  · rw [r _ (by decide) (by decide)]; exact p5
  · rw [up_self]
    obtain ⟨x, x1, x2, x3⟩ := p6
    obtain ⟨y, y1, y2, y3⟩ := p3
    rw [x3, y3, nI_add]
    exact ⟨x + y, by omega, by omega, rfl⟩
  · rw [r _ (by decide) (by decide)] at z
    rw [r _ (by decide) (by decide)]
    exact (p7 z).mono (by omega) (by omega)
theorem aw_ok (hR : Rok σ b nl np ng W) {g : Nat} (hg : g < ng) : Rok (gbc σ b g (nI 4) (-1) (nI 0) (nI 0)) b nl np ng W := by
  refine hR.guest1 (i := g) (fun k i s hk => gbc_k hk) (fun g' s hg' => gbc_i hg') (fun _ => ⟨by rw [gbc_o (by decide)]; exact (hR.2.2.2.2 g hg).1, Or.inr (Or.inr (Or.inr (Or.inr ⟨gbc_4, gbc_5, gbc_6⟩)))⟩)
theorem rf_ok (hR : Rok σ b nl np ng W) {g : Nat} {x : Int32} : Rok (up σ 3 b g 10 x) b nl np ng W := by
  refine hR.guest1 (i := g) (fun k i s hk => up_k hk) (fun g' s hg' => up_i hg') (fun hg => ?_)
  have h := hR.2.2.2.2 g hg
  unfold gOk at h ⊢
  rw [up_sl (by decide), up_sl (by decide), up_sl (by decide), up_sl (by decide), up_sl (by decide)]
  exact h
theorem lq_ok (hR : Rok σ b nl np ng W) {g l : Nat} (hg : g < ng) (hl : l < nl) (h4 : σ 3 b g 4 = nI 1) : Rok (lqF b g l ng σ) b nl np ng W := by
  obtain ⟨x1, x2⟩ := lqS_cf σ b g ng
  obtain ⟨-, -, ⟨z, z1, z2, z3⟩⟩ := (hR.2.2.2.2 g hg).waits h4
  have xo : ∀ k i s, ¬ (k = 3 ∧ s = 7) → rn (lqS b g) 0 ng σ k b i s = σ k b i s := fun k i s hk => x1 k b i s (fun z => hk ⟨z.1, z.2.2⟩)
  unfold lqF
  rw [xo 6 l 0 (by omega)]
  have h7 : ∀ i, isN (σ 3 b i 7) 0 9 → isN (rn (lqS b g) 0 ng σ 3 b i 7) 0 9 := fun i h => by
    rw [x2]
    by_cases c : i < ng ∧ gis σ b i (nI 1) (σ 3 b g 5) = true ∧ ¬ σ 3 b i 7 ≤ σ 3 b g 7
    · rw [if_pos c]
      obtain ⟨y, y1, y2, y3⟩ := h
      have hc := c.2.2
      rw [y3, z3, nI_leI (by omega) (by omega)] at hc
      rw [y3, nI_sub (by omega)]
      exact ⟨y - 1, by omega, by omega, rfl⟩
    · rw [if_neg c]; exact h
  generalize rn (lqS b g) 0 ng σ = x at *
  refine hR.guests (fun k i s hk => by rw [gbc_k hk, xo _ _ _ (by omega)]) (fun i hi => ?_)
  have hi5 := hR.2.2.2.2 i hi
  by_cases hig : i = g
  · subst hig
    exact ⟨by rw [gbc_o (by decide), xo _ _ _ (by omega)]; exact hi5.1, Or.inl ⟨gbc_4, by rw [gbc_5]; exact (hR.2.2.1 l hl).1, gbc_6⟩⟩
  · unfold gOk at hi5 ⊢
    rw [gbc_i hig, gbc_i hig, gbc_i hig, gbc_i hig, gbc_i hig, xo _ _ _ (by omega), xo _ _ _ (by omega), xo _ _ _ (by omega), xo _ _ _ (by omega)]
    refine ⟨hi5.1, ?_⟩
    rcases hi5.2 with h | ⟨a, c, d, e⟩ | h | h | h
    · exact Or.inl h
    · exact Or.inr (Or.inl ⟨a, c, d, h7 i e⟩)
    · exact Or.inr (Or.inr (Or.inl h))
    · exact Or.inr (Or.inr (Or.inr (Or.inl h)))
    · exact Or.inr (Or.inr (Or.inr (Or.inr h)))
theorem cd_ok (hR : Rok σ b nl np ng W) (hd : isN (σ 2 b 0 8) 0 999) : Rok (cdF b nl np ng σ) b nl np ng W := by
  obtain ⟨⟨c1, c2, c3⟩, ⟨w1, w2⟩, h3, h4, h5⟩ := hR
  have e2 : ∀ s, s < 7 → cdF b nl np ng σ 2 b 0 s = σ 2 b 0 s := fun s hs => by
    rw [cdF_cf]
    repeat (first | rw [if_neg (by omega)] | rw [if_pos (by omega)])
  refine ⟨⟨by rw [e2 _ (by decide)]; exact c1, by rw [e2 _ (by decide)]; exact c2, by rw [e2 _ (by decide)]; exact c3⟩, ⟨by rw [e2 _ (by decide)]; exact w1, ?_⟩, fun l hl => ?_, fun p hp => ?_, fun g hg => ?_⟩
  · obtain ⟨d, d1, d2, d3⟩ := hd
    rw [cdF_cf, if_pos ⟨rfl, rfl, rfl, rfl⟩, d3, nI_add]
    exact ⟨d + 1, by omega, by omega, rfl⟩
  · have e : ∀ s, cdF b nl np ng σ 6 b l s = if s = 7 then nI 0 else σ 6 b l s := fun s => by
      rw [cdF_cf, if_neg (by omega), if_neg (by omega), if_neg (by omega)]
      by_cases hs : s = 7
      · rw [if_pos hs, if_pos ⟨rfl, rfl, hl, hs⟩]
      · rw [if_neg hs, if_neg (fun z => hs z.2.2.2), if_neg (by omega)]
    obtain ⟨q1, q2, q3, q4, q5, q6, v, c, v1, v2, v3, v4, v5⟩ := h3 l hl
    refine ⟨?_, ?_, ?_, ?_, ?_, ?_, v, 0, v1, v2, by omega, ?_, ?_⟩
    all_goals first | (rw [e, if_pos rfl]) | (rw [e, if_neg (by decide)]; assumption)
  · have e : ∀ s, cdF b nl np ng σ 7 b p s = if (4 ≤ s ∧ s ≤ 6) ∧ σ 7 b p 4 = nI 2 then nI 0 else σ 7 b p s := fun s => by
      rw [cdF_cf, if_neg (by omega), if_neg (by omega)]
      by_cases hs : (4 ≤ s ∧ s ≤ 6) ∧ σ 7 b p 4 = nI 2
      · rw [if_pos hs, if_pos ⟨rfl, rfl, hp, hs⟩]
      · rw [if_neg hs, if_neg (fun z => hs z.2.2.2), if_neg (by omega), if_neg (by omega)]
    obtain ⟨q1, q2, q3, q4, q5, q6, q7⟩ := h4 p hp
    by_cases hs : σ 7 b p 4 = nI 2
    · refine ⟨?_, ?_, ?_, ?_, ?_, ?_, fun z => ?_⟩
      · rw [e, if_neg (by omega)]; exact q1
      · rw [e, if_neg (by omega)]; exact q2
      · rw [e, if_neg (by omega)]; exact q3
      · rw [e, if_neg (by omega)]; exact q4
      · rw [e, if_pos ⟨by omega, hs⟩]; exact ⟨0, by omega, by omega, rfl⟩
      · rw [e, if_pos ⟨by omega, hs⟩]; exact ⟨0, by omega, by omega, rfl⟩
      · rw [e, if_pos ⟨by omega, hs⟩] at z
        exact absurd z (nI_ne (by decide))
    · have e' : ∀ s, cdF b nl np ng σ 7 b p s = σ 7 b p s := fun s => by rw [e, if_neg (fun z => hs z.2)]
      exact (show pOk σ b W p from ⟨q1, q2, q3, q4, q5, q6, q7⟩).congr (fun s _ => e' s)
  · have e : ∀ s, cdF b nl np ng σ 3 b g s = if s = 4 then nI 4 else if s = 5 then -1 else if s = 6 then nI 0 else if s = 7 then nI 0 else σ 3 b g s := fun s => by
      rw [cdF_cf, if_neg (by omega), if_neg (by omega), if_neg (by omega), if_neg (by omega), if_pos ⟨rfl, rfl, hg⟩]
    refine ⟨by rw [e]; exact (h5 g hg).1, Or.inr (Or.inr (Or.inr (Or.inr ⟨by rw [e]; rfl, by rw [e]; rfl, by rw [e]; rfl⟩)))⟩
theorem wind_ok (hR : Rok σ b nl np ng W) {x : Int32} (hx : isN x 0 9) : Rok (up σ 2 b 0 6 x) b nl np ng W := by
  obtain ⟨⟨c1, c2, c3⟩, ⟨w1, w2⟩, h3, h4, h5⟩ := hR
  exact ⟨⟨by rw [up_sl (by decide)]; exact c1, by rw [up_sl (by decide)]; exact c2, by rw [up_sl (by decide)]; exact c3⟩, ⟨by rw [up_self]; exact hx, by rw [up_sl (by decide)]; exact w2⟩, fun l hl => (h3 l hl).congr (fun s _ => up_k (by decide)), fun l hl => (h4 l hl).congr (fun s _ => up_k (by decide)), fun l hl => (h5 l hl).congr (fun s _ => up_k (by decide))⟩
theorem wind_rel {f f' : Nat → Int32} (h : Rel σ b nl np ng f) {x : Int32} (ff : ∀ j, f' j = if j = 0 then x else f j) : Rel (up σ 2 b 0 6 x) b nl np ng f' := by
  obtain ⟨hc, hz, h3, h4, h5, h6⟩ := h
  have fo : ∀ j, j ≠ 0 → f' j = f j := fun j hj => by rw [ff, if_neg hj]
  refine ⟨hc, ⟨fun k hk => ?_, fun k hk => ?_⟩, fun l hl => (h3 l hl).congr (fun s _ => up_k (by decide)) (fun k hk => fo _ (by omega)), fun l hl => (h4 l hl).congr (fun s _ => up_k (by decide)) (fun k hk => fo _ (by omega)), fun l hl => (h5 l hl).congr (fun s _ => up_k (by decide)) (fun k hk => fo _ (by omega)), fun l hl => (h6 l hl).congr (fun g s _ _ => up_k (by decide)) (fun k hk hk2 => fo _ (by omega))⟩
  · by_cases hk0 : k = 0
    · subst hk0
      rw [up_self, ff, if_pos rfl]
    · rw [fo _ hk0, up_sl (by omega), hz.1 k hk]
  · rw [fo _ (by omega), up_sl (by omega), hz.2 k hk]
theorem open_ok (hR : Rok σ b nl np ng W) {p : Nat} {x : Int32} (hx : x = nI 0 ∨ x = nI 1) : Rok (up (up σ 7 b p 4 x) 7 b p 6 (nI 0)) b nl np ng W := by
  refine hR.piste1 (i := p) (Nat.le_refl _) (fun k i s hk => by rw [up_k hk, up_k hk]) (fun p' s hp' => by rw [up_i hp', up_i hp']) (fun hp => ?_)
  obtain ⟨p1, p2, p3, p4, p5, p6, p7⟩ := hR.2.2.2.1 p hp
  refine ⟨?_, ?_, ?_, ?_, ?_, ?_, fun z => ?_⟩
  · rw [up_sl (by decide), up_sl (by decide)]; exact p1
  · rw [up_sl (by decide), up_sl (by decide)]; exact p2
  · rw [up_sl (by decide), up_sl (by decide)]; exact p3
  · rw [up_sl (by decide), up_sl (by decide)]; exact p4
  · rw [up_sl (by decide), up_self]
    rcases hx with rfl | rfl
    · exact ⟨0, by omega, by omega, rfl⟩
    · exact ⟨1, by omega, by omega, rfl⟩
  · rw [up_sl (by decide), up_sl (by decide)]; exact p6
  · rw [up_sl (by decide), up_self] at z
    rcases hx with rfl | rfl
    · exact absurd z (nI_ne (by decide))
    · exact absurd z (nI_ne (by decide))
theorem open_rel {f f' : Nat → Int32} (h : Rel σ b nl np ng f) {p : Nat} (hp : p < np) {x y : Int32} (ff : ∀ j, f' j = if j = 132 + 8 * p + 6 then y else if j = 132 + 8 * p + 4 then x else f j) : Rel (up (up σ 7 b p 4 x) 7 b p 6 y) b nl np ng f' := by
  have hc := h.1
  refine h.piste1 (i := p) (by omega) (fun k i s hk => by rw [up_k hk, up_k hk]) (fun p' s hp' => by rw [up_i hp', up_i hp']) (fun j hj => ?_) (fun _ => fun k hk => ?_)
  · rw [ff, if_neg (by omega), if_neg (by omega)]
  · have hs := h.2.2.2.1 p hp k hk
    by_cases h6 : k = 6
    · subst h6
      rw [up_self, ff, if_pos rfl]
    · by_cases h4 : k = 4
      · subst h4
        rw [up_sl (by decide), up_self, ff, if_neg (by omega), if_pos rfl]
      · rw [up_sl h6, up_sl h4, ff, if_neg (by omega), if_neg (by omega), hs]
theorem groom_ok (hR : Rok σ b nl np ng W) (hW : W < 2 ^ 30) {p : Nat} (hp : p < np) : Rok (up (up σ 7 b p 4 (nI 2)) 7 b p 6 (nI 1 + σ 7 b p 5 / nI 5)) b nl np ng W := by
  refine hR.piste1 (i := p) (Nat.le_refl _) (fun k i s hk => by rw [up_k hk, up_k hk]) (fun p' s hp' => by rw [up_i hp', up_i hp']) (fun hp => ?_)
  obtain ⟨p1, p2, p3, p4, p5, p6, p7⟩ := hR.2.2.2.1 p hp
  refine ⟨?_, ?_, ?_, ?_, ?_, ?_, fun z => ?_⟩
  · rw [up_sl (by decide), up_sl (by decide)]; exact p1
  · rw [up_sl (by decide), up_sl (by decide)]; exact p2
  · rw [up_sl (by decide), up_sl (by decide)]; exact p3
  · rw [up_sl (by decide), up_sl (by decide)]; exact p4
  · rw [up_sl (by decide), up_self]; exact ⟨2, by omega, by omega, rfl⟩
  · rw [up_sl (by decide), up_sl (by decide)]; exact p6
  · rw [up_self]
    obtain ⟨w, w1, w2, w3⟩ := p6
    rw [w3, nI_div (by omega) (by decide) (by decide), nI_add]
    have := Nat.div_le_self w 5
    exact ⟨1 + w / 5, by omega, by omega, rfl⟩
end CH5
