/-! ===== one tick, guest by guest ===== -/
section TK1
variable {σ : St} {b nl np ng W : Nat}
def mrG (σ : St) (b g s : Nat) : Int32 := if σ 3 b g 4 = nI 2 then (if 0 < σ 3 b g 6 - spo σ b (tN (σ 3 b g 5)) then (if s = 6 then σ 3 b g 6 - spo σ b (tN (σ 3 b g 5)) else σ 3 b g s) else (if s = 4 then nI 0 else if s = 5 then σ 6 b (tN (σ 3 b g 5)) 1 else if s = 6 then nI 0 else if s = 7 then nI 0 else σ 3 b g s)) else σ 3 b g s
def msG (σ : St) (b g s : Nat) : Int32 := if σ 3 b g 4 = nI 3 then (if 0 < σ 3 b g 6 - nI 1 then (if s = 6 then σ 3 b g 6 - nI 1 else σ 3 b g s) else (if s = 4 then nI 0 else if s = 5 then σ 7 b (tN (σ 3 b g 5)) 1 else if s = 6 then nI 0 else if s = 7 then nI 0 else σ 3 b g s)) else σ 3 b g s
theorem up_g (x : St) (b i s' : Nat) (v : Int32) (k b' g s : Nat) (h : ¬ (k = 3 ∧ b' = b ∧ g = i)) : up x 3 b i s' v k b' g s = x k b' g s := by
  unfold up
  rw [if_neg (fun z => h ⟨z.1, z.2.1, z.2.2.1⟩)]
theorem mrF_cf (σ : St) (b ng : Nat) : (∀ k b' g s, ¬ (k = 3 ∧ b' = b ∧ g < ng) → (mrF b ng σ).1 k b' g s = σ k b' g s) ∧ ∀ g, g < ng → ∀ s, (mrF b ng σ).1 3 b g s = mrG σ b g s := by
  refine rn_inv (I := fun i (x : St × Int32) => (∀ k b' g s, ¬ (k = 3 ∧ b' = b ∧ g < i) → x.1 k b' g s = σ k b' g s) ∧ ∀ g, g < i → ∀ s, x.1 3 b g s = mrG σ b g s) (fun i x hi hx => ?_) ng 0 (by omega) (σ, nI 0) ⟨fun _ _ _ _ _ => rfl, fun g hg => absurd hg (by omega)⟩
  obtain ⟨h1, h2⟩ := hx
  have eg : ∀ s, x.1 3 b i s = σ 3 b i s := fun s => h1 3 b i s (by omega)
  have e6 : ∀ l s, x.1 6 b l s = σ 6 b l s := fun l s => h1 6 b l s (by omega)
  have e2 : ∀ s, x.1 2 b 0 s = σ 2 b 0 s := fun s => h1 2 b 0 s (by omega)
  have es : ∀ l, spo x.1 b l = spo σ b l := fun l => by unfold spo; rw [e2, e6]
  unfold mrS
  rw [eg 4, eg 6, eg 5, es, e6]
  by_cases hs : σ 3 b i 4 = nI 2
  · rw [if_pos hs]
    by_cases h0 : 0 < σ 3 b i 6 - spo σ b (tN (σ 3 b i 5))
    · rw [if_pos h0]
      refine ⟨fun k b' g s n1 => ?_, fun g hg s => ?_⟩
      · show up _ _ _ _ _ _ _ _ _ _ = _
        rw [up_g _ _ _ _ _ _ _ _ _ (by omega), h1 k b' g s (by omega)]
      · show up _ _ _ _ _ _ _ _ _ _ = _
        by_cases hgi : g = i
        · subst hgi
          unfold mrG
          rw [if_pos hs, if_pos h0]
          by_cases h6 : s = 6
          · subst h6; rw [up_self, if_pos rfl]
          · rw [up_sl h6, if_neg h6, eg]
        · rw [up_i hgi, h2 g (by omega)]
    · rw [if_neg h0]
      refine ⟨fun k b' g s n1 => ?_, fun g hg s => ?_⟩
      · show gbc _ _ _ _ _ _ _ _ _ _ _ = _
        rw [gbc_r, if_neg (by omega), up_g _ _ _ _ _ _ _ _ _ (by omega), h1 k b' g s (by omega)]
      · show gbc _ _ _ _ _ _ _ _ _ _ _ = _
        by_cases hgi : g = i
        · subst hgi
          unfold mrG
          rw [if_pos hs, if_neg h0, gbc_r, if_pos ⟨rfl, rfl, rfl⟩]
          by_cases h6 : s = 6
          · subst h6; rfl
          · rw [up_sl h6, eg]
        · rw [gbc_i hgi, up_i hgi, h2 g (by omega)]
  · rw [if_neg hs]
    refine ⟨fun k b' g s n1 => h1 k b' g s (by omega), fun g hg s => ?_⟩
    by_cases hgi : g = i
    · subst hgi
      unfold mrG
      rw [if_neg hs, eg]
    · exact h2 g (by omega) s
theorem msFn_cf (σ : St) (b ng : Nat) : (∀ k b' g s, ¬ (k = 3 ∧ b' = b ∧ g < ng) → (msFn b ng σ).1 k b' g s = σ k b' g s) ∧ ∀ g, g < ng → ∀ s, (msFn b ng σ).1 3 b g s = msG σ b g s := by
  refine rn_inv (I := fun i (x : St × Int32) => (∀ k b' g s, ¬ (k = 3 ∧ b' = b ∧ g < i) → x.1 k b' g s = σ k b' g s) ∧ ∀ g, g < i → ∀ s, x.1 3 b g s = msG σ b g s) (fun i x hi hx => ?_) ng 0 (by omega) (σ, nI 0) ⟨fun _ _ _ _ _ => rfl, fun g hg => absurd hg (by omega)⟩
  obtain ⟨h1, h2⟩ := hx
  have eg : ∀ s, x.1 3 b i s = σ 3 b i s := fun s => h1 3 b i s (by omega)
  have e7 : ∀ l s, x.1 7 b l s = σ 7 b l s := fun l s => h1 7 b l s (by omega)
  unfold msS
  rw [eg 4, eg 6, eg 5, e7]
  by_cases hs : σ 3 b i 4 = nI 3
  · rw [if_pos hs]
    by_cases h0 : 0 < σ 3 b i 6 - nI 1
    · rw [if_pos h0]
      refine ⟨fun k b' g s n1 => ?_, fun g hg s => ?_⟩
      · show up _ _ _ _ _ _ _ _ _ _ = _
        rw [up_g _ _ _ _ _ _ _ _ _ (by omega), h1 k b' g s (by omega)]
      · show up _ _ _ _ _ _ _ _ _ _ = _
        by_cases hgi : g = i
        · subst hgi
          unfold msG
          rw [if_pos hs, if_pos h0]
          by_cases h6 : s = 6
          · subst h6; rw [up_self, if_pos rfl]
          · rw [up_sl h6, if_neg h6, eg]
        · rw [up_i hgi, h2 g (by omega)]
    · rw [if_neg h0]
      refine ⟨fun k b' g s n1 => ?_, fun g hg s => ?_⟩
      · show gbc _ _ _ _ _ _ _ _ _ _ _ = _
        rw [gbc_r, if_neg (by omega), up_g _ _ _ _ _ _ _ _ _ (by omega), h1 k b' g s (by omega)]
      · show gbc _ _ _ _ _ _ _ _ _ _ _ = _
        by_cases hgi : g = i
        · subst hgi
          unfold msG
          rw [if_pos hs, if_neg h0, gbc_r, if_pos ⟨rfl, rfl, rfl⟩]
          by_cases h6 : s = 6
          · subst h6; rfl
          · rw [up_sl h6, eg]
        · rw [gbc_i hgi, up_i hgi, h2 g (by omega)]
  · rw [if_neg hs]
    refine ⟨fun k b' g s n1 => h1 k b' g s (by omega), fun g hg s => ?_⟩
    by_cases hgi : g = i
    · subst hgi
      unfold msG
      rw [if_neg hs, eg]
    · exact h2 g (by omega) s
/-- the lifts turn: a lift's slots; a guest's slots, who waits at lift l -/
def tlG (σ : St) (b l g s : Nat) : Int32 := if 0 < stc (up σ 6 b l 7 (σ 6 b l 7 + spo σ b l)) b l (nI 1) then σ 3 b g s else bg σ b l g s
theorem gis_ne {x : St} {b g : Nat} {u w : Int32} (h : ¬ (x 3 b g 4 = u ∧ x 3 b g 5 = w)) : gis x b g u w = false := by
  unfold gis
  rw [Bool.eq_false_iff]
  intro z
  rw [Bool.and_eq_true, decide_eq_true_eq, decide_eq_true_eq] at z
  exact h z
theorem tlF_cf (σ : St) (b nl ng g : Nat) (hnl : nl ≤ 6) (hg : g < ng) : (∀ k b' i s, k ≠ 3 → k ≠ 6 → tlF b nl ng σ k b' i s = σ k b' i s) ∧ (∀ l s, ¬ (7 ≤ s ∧ s ≤ 9) → tlF b nl ng σ 6 b l s = σ 6 b l s) ∧ (∀ l, l < nl → tlF b nl ng σ 6 b l 7 = if 0 < stc (up σ 6 b l 7 (σ 6 b l 7 + spo σ b l)) b l (nI 1) then σ 6 b l 7 + spo σ b l else σ 6 b l 7 + spo σ b l - nI 2 * σ 6 b l 3) ∧ (¬ σ 3 b g 4 = nI 1 → ∀ s, tlF b nl ng σ 3 b g s = σ 3 b g s) ∧ (∀ l, l < nl → σ 3 b g 4 = nI 1 → σ 3 b g 5 = nI l → ∀ s, tlF b nl ng σ 3 b g s = tlG σ b l g s) := by
  have main := rn_inv (f := tlS b ng) (n := nl) (I := fun i (x : St) => (∀ k b' i s, k ≠ 3 → k ≠ 6 → x k b' i s = σ k b' i s) ∧ (∀ l s, ¬ (l < i ∧ 7 ≤ s ∧ s ≤ 9) → x 6 b l s = σ 6 b l s) ∧ (∀ l, l < i → x 6 b l 7 = if 0 < stc (up σ 6 b l 7 (σ 6 b l 7 + spo σ b l)) b l (nI 1) then σ 6 b l 7 + spo σ b l else σ 6 b l 7 + spo σ b l - nI 2 * σ 6 b l 3) ∧ (¬ σ 3 b g 4 = nI 1 → ∀ s, x 3 b g s = σ 3 b g s) ∧ (∀ l, l < nl → σ 3 b g 4 = nI 1 → σ 3 b g 5 = nI l → ∀ s, x 3 b g s = if i ≤ l then σ 3 b g s else tlG σ b l g s)) (fun i x hi hx => ?_) nl 0 (by omega) σ ⟨fun _ _ _ _ _ _ => rfl, fun _ _ _ => rfl, fun l hl => absurd hl (by omega), fun _ _ => rfl, fun l _ _ _ s => by rw [if_pos (by omega)]⟩
  · obtain ⟨m1, m2, m3, m4, m5⟩ := main
    exact ⟨m1, fun l s h => m2 l s (by omega), m3, m4, fun l hl h4 h5 s => by rw [show tlF b nl ng σ 3 b g s = _ from m5 l hl h4 h5 s, if_neg (by omega)]⟩
  · obtain ⟨h1, h2, h3, h4, h5⟩ := hx
    have e6 : ∀ s, x 6 b i s = σ 6 b i s := fun s => h2 i s (by omega)
    have es : spo x b i = spo σ b i := by unfold spo; rw [h1 2 b 0 6 (by decide) (by decide), e6]
    have est : stc (up x 6 b i 7 (x 6 b i 7 + spo x b i)) b i (nI 1) = stc (up σ 6 b i 7 (σ 6 b i 7 + spo σ b i)) b i (nI 1) := by
      unfold stc
      rw [up_self, up_self, up_sl (by decide), up_sl (by decide), e6, e6, es]
    unfold tlS
    rw [est]
    by_cases h0 : 0 < stc (up σ 6 b i 7 (σ 6 b i 7 + spo σ b i)) b i (nI 1)
    · rw [if_pos h0]
      refine ⟨fun k b' j s n3 n6 => by rw [up_k n6, h1 k b' j s n3 n6], fun l s n => ?_, fun l hl => ?_, fun h s => by rw [up_k (by decide), h4 h s], fun l hl w4 w5 s => ?_⟩
      · by_cases hli : l = i
        · subst hli
          rw [up_sl (by omega), h2 l s (by omega)]
        · rw [up_i hli, h2 l s (by omega)]
      · by_cases hli : l = i
        · subst hli
          rw [up_self, if_pos h0, e6, es]
        · rw [up_i hli, h3 l (by omega)]
      · rw [up_k (by decide), h5 l hl w4 w5 s]
        by_cases hli : l = i
        · subst hli
          rw [if_pos (by omega), if_neg (by omega)]
          unfold tlG
          rw [if_pos h0]
        · by_cases c : i ≤ l
          · rw [if_pos c, if_pos (by omega)]
          · rw [if_neg c, if_neg (by omega)]
    · rw [if_neg h0]
      obtain ⟨c1, c2, -⟩ := bcF_cf (up (up (up x 6 b i 7 (x 6 b i 7 + spo x b i)) 6 b i 7 ((x 6 b i 7 + spo x b i) - (nI 2 * x 6 b i 3))) 6 b i 9 (x 6 b i 9 + nI 1)) b i ng
      generalize hy : up (up (up x 6 b i 7 (x 6 b i 7 + spo x b i)) 6 b i 7 ((x 6 b i 7 + spo x b i) - (nI 2 * x 6 b i 3))) 6 b i 9 (x 6 b i 9 + nI 1) = y at *
      have y3 : ∀ b' j s, y 3 b' j s = x 3 b' j s := fun b' j s => by rw [← hy, up_k (by decide), up_k (by decide), up_k (by decide)]
      have yo : ∀ k b' j s, k ≠ 6 → y k b' j s = x k b' j s := fun k b' j s hk => by rw [← hy, up_k hk, up_k hk, up_k hk]
      have yl : ∀ l s, l ≠ i → y 6 b l s = x 6 b l s := fun l s hl => by rw [← hy, up_i hl, up_i hl, up_i hl]
      have ys : ∀ s, s ≠ 7 → s ≠ 9 → y 6 b i s = x 6 b i s := fun s s7 s9 => by rw [← hy, up_sl s9, up_sl s7, up_sl s7]
      have y7 : y 6 b i 7 = σ 6 b i 7 + spo σ b i - nI 2 * σ 6 b i 3 := by rw [← hy, up_sl (by decide), up_self, e6, e6, es]
      -- who doesn't wait here stays as he was
      have keep : ¬ (x 3 b g 4 = nI 1 ∧ x 3 b g 5 = nI i) → ∀ s, bcF b i ng y 3 b g s = x 3 b g s := fun h s => by
        rw [c2 g hg s]
        unfold bg
        rw [gis_ne (x := y) (by rw [y3, y3]; exact h), if_neg (by decide), y3]
      refine ⟨fun k b' j s n3 n6 => by rw [c1 k b' j s (by omega) (by omega), yo k b' j s n6, h1 k b' j s n3 n6], fun l s n => ?_, fun l hl => ?_, fun h s => ?_, fun l hl w4 w5 s => ?_⟩
      · rw [c1 6 b l s (by omega) (by omega)]
        by_cases hli : l = i
        · subst hli
          rw [ys s (by omega) (by omega), h2 l s (by omega)]
        · rw [yl l s hli, h2 l s (by omega)]
      · rw [c1 6 b l 7 (by omega) (by omega)]
        by_cases hli : l = i
        · subst hli
          rw [y7, if_neg h0]
        · rw [yl l 7 hli, h3 l (by omega)]
      · rw [keep (fun z => h (by rw [← h4 h 4]; exact z.1)) s, h4 h s]
      · by_cases hli : l = i
        · subst hli
          have ex : ∀ s, x 3 b g s = σ 3 b g s := fun s => by rw [h5 l hl w4 w5 s, if_pos (Nat.le_refl _)]
          rw [if_neg (by omega), c2 g hg s]
          unfold tlG
          rw [if_neg h0]
          unfold bg gis
          rw [y3, y3, y3, y3, y3, ys 4 (by decide) (by decide), ys 5 (by decide) (by decide), ex, ex, ex, ex, ex, e6, e6]
        · have hk : ¬ (x 3 b g 4 = nI 1 ∧ x 3 b g 5 = nI i) := fun z => by
            rw [h5 l hl w4 w5 4, h5 l hl w4 w5 5] at z
            by_cases c : i ≤ l
            · rw [if_pos c, if_pos c] at z
              exact hli (nI_inj (by omega) (by omega) (w5.symm.trans z.2))
            · rw [if_neg c, if_neg c] at z
              have hb5 : tlG σ b l g 5 = nI l := by
                unfold tlG bg
                rw [show gis σ b g (nI 1) (nI l) = true by unfold gis; rw [w4, w5]; simp, if_pos rfl]
                split
                · exact w5
                · split
                  · rw [if_neg (by decide)]; exact w5
                  · rfl
              rw [hb5] at z
              exact hli (nI_inj (by omega) (by omega) z.2)
          rw [keep hk s, h5 l hl w4 w5 s]
          by_cases c : i ≤ l
          · rw [if_pos c, if_pos (by omega)]
          · rw [if_neg c, if_neg (by omega)]
theorem gpF_k (σ : St) (b np : Nat) {k b' i s : Nat} (hk : k ≠ 7) : gpF b np σ k b' i s = σ k b' i s := by
  refine rn_inv0 (f := gpS b) (I := fun x => x k b' i s = σ k b' i s) (fun j x _ hx => ?_) σ rfl
  unfold gpS
  split
  · split
    · rw [up_k hk]; exact hx
    · rw [pfr_k hk, up_k hk]; exact hx
  · exact hx
theorem cpF_k (σ : St) (b np : Nat) {k b' i s : Nat} (hk : k ≠ 7) : cpF b np σ k b' i s = σ k b' i s := by
  refine rn_inv0 (f := cpS b) (I := fun x => x k b' i s = σ k b' i s) (fun j x _ hx => ?_) σ rfl
  unfold cpS
  split
  · split
    · exact hx
    · rw [up_k hk]; exact hx
  · exact hx
/-- the store after a tick -/
def tk1 (b nl np ng : Nat) (σ : St) : St := (tkS b nl np ng (σ, nI 0) 0).1
theorem tk1_k (σ : St) {k b' i s : Nat} (hk : k ≠ 7) (h2 : ¬ (k = 2 ∧ s = 7)) : tk1 b nl np ng σ k b' i s = tlF b nl ng (msFn b ng (mrF b ng σ).1).1 k b' i s := by
  show up _ _ _ _ _ _ _ _ _ _ = _
  unfold up
  rw [if_neg (by omega), cpF_k _ _ _ hk, gpF_k _ _ _ hk]
theorem tk1_ok (hW : W < 2 ^ 30) (h : Rok σ b nl np ng W) : Rok (tk1 b nl np ng σ) b nl np ng W := tkS_ok (x := (σ, nI 0)) (i := 0) hW h
end TK1
