/-! ===== the day's end, a new lift, a new piste: rows ===== -/
section CH4
variable {σ : St} {b nl np ng W : Nat} {f f' : Nat → Int32}
/-- a row at the end of a day: so many guests, lifts, pistes are done -/
def edF (f : Nat → Int32) (x y z j : Nat) : Int32 := if 132 ≤ j ∧ j < 212 ∧ (j - 132) / 8 < z ∧ (4 ≤ (j - 132) % 8 ∧ (j - 132) % 8 ≤ 6) ∧ f (132 + 8 * ((j - 132) / 8) + 4) = nI 2 then nI 0 else if 6 ≤ j ∧ j < 132 ∧ (j - 6) / 21 < y ∧ ((j - 6) % 21 = 10 ∨ (j - 6) % 21 = 7) then nI 0 else if 212 ≤ j ∧ (j - 212) / 10 < x ∧ (j - 212) % 10 = 4 then nI 4 else if 212 ≤ j ∧ (j - 212) / 10 < x ∧ (j - 212) % 10 = 6 then nI 0 else f j
theorem edF_g (x y z i k : Nat) (hk : k < 10) : edF f x y z (212 + 10 * i + k) = if i < x ∧ k = 4 then nI 4 else if i < x ∧ k = 6 then nI 0 else f (212 + 10 * i + k) := by
  unfold edF
  rw [if_neg (by omega), if_neg (by omega)]
  by_cases c : i < x ∧ k = 4
  · rw [if_pos c, if_pos (by omega)]
  · rw [if_neg c, if_neg (by omega)]
    by_cases c2 : i < x ∧ k = 6
    · rw [if_pos c2, if_pos (by omega)]
    · rw [if_neg c2, if_neg (by omega)]
theorem edF_l (x y z i k : Nat) (hi : i < 6) (hk : k < 21) : edF f x y z (6 + 21 * i + k) = if i < y ∧ (k = 10 ∨ k = 7) then nI 0 else f (6 + 21 * i + k) := by
  unfold edF
  rw [if_neg (by omega)]
  by_cases c : i < y ∧ (k = 10 ∨ k = 7)
  · rw [if_pos c, if_pos (by omega)]
  · rw [if_neg c, if_neg (by omega), if_neg (by omega), if_neg (by omega)]
theorem edF_p (x y z i k : Nat) (hi : i < 10) (hk : k < 8) : edF f x y z (132 + 8 * i + k) = if i < z ∧ (4 ≤ k ∧ k ≤ 6) ∧ f (132 + 8 * i + 4) = nI 2 then nI 0 else f (132 + 8 * i + k) := by
  unfold edF
  have e1 : (132 + 8 * i + k - 132) / 8 = i := by omega
  have e2 : (132 + 8 * i + k - 132) % 8 = k := by omega
  rw [e1, e2]
  by_cases c : i < z ∧ (4 ≤ k ∧ k ≤ 6) ∧ f (132 + 8 * i + 4) = nI 2
  · rw [if_pos c, if_pos ⟨by omega, by omega, c⟩]
  · rw [if_neg c, if_neg (fun h => c h.2.2), if_neg (by omega), if_neg (by omega), if_neg (by omega)]
theorem edF_z (x y z j : Nat) (hj : j < 6) : edF f x y z j = f j := by
  unfold edF
  rw [if_neg (by omega), if_neg (by omega), if_neg (by omega), if_neg (by omega)]
theorem cd_rel (h : Rel σ b nl np ng f) (ff : ∀ j, f' j = if j = 2 then f 2 + nI 1 else if j = 1 then nI 0 else edF f ng nl np j) : Rel (cdF b nl np ng σ) b nl np ng f' := by
  obtain ⟨hc, hz, h3, h4, h5, h6⟩ := h
  have fo : ∀ j, 6 ≤ j → f' j = edF f ng nl np j := fun j hj => by rw [ff, if_neg (by omega), if_neg (by omega)]
  refine ⟨hc, ⟨fun k hk => ?_, fun k hk => ?_⟩, fun l hl => fun k hk => ?_, fun p hp => fun k hk => ?_, fun g hg => ?_, fun l hl => ?_⟩
  · have hk3 : k = 0 ∨ k = 1 ∨ k = 2 := by omega
    rcases hk3 with rfl | rfl | rfl
    · rw [ff, if_neg (by omega), if_neg (by omega), edF_z _ _ _ _ (by omega), hz.1 0 (by omega), cdF_cf]
      repeat (first | rw [if_neg (by omega)] | rw [if_pos (by omega)])
    · rw [ff, if_neg (by omega), if_pos rfl, cdF_cf]
      repeat (first | rw [if_neg (by omega)] | rw [if_pos (by omega)])
    · rw [ff, if_pos rfl, hz.1 2 (by omega), cdF_cf]
      repeat (first | rw [if_neg (by omega)] | rw [if_pos (by omega)])
  · rw [ff, if_neg (by omega), if_neg (by omega), edF_z _ _ _ _ (by omega), hz.2 k hk, cdF_cf]
    repeat (first | rw [if_neg (by omega)] | rw [if_pos (by omega)])
  · rw [fo _ (by omega), edF_l _ _ _ _ _ (by omega) (by omega), h3 l hl k hk, cdF_cf]
    by_cases c : k = 7
    · repeat (first | rw [if_neg (by omega)] | rw [if_pos (by omega)])
    · repeat (first | rw [if_neg (by omega)] | rw [if_pos (by omega)])
  · have e7 : cdF b nl np ng σ 7 b p k = if (4 ≤ k ∧ k ≤ 6) ∧ σ 7 b p 4 = nI 2 then nI 0 else σ 7 b p k := by
      rw [cdF_cf, if_neg (by omega), if_neg (by omega)]
      by_cases hs : (4 ≤ k ∧ k ≤ 6) ∧ σ 7 b p 4 = nI 2
      · rw [if_pos hs, if_pos ⟨rfl, rfl, hp, hs⟩]
      · rw [if_neg hs, if_neg (fun z => hs z.2.2.2), if_neg (by omega), if_neg (by omega)]
    rw [e7, fo _ (by omega), edF_p _ _ _ _ _ (by omega) (by omega), h4 p hp k hk, h4 p hp 4 (by omega)]
    by_cases c : (4 ≤ k ∧ k ≤ 6) ∧ σ 7 b p 4 = nI 2
    · rw [if_pos ⟨hp, c⟩, if_pos c]
    · rw [if_neg (fun z => c z.2), if_neg c]
  · obtain ⟨a1, a2, a3, a4⟩ := h5 g hg
    have e : ∀ s, cdF b nl np ng σ 3 b g s = if s = 4 then nI 4 else if s = 5 then -1 else if s = 6 then nI 0 else if s = 7 then nI 0 else σ 3 b g s := fun s => by
      rw [cdF_cf, if_neg (by omega), if_neg (by omega), if_neg (by omega), if_neg (by omega), if_pos ⟨rfl, rfl, hg⟩]
    refine ⟨fun k hk => ?_, fun z => absurd (by rw [e, if_pos rfl]) z, ?_, fun k hk => ?_⟩
    · rw [fo _ (by omega), edF_g _ _ _ _ _ (by omega), a1 k hk, e]
      repeat (first | rw [if_neg (by omega)] | rw [if_pos (by omega)])
      by_cases c : k = 4
      · rw [if_pos ⟨hg, c⟩, if_pos c]
      · repeat (first | rw [if_neg (by omega)] | rw [if_pos (by omega)])
    · rw [fo _ (by omega), edF_g _ _ _ _ _ (by omega), e]
      repeat (first | rw [if_neg (by omega)] | rw [if_pos (by omega)])
    · rw [fo _ (by omega), Nat.add_assoc, edF_g _ _ _ _ _ (by omega), ← Nat.add_assoc, a4 k hk, e]
      repeat (first | rw [if_neg (by omega)] | rw [if_pos (by omega)])
  · refine ⟨0, by omega, ?_, fun j hj => absurd hj (by omega), fun g hg g1 g2 => ?_⟩
    · rw [fo _ (by omega), edF_l _ _ _ _ _ (by omega) (by omega), if_pos ⟨hl, Or.inl rfl⟩]
    · rw [cdF_cf, if_neg (by omega), if_neg (by omega), if_neg (by omega), if_neg (by omega), if_pos ⟨rfl, rfl, hg⟩, if_pos rfl] at g1
      exact absurd g1 (nI_ne (by decide))
/-- a new lift -/
def nlF (σ : St) (b nl : Nat) (x1 x2 x3 x4 x5 x6 : Int32) : St := up (up (up (up (up (up (up (up (up (up (up σ 6 b nl 0 x1) 6 b nl 1 x2) 6 b nl 2 x3) 6 b nl 3 x4) 6 b nl 4 x5) 6 b nl 5 (x6 / (nI 10))) 6 b nl 6 (x6 - x6 / (nI 10) * (nI 10))) 6 b nl 7 (nI 0)) 6 b nl 8 (nI 0)) 6 b nl 9 (nI 0)) 2 b 0 3 (nI (nl + 1))
def nlV (x1 x2 x3 x4 x5 x6 : Int32) (s : Nat) : Int32 := match s with | 0 => x1 | 1 => x2 | 2 => x3 | 3 => x4 | 4 => x5 | 5 => x6 / (nI 10) | 6 => x6 - x6 / (nI 10) * (nI 10) | _ => nI 0
theorem nlF_6 (σ : St) (b nl : Nat) (x1 x2 x3 x4 x5 x6 : Int32) (s : Nat) (hs : s < 10) : nlF σ b nl x1 x2 x3 x4 x5 x6 6 b nl s = nlV x1 x2 x3 x4 x5 x6 s := by
  unfold nlF
  rw [up_k (by decide), u10, if_pos ⟨rfl, rfl, rfl⟩]
  rcases s with _ | _ | _ | _ | _ | _ | _ | _ | _ | _ | s <;> first | rfl | omega
theorem nlF_2 (σ : St) (b nl : Nat) (x1 x2 x3 x4 x5 x6 : Int32) : nlF σ b nl x1 x2 x3 x4 x5 x6 2 b 0 3 = nI (nl + 1) := up_self _ _ _ _ _ _
theorem nlF_o (σ : St) (b nl : Nat) (x1 x2 x3 x4 x5 x6 : Int32) {k i s : Nat} (h1 : ¬ (k = 6 ∧ i = nl)) (h2 : ¬ (k = 2 ∧ s = 3)) : nlF σ b nl x1 x2 x3 x4 x5 x6 k b i s = σ k b i s := by
  unfold nlF
  have e : ∀ μ : St, up μ 2 b 0 3 (nI (nl + 1)) k b i s = μ k b i s := fun μ => by unfold up; rw [if_neg (by omega)]
  rw [e, u10, if_neg (fun z => h1 ⟨z.1, z.2.2⟩)]
theorem nl_rel (hR : Rok σ b nl np ng W) (h : Rel σ b nl np ng f) (hn : nl < 6) {x1 x2 x3 x4 x5 x6 : Int32} (f3 : f' 3 = nI (nl + 1)) (fl : ∀ k, k < 10 → f' (6 + 21 * nl + k) = nlV x1 x2 x3 x4 x5 x6 k) (fq : f' (6 + 21 * nl + 10) = nI 0) (fo : ∀ j, j ≠ 3 → ¬ (6 + 21 * nl ≤ j ∧ j < 6 + 21 * nl + 21) → f' j = f j) : Rel (nlF σ b nl x1 x2 x3 x4 x5 x6) b (nl + 1) np ng f' := by
  obtain ⟨hc, hz, h3, h4, h5, h6⟩ := h
  refine ⟨⟨by omega, hc.2⟩, ⟨fun k hk => ?_, fun k hk => ?_⟩, fun l hl => ?_, fun p hp => (h4 p hp).congr (fun s hs => nlF_o _ _ _ _ _ _ _ _ _ (by omega) (by omega)) (fun k hk => fo _ (by omega) (by omega)), fun g hg => (h5 g hg).congr (fun s hs => nlF_o _ _ _ _ _ _ _ _ _ (by omega) (by omega)) (fun k hk => fo _ (by omega) (by omega)), fun l hl => ?_⟩
  · rw [fo _ (by omega) (by omega), nlF_o _ _ _ _ _ _ _ _ _ (by omega) (by omega), hz.1 k hk]
  · by_cases hk0 : k = 0
    · subst hk0
      rw [nlF_2]; exact f3
    · rw [fo _ (by omega) (by omega), nlF_o _ _ _ _ _ _ _ _ _ (by omega) (by omega), hz.2 k hk]
  · by_cases hln : l = nl
    · subst hln
      exact fun k hk => by rw [nlF_6 _ _ _ _ _ _ _ _ _ _ hk, fl k hk]
    · exact (h3 l (by omega)).congr (fun s hs => nlF_o _ _ _ _ _ _ _ _ _ (by omega) (by omega)) (fun k hk => fo _ (by omega) (by omega))
  · by_cases hln : l = nl
    · subst hln
      refine ⟨0, by omega, fq, fun j hj => absurd hj (by omega), fun g hg g1 g2 => ?_⟩
      rw [nlF_o _ _ _ _ _ _ _ _ _ (by omega) (by omega)] at g1 g2
      obtain ⟨⟨l', hl', hw⟩, -⟩ := (hR.2.2.2.2 g hg).waits g1
      exact absurd (nI_inj (by omega) (by omega) (hw.symm.trans g2)) (by omega)
    · exact (h6 l (by omega)).congr (fun g s hg hs => nlF_o _ _ _ _ _ _ _ _ _ (by omega) (by omega)) (fun k hk hk2 => fo _ (by omega) (by omega))
theorem gOk.grow {nl' np' g : Nat} (h : gOk σ b nl np g) (h1 : nl ≤ nl') (h2 : np ≤ np') : gOk σ b nl' np' g := by
  refine ⟨h.1, ?_⟩
  rcases h.2 with h | ⟨a, ⟨l, c, d⟩, e⟩ | ⟨a, ⟨l, c, d⟩, e⟩ | ⟨a, ⟨l, c, d⟩, e⟩ | h
  · exact Or.inl h
  · exact Or.inr (Or.inl ⟨a, ⟨l, by omega, d⟩, e⟩)
  · exact Or.inr (Or.inr (Or.inl ⟨a, ⟨l, by omega, d⟩, e⟩))
  · exact Or.inr (Or.inr (Or.inr (Or.inl ⟨a, ⟨l, by omega, d⟩, e⟩)))
  · exact Or.inr (Or.inr (Or.inr (Or.inr h)))
theorem nl_ok (hR : Rok σ b nl np ng W) (hn : nl < 6) {x1 x2 x3 x4 x5 x6 : Int32} (n1 : isN x1 0 7) (n2 : isN x2 0 7) (n3 : isN x3 0 3) (n4 : isN x4 1 6) (n5 : isN x5 1 8) (n6 : isN (x6 / nI 10) 1 9) (n7 : isN (x6 - x6 / (nI 10) * (nI 10)) 0 3) : Rok (nlF σ b nl x1 x2 x3 x4 x5 x6) b (nl + 1) np ng W := by
  obtain ⟨⟨c1, c2, c3⟩, ⟨w1, w2⟩, h3, h4, h5⟩ := hR
  refine ⟨⟨⟨nlF_2 _ _ _ _ _ _ _ _ _, by omega⟩, ?_, ?_⟩, ⟨?_, ?_⟩, fun l hl => ?_, fun p hp => (h4 p hp).congr (fun s hs => nlF_o _ _ _ _ _ _ _ _ _ (by omega) (by omega)), fun g hg => ((h5 g hg).grow (by omega) (Nat.le_refl _)).congr (fun s hs => nlF_o _ _ _ _ _ _ _ _ _ (by omega) (by omega))⟩
  · rw [nlF_o _ _ _ _ _ _ _ _ _ (by omega) (by omega)]; exact c2
  · rw [nlF_o _ _ _ _ _ _ _ _ _ (by omega) (by omega)]; exact c3
  · rw [nlF_o _ _ _ _ _ _ _ _ _ (by omega) (by omega)]; exact w1
  · rw [nlF_o _ _ _ _ _ _ _ _ _ (by omega) (by omega)]; exact w2
  · by_cases hln : l = nl
    · subst hln
      unfold lOk
      rw [nlF_6 _ _ _ _ _ _ _ _ _ _ (by decide), nlF_6 _ _ _ _ _ _ _ _ _ _ (by decide), nlF_6 _ _ _ _ _ _ _ _ _ _ (by decide), nlF_6 _ _ _ _ _ _ _ _ _ _ (by decide), nlF_6 _ _ _ _ _ _ _ _ _ _ (by decide), nlF_6 _ _ _ _ _ _ _ _ _ _ (by decide), nlF_6 _ _ _ _ _ _ _ _ _ _ (by decide), nlF_6 _ _ _ _ _ _ _ _ _ _ (by decide)]
      obtain ⟨v, v1, v2, v3⟩ := n4
      exact ⟨n1, n2, n3, n5, n6, n7, v, 0, v1, v2, by omega, v3, rfl⟩
    · exact (h3 l (by omega)).congr (fun s hs => nlF_o _ _ _ _ _ _ _ _ _ (by omega) (by omega))
/-- a new piste -/
def npF (σ : St) (b np : Nat) (x1 x2 x3 x4 : Int32) : St := up (up (up (up (up (up (up (up (up σ 7 b np 0 x1) 7 b np 1 x2) 7 b np 2 x3) 7 b np 3 x4) 7 b np 4 (nI 0)) 7 b np 5 (nI 0)) 7 b np 6 (nI 0)) 7 b np 7 (nI 0)) 2 b 0 4 (nI (np + 1))
def npV (x1 x2 x3 x4 : Int32) (s : Nat) : Int32 := match s with | 0 => x1 | 1 => x2 | 2 => x3 | 3 => x4 | _ => nI 0
theorem npF_7 (σ : St) (b np : Nat) (x1 x2 x3 x4 : Int32) (s : Nat) (hs : s < 8) : npF σ b np x1 x2 x3 x4 7 b np s = npV x1 x2 x3 x4 s := by
  unfold npF
  rw [up_k (by decide), u8, if_pos ⟨rfl, rfl, rfl⟩]
  rcases s with _ | _ | _ | _ | _ | _ | _ | _ | s <;> first | rfl | omega
theorem npF_2 (σ : St) (b np : Nat) (x1 x2 x3 x4 : Int32) : npF σ b np x1 x2 x3 x4 2 b 0 4 = nI (np + 1) := up_self _ _ _ _ _ _
theorem npF_o (σ : St) (b np : Nat) (x1 x2 x3 x4 : Int32) {k i s : Nat} (h1 : ¬ (k = 7 ∧ i = np)) (h2 : ¬ (k = 2 ∧ s = 4)) : npF σ b np x1 x2 x3 x4 k b i s = σ k b i s := by
  unfold npF
  have e : ∀ μ : St, up μ 2 b 0 4 (nI (np + 1)) k b i s = μ k b i s := fun μ => by unfold up; rw [if_neg (by omega)]
  rw [e, u8, if_neg (fun z => h1 ⟨z.1, z.2.2⟩)]
theorem np_rel (h : Rel σ b nl np ng f) (hn : np < 10) {x1 x2 x3 x4 : Int32} (f4 : f' 4 = nI (np + 1)) (fl : ∀ k, k < 8 → f' (132 + 8 * np + k) = npV x1 x2 x3 x4 k) (fo : ∀ j, j ≠ 4 → ¬ (132 + 8 * np ≤ j ∧ j < 132 + 8 * np + 8) → f' j = f j) : Rel (npF σ b np x1 x2 x3 x4) b nl (np + 1) ng f' := by
  obtain ⟨hc, hz, h3, h4, h5, h6⟩ := h
  refine ⟨⟨hc.1, by omega, hc.2.2⟩, ⟨fun k hk => ?_, fun k hk => ?_⟩, fun l hl => (h3 l hl).congr (fun s hs => npF_o _ _ _ _ _ _ _ (by omega) (by omega)) (fun k hk => fo _ (by omega) (by omega)), fun p hp => ?_, fun g hg => (h5 g hg).congr (fun s hs => npF_o _ _ _ _ _ _ _ (by omega) (by omega)) (fun k hk => fo _ (by omega) (by omega)), fun l hl => (h6 l (by omega)).congr (fun g s hg hs => npF_o _ _ _ _ _ _ _ (by omega) (by omega)) (fun k hk hk2 => fo _ (by omega) (by omega))⟩
  · rw [fo _ (by omega) (by omega), npF_o _ _ _ _ _ _ _ (by omega) (by omega), hz.1 k hk]
  · by_cases hk0 : k = 1
    · subst hk0
      rw [npF_2]; exact f4
    · rw [fo _ (by omega) (by omega), npF_o _ _ _ _ _ _ _ (by omega) (by omega), hz.2 k hk]
  · by_cases hln : p = np
    · subst hln
      exact fun k hk => by rw [npF_7 _ _ _ _ _ _ _ _ hk, fl k hk]
    · exact (h4 p (by omega)).congr (fun s hs => npF_o _ _ _ _ _ _ _ (by omega) (by omega)) (fun k hk => fo _ (by omega) (by omega))
theorem np_ok (hR : Rok σ b nl np ng W) (hn : np < 10) {x1 x2 x3 x4 : Int32} (n1 : isN x1 0 7) (n2 : isN x2 0 7) (n3 : isN x3 1 3) (n4 : isN x4 1 9) : Rok (npF σ b np x1 x2 x3 x4) b nl (np + 1) ng W := by
  obtain ⟨⟨c1, c2, c3⟩, ⟨w1, w2⟩, h3, h4, h5⟩ := hR
  refine ⟨⟨?_, ⟨npF_2 _ _ _ _ _ _ _, by omega⟩, ?_⟩, ⟨?_, ?_⟩, fun l hl => (h3 l hl).congr (fun s hs => npF_o _ _ _ _ _ _ _ (by omega) (by omega)), fun p hp => ?_, fun g hg => ((h5 g hg).grow (Nat.le_refl _) (by omega)).congr (fun s hs => npF_o _ _ _ _ _ _ _ (by omega) (by omega))⟩
  · rw [npF_o _ _ _ _ _ _ _ (by omega) (by omega)]; exact c1
  · rw [npF_o _ _ _ _ _ _ _ (by omega) (by omega)]; exact c3
  · rw [npF_o _ _ _ _ _ _ _ (by omega) (by omega)]; exact w1
  · rw [npF_o _ _ _ _ _ _ _ (by omega) (by omega)]; exact w2
  · by_cases hln : p = np
    · subst hln
      unfold pOk
      rw [npF_7 _ _ _ _ _ _ _ _ (by decide), npF_7 _ _ _ _ _ _ _ _ (by decide), npF_7 _ _ _ _ _ _ _ _ (by decide), npF_7 _ _ _ _ _ _ _ _ (by decide), npF_7 _ _ _ _ _ _ _ _ (by decide), npF_7 _ _ _ _ _ _ _ _ (by decide), npF_7 _ _ _ _ _ _ _ _ (by decide)]
      exact ⟨n1, n2, n3, n4, ⟨0, by omega, by omega, rfl⟩, ⟨0, by omega, by omega, rfl⟩, fun z => absurd z (nI_ne (by decide))⟩
    · exact (h4 p (by omega)).congr (fun s hs => npF_o _ _ _ _ _ _ _ (by omega) (by omega))
end CH4
