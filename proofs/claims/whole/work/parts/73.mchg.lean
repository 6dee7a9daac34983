/-! ===== the reference's changes, run to their ends ===== -/
section MCH
variable {σ μ : St} {b nl np ng W : Nat} (G : Gl)
theorem s_X8_standIn (hC : Cnt σ b nl np ng) (h : Rel σ b nl np ng (row μ)) {g l : Nat} (hg : g < ng) (hl : l < nl) (h4 : σ 3 b g 4 = nI 0) (h6 : σ 3 b g 6 = nI 0) (hw : gwF σ b (nI 1) (nI l) ng < nI 10) : Con G mX8_standIn [.ref (zad G.1 10 0 0), .int (nI g), .int (nI l)] μ (fun v μ9 => v = some (.int (gwF σ b (nI 1) (nI l) ng)) ∧ (∀ k b i s, k ≠ 26 → μ9 k b i s = μ k b i s) ∧ Rel (jqF σ b g l ng) b nl np ng (row μ9)) noX := by
  have hn := hC.2.2.2
  have hl6 := hC.1.2
  have hq := h.2.2.2.2.2 l hl
  have eg := hq.gw h.1.2.2
  obtain ⟨q, q1, q2, q3, q4⟩ := hq
  rw [q2] at eg
  have q9 : q < 10 := by rw [eg] at hw; exact (nI_ltI (by omega) (by decide)).mp hw
  have q2' : μ 26 0 0 (6 + 21 * l + 10) = nI q := q2
  apply wX8_standIn G g (by omega) l (by omega)
  refine ⟨6 + 21 * l + 11 + q, by rw [q2', nI_add], by omega, ?_, fun k b i s hk => by rw [up_k hk, up_k hk, up_k hk, up_k hk], ?_⟩
  · rw [up_sl (by omega), up_sl (by omega), up_self, up_sl (by omega), q2', nI_add, nI_sub (by omega), Nat.add_sub_cancel, eg]
  · refine jq_rel h hg hl h4 h6 q2 eg q9 (fun j => ?_)
    rw [row_up, row_up, row_up, row_up, up_sl (by omega), q2', nI_add]
def gd1 (μ : St) (g p : Nat) : St := up (up μ 26 0 0 (212 + 10 * g + 4) (nI 3)) 26 0 0 (212 + 10 * g + 5) (nI p)
def gd2 (μ : St) (g p : Nat) : St := up (gd1 μ g p) 26 0 0 (212 + 10 * g + 6) (msk (gd1 μ g p) g p)
def gd3 (μ : St) (g p : Nat) : St := up (gd2 μ g p) 26 0 0 (212 + 10 * g + 8) (gd2 μ g p 26 0 0 (212 + 10 * g + 8) + nI 1)
def gd4 (μ : St) (g p : Nat) : St := up (gd3 μ g p) 26 0 0 (132 + 8 * p + 5) (gd3 μ g p 26 0 0 (132 + 8 * p + 5) + gd3 μ g p 26 0 0 (132 + 8 * p + 2))
def gd5 (μ : St) (g p : Nat) : St := up (gd4 μ g p) 26 0 0 (132 + 8 * p + 7) (gd4 μ g p 26 0 0 (132 + 8 * p + 7) + nI 1)
theorem gd_o {μ : St} {g p k b i s : Nat} (hk : k ≠ 26) : gd5 μ g p k b i s = μ k b i s := by
  unfold gd5 gd4 gd3 gd2 gd1
  rw [up_k hk, up_k hk, up_k hk, up_k hk, up_k hk, up_k hk]
theorem s_X8_goDown (hC : Cnt σ b nl np ng) (h : Rel σ b nl np ng (row μ)) {g p : Nat} (hg : g < ng) (hp : p < np) (h4 : σ 3 b g 4 = nI 0) : Con G mX8_goDown [.ref (zad G.1 10 0 0), .int (nI g), .int (nI p)] μ (fun v μ9 => v = some (.int (rfo σ b p g)) ∧ (∀ k b i s, k ≠ 26 → μ9 k b i s = μ k b i s) ∧ Rel (spF σ b g p) b nl np ng (row μ9)) noX := by
  have hn := hC.2.2.2
  have hn2 := hC.2.1.2
  have e1 : msk (gd1 μ g p) g p = rfo σ b p g := by
    rw [← h.erfo hg hp]
    unfold msk gd1
    rw [up_sl (by omega), up_sl (by omega), up_sl (by omega), up_sl (by omega), up_sl (by omega), up_sl (by omega)]
  have r1 : ∀ j, row (gd1 μ g p) j = if j = 212 + 10 * g + 5 then nI p else if j = 212 + 10 * g + 4 then nI 3 else row μ j := fun j => by
    unfold gd1
    rw [row_up, row_up]
  have r2 : ∀ j, row (gd2 μ g p) j = if j = 212 + 10 * g + 6 then rfo σ b p g else row (gd1 μ g p) j := fun j => by
    unfold gd2
    rw [row_up, e1]
  have r3 : ∀ j, row (gd3 μ g p) j = if j = 212 + 10 * g + 8 then row μ (212 + 10 * g + 8) + nI 1 else row (gd2 μ g p) j := fun j => by
    have e : gd2 μ g p 26 0 0 (212 + 10 * g + 8) = row μ (212 + 10 * g + 8) := by
      show row (gd2 μ g p) _ = _
      rw [r2, r1, if_neg (by omega), if_neg (by omega), if_neg (by omega)]
    unfold gd3
    rw [row_up, e]
  have r3o : ∀ k, k < 8 → row (gd3 μ g p) (132 + 8 * p + k) = row μ (132 + 8 * p + k) := fun k hk => by
    rw [r3, r2, r1, if_neg (by omega), if_neg (by omega), if_neg (by omega), if_neg (by omega)]
  have r4 : ∀ j, row (gd4 μ g p) j = if j = 132 + 8 * p + 5 then row μ (132 + 8 * p + 5) + row μ (132 + 8 * p + 2) else row (gd3 μ g p) j := fun j => by
    have e5 : gd3 μ g p 26 0 0 (132 + 8 * p + 5) = row μ (132 + 8 * p + 5) := r3o 5 (by omega)
    have e2 : gd3 μ g p 26 0 0 (132 + 8 * p + 2) = row μ (132 + 8 * p + 2) := r3o 2 (by omega)
    unfold gd4
    rw [row_up, e5, e2]
  have r5 : ∀ j, row (gd5 μ g p) j = if j = 132 + 8 * p + 7 then row μ (132 + 8 * p + 7) + nI 1 else row (gd4 μ g p) j := fun j => by
    have e : gd4 μ g p 26 0 0 (132 + 8 * p + 7) = row μ (132 + 8 * p + 7) := by
      show row (gd4 μ g p) _ = _
      rw [r4, if_neg (by omega), r3o 7 (by omega)]
    unfold gd5
    rw [row_up, e]
  have key : (fun (v : Option Value) (μ9 : St) => v = some (.int (rfo σ b p g)) ∧ (∀ k b i s, k ≠ 26 → μ9 k b i s = μ k b i s) ∧ Rel (spF σ b g p) b nl np ng (row μ9)) (some (.int (gd5 μ g p 26 0 0 (212 + 10 * g + 6)))) (gd5 μ g p) := by
    refine ⟨?_, fun k b i s hk => gd_o hk, ?_⟩
    · rw [show gd5 μ g p 26 0 0 (212 + 10 * g + 6) = row (gd5 μ g p) (212 + 10 * g + 6) from rfl, r5, if_neg (by omega), r4, if_neg (by omega), r3, if_neg (by omega), r2, if_pos rfl]
    · exact sp_rel h hg hp h4 (fun j => by rw [r5, r4, r3, r2, r1])
  exact wX8_goDown G g (by omega) p (by omega) μ key
/-- a guest's place in the queue -/
theorem s_X8_placeOf (hC : Cnt σ b nl np ng) (h : Rel σ b nl np ng (row μ)) {g l : Nat} (hg : g < ng) (hl : l < nl) (h4 : σ 3 b g 4 = nI 1) (h5 : σ 3 b g 5 = nI l) : Con G mX8_placeOf [.ref (zad G.1 10 0 0), .int (nI g)] μ (fun v μ9 => v = some (.int (σ 3 b g 7)) ∧ μ9 = μ) noX := by
  have hn := hC.2.2.2
  have hl6 := hC.1.2
  have e5 : μ 26 0 0 (212 + 10 * g + 5) = nI l := by
    rw [← h5]
    exact (h.2.2.2.2.1 g hg).2.1 (by rw [h4]; exact nI_ne (by decide))
  obtain ⟨q, q1, q2, q3, q4⟩ := h.2.2.2.2.2 l hl
  obtain ⟨j, hj, j1, j2⟩ := q4 g hg h4 h5
  have T : ∀ d i, i + d = j → VL G mX8_placeOf (fun v μ9 => v = some (.int (σ 3 b g 7)) ∧ μ9 = μ) noX 20 [(0, .ref (zad G.1 10 0 0)), (1, .int (nI g)), (2, .int (nI (6 + 21 * l + 11))), (3, .int (nI i))] [] μ := by
    intro d
    induction d with
    | zero =>
      intro i hi
      obtain rfl : i = j := by omega
      apply wX8_placeOf_20 G g (by omega)
      refine ⟨6 + 21 * l + 11 + i, nI_add _ _, by omega, fun _ => ⟨by rw [j1], rfl⟩, fun z => absurd j2 z⟩
    | succ d ih =>
      intro i hi
      apply wX8_placeOf_20 G g (by omega)
      refine ⟨6 + 21 * l + 11 + i, nI_add _ _, by omega, fun z => ?_, fun _ => ih (i + 1) (by omega)⟩
      obtain ⟨g', hg', s1, s2, s3, s4⟩ := q3 i (by omega)
      have hgg : g' = g := nI_inj (by omega) (by omega) (s1.symm.trans z)
      subst hgg
      exact absurd (nI_inj (by omega) (by omega) (s4.symm.trans j1)) (by omega)
  apply wX8_placeOf G g (by omega)
  rw [e5, pk_mul, nI_add, nI_add]
  exact T j 0 (by omega)
/-! the day's end -/
def EdI (μ μ' : St) (x y z : Nat) : Prop := (∀ k b i s, k ≠ 26 → μ' k b i s = μ k b i s) ∧ ∀ j, row μ' j = edF (row μ) x y z j
theorem edF_00 {f : Nat → Int32} (x j : Nat) : edF f x 0 0 j = if 212 ≤ j ∧ (j - 212) / 10 < x ∧ (j - 212) % 10 = 4 then nI 4 else if 212 ≤ j ∧ (j - 212) / 10 < x ∧ (j - 212) % 10 = 6 then nI 0 else f j := by
  unfold edF
  rw [if_neg (by omega), if_neg (by omega)]
theorem edF_y0 {f : Nat → Int32} (x y j : Nat) : edF f x y 0 j = if 6 ≤ j ∧ j < 132 ∧ (j - 6) / 21 < y ∧ ((j - 6) % 21 = 10 ∨ (j - 6) % 21 = 7) then nI 0 else if 212 ≤ j ∧ (j - 212) / 10 < x ∧ (j - 212) % 10 = 4 then nI 4 else if 212 ≤ j ∧ (j - 212) / 10 < x ∧ (j - 212) % 10 = 6 then nI 0 else f j := by
  unfold edF
  rw [if_neg (by omega)]
theorem EdI.g {μ' : St} {x : Nat} (h : EdI μ μ' x 0 0) : EdI μ (up (up μ' 26 0 0 (212 + 10 * x + 4) (nI 4)) 26 0 0 (212 + 10 * x + 6) (nI 0)) (x + 1) 0 0 := by
  refine ⟨fun k b i s hk => by rw [up_k hk, up_k hk, h.1 k b i s hk], fun j => ?_⟩
  rw [row_up, row_up, h.2, edF_00, edF_00]
  by_cases c6 : j = 212 + 10 * x + 6
  · rw [if_pos c6, if_neg (by omega), if_pos (by omega)]
  · rw [if_neg c6]
    by_cases c4 : j = 212 + 10 * x + 4
    · rw [if_pos c4, if_pos (by omega)]
    · rw [if_neg c4]
      by_cases d4 : 212 ≤ j ∧ (j - 212) / 10 < x ∧ (j - 212) % 10 = 4
      · rw [if_pos d4, if_pos (by omega)]
      · rw [if_neg d4, if_neg (c := 212 ≤ j ∧ (j - 212) / 10 < x + 1 ∧ (j - 212) % 10 = 4) (by omega)]
        by_cases d6 : 212 ≤ j ∧ (j - 212) / 10 < x ∧ (j - 212) % 10 = 6
        · rw [if_pos d6, if_pos (by omega)]
        · rw [if_neg d6, if_neg (by omega)]
theorem EdI.l {μ' : St} {x y : Nat} (h : EdI μ μ' x y 0) (hy : y < 6) : EdI μ (up (up μ' 26 0 0 (6 + 21 * y + 10) (nI 0)) 26 0 0 (6 + 21 * y + 7) (nI 0)) x (y + 1) 0 := by
  refine ⟨fun k b i s hk => by rw [up_k hk, up_k hk, h.1 k b i s hk], fun j => ?_⟩
  rw [row_up, row_up, h.2, edF_y0, edF_y0]
  by_cases c6 : j = 6 + 21 * y + 7
  · rw [if_pos c6, if_pos (by omega)]
  · rw [if_neg c6]
    by_cases c4 : j = 6 + 21 * y + 10
    · rw [if_pos c4, if_pos (by omega)]
    · rw [if_neg c4]
      by_cases d4 : 6 ≤ j ∧ j < 132 ∧ (j - 6) / 21 < y ∧ ((j - 6) % 21 = 10 ∨ (j - 6) % 21 = 7)
      · rw [if_pos d4, if_pos (by omega)]
      · rw [if_neg d4, if_neg (c := 6 ≤ j ∧ j < 132 ∧ (j - 6) / 21 < y + 1 ∧ _) (by omega)]
theorem EdI.p0 {μ' : St} {x y z : Nat} (h : EdI μ μ' x y z) (hz : z < 10) (hs : ¬ row μ (132 + 8 * z + 4) = nI 2) : EdI μ μ' x y (z + 1) := by
  refine ⟨h.1, fun j => ?_⟩
  rw [h.2]
  unfold edF
  by_cases c : 132 ≤ j ∧ j < 212 ∧ (j - 132) / 8 < z ∧ (4 ≤ (j - 132) % 8 ∧ (j - 132) % 8 ≤ 6) ∧ row μ (132 + 8 * ((j - 132) / 8) + 4) = nI 2
  · rw [if_pos c, if_pos ⟨c.1, c.2.1, by omega, c.2.2.2⟩]
  · rw [if_neg c, if_neg (c := 132 ≤ j ∧ j < 212 ∧ (j - 132) / 8 < z + 1 ∧ _)]
    intro d
    rcases Nat.lt_or_ge ((j - 132) / 8) z with hlt | hge
    · exact c ⟨d.1, d.2.1, hlt, d.2.2.2⟩
    · have e : (j - 132) / 8 = z := by omega
      have := d.2.2.2.2
      rw [e] at this
      exact hs this
theorem EdI.p1 {μ' : St} {x y z : Nat} (h : EdI μ μ' x y z) (hz : z < 10) (hs : row μ (132 + 8 * z + 4) = nI 2) : EdI μ (up (up (up μ' 26 0 0 (132 + 8 * z + 4) (nI 0)) 26 0 0 (132 + 8 * z + 5) (nI 0)) 26 0 0 (132 + 8 * z + 6) (nI 0)) x y (z + 1) := by
  refine ⟨fun k b i s hk => by rw [up_k hk, up_k hk, up_k hk, h.1 k b i s hk], fun j => ?_⟩
  rw [row_up, row_up, row_up, h.2]
  unfold edF
  by_cases c : 132 + 8 * z + 4 ≤ j ∧ j ≤ 132 + 8 * z + 6
  · have e : (j - 132) / 8 = z := by omega
    rw [e, if_pos (c := 132 ≤ j ∧ j < 212 ∧ z < z + 1 ∧ _) ⟨by omega, by omega, by omega, by omega, hs⟩]
    have : j = 132 + 8 * z + 4 ∨ j = 132 + 8 * z + 5 ∨ j = 132 + 8 * z + 6 := by omega
    rcases this with rfl | rfl | rfl
    · rw [if_neg (by omega), if_neg (by omega), if_pos rfl]
    · rw [if_neg (by omega), if_pos rfl]
    · rw [if_pos rfl]
  · rw [if_neg (by omega), if_neg (by omega), if_neg (by omega)]
    by_cases c : 132 ≤ j ∧ j < 212 ∧ (j - 132) / 8 < z ∧ (4 ≤ (j - 132) % 8 ∧ (j - 132) % 8 ≤ 6) ∧ row μ (132 + 8 * ((j - 132) / 8) + 4) = nI 2
    · rw [if_pos c, if_pos ⟨c.1, c.2.1, by omega, c.2.2.2⟩]
    · rw [if_neg c, if_neg (c := 132 ≤ j ∧ j < 212 ∧ (j - 132) / 8 < z + 1 ∧ _)]
      intro d
      rcases Nat.lt_or_ge ((j - 132) / 8) z with hlt | hge
      · exact c ⟨d.1, d.2.1, hlt, d.2.2.2⟩
      · omega
theorem t_endDay {P : Option Value → St → Prop} {X : String → St → Prop} (hC : Cnt σ b nl np ng) (h : Rel σ b nl np ng (row μ)) (y : Int32) (hP : ∀ μ9, (∀ k b i s, k ≠ 26 → μ9 k b i s = μ k b i s) → Rel (cdF b nl np ng σ) b nl np ng (row μ9) → P (some (.int y)) μ9) : VL G mX8_endDay P X 50 [(0, .ref (zad G.1 10 0 0)), (1, .int y), (2, .int (nI 0))] [] μ := by
  have hn1 := hC.1.2
  have hn2 := hC.2.1.2
  have hn3 := hC.2.2.2
  have cnt : ∀ {μ' x y z}, EdI μ μ' x y z → μ' 26 0 0 5 = nI ng ∧ μ' 26 0 0 3 = nI nl ∧ μ' 26 0 0 4 = nI np ∧ μ' 26 0 0 2 = row μ 2 := fun {μ' x y z} hI => by
    refine ⟨?_, ?_, ?_, ?_⟩
    · rw [show μ' 26 0 0 5 = row μ' 5 from rfl, hI.2, edF_z _ _ _ _ (by decide)]; exact h.cng hC
    · rw [show μ' 26 0 0 3 = row μ' 3 from rfl, hI.2, edF_z _ _ _ _ (by decide)]; exact h.cnl hC
    · rw [show μ' 26 0 0 4 = row μ' 4 from rfl, hI.2, edF_z _ _ _ _ (by decide)]; exact h.cnp hC
    · rw [show μ' 26 0 0 2 = row μ' 2 from rfl, hI.2, edF_z _ _ _ _ (by decide)]
  have TP : ∀ d i μ', i + d = np → EdI μ μ' ng nl i → VL G mX8_endDay P X 137 [(0, .ref (zad G.1 10 0 0)), (1, .int y), (2, .int (nI i))] [] μ' := by
    intro d
    induction d with
    | zero =>
      intro i μ' hi hI
      obtain rfl : i = np := by omega
      obtain ⟨c5, c3, c4, c2⟩ := cnt hI
      apply wX8_endDay_137
      refine ⟨fun _ => hP _ (fun k b i s hk => by rw [up_k hk, up_k hk, hI.1 k b i s hk]) (cd_rel h (fun j => ?_)), fun z => absurd ((cle c4).mpr (Nat.le_refl _)) z⟩
      rw [row_up, row_up, c2, hI.2]
    | succ d ih =>
      intro i μ' hi hI
      obtain ⟨c5, c3, c4, c2⟩ := cnt hI
      have es : μ' 26 0 0 (132 + 8 * i + 4) = row μ (132 + 8 * i + 4) := by
        rw [show μ' 26 0 0 (132 + 8 * i + 4) = row μ' (132 + 8 * i + 4) from rfl, hI.2, edF_p _ _ _ _ _ (by omega) (by decide), if_neg (by omega)]
      apply wX8_endDay_137
      refine ⟨fun z => absurd ((cle c4).mp z) (by omega), fun _ => ⟨by omega, fun z => ?_, fun z => ⟨by omega, by omega, ?_⟩⟩⟩
      · exact ih (i + 1) _ (by omega) (hI.p0 (by omega) (by rw [← es]; exact z))
      · exact ih (i + 1) _ (by omega) (hI.p1 (by omega) (by rw [← es]; exact z))
  have TL : ∀ d i μ', i + d = nl → EdI μ μ' ng i 0 → VL G mX8_endDay P X 93 [(0, .ref (zad G.1 10 0 0)), (1, .int y), (2, .int (nI i))] [] μ' := by
    intro d
    induction d with
    | zero =>
      intro i μ' hi hI
      obtain rfl : i = nl := by omega
      obtain ⟨c5, c3, c4, c2⟩ := cnt hI
      apply wX8_endDay_93
      exact ⟨fun _ => TP np 0 μ' (by omega) hI, fun z => absurd ((cle c3).mpr (Nat.le_refl _)) z⟩
    | succ d ih =>
      intro i μ' hi hI
      obtain ⟨c5, c3, c4, c2⟩ := cnt hI
      apply wX8_endDay_93
      exact ⟨fun z => absurd ((cle c3).mp z) (by omega), fun _ => ⟨by omega, by omega, ih (i + 1) _ (by omega) (hI.l (by omega))⟩⟩
  have TG : ∀ d i μ', i + d = ng → EdI μ μ' i 0 0 → VL G mX8_endDay P X 50 [(0, .ref (zad G.1 10 0 0)), (1, .int y), (2, .int (nI i))] [] μ' := by
    intro d
    induction d with
    | zero =>
      intro i μ' hi hI
      obtain rfl : i = ng := by omega
      obtain ⟨c5, c3, c4, c2⟩ := cnt hI
      apply wX8_endDay_50
      exact ⟨fun _ => TL nl 0 μ' (by omega) hI, fun z => absurd ((cle c5).mpr (Nat.le_refl _)) z⟩
    | succ d ih =>
      intro i μ' hi hI
      obtain ⟨c5, c3, c4, c2⟩ := cnt hI
      apply wX8_endDay_50
      exact ⟨fun z => absurd ((cle c5).mp z) (by omega), fun _ => ⟨by omega, by omega, ih (i + 1) _ (by omega) hI.g⟩⟩
  refine TG ng 0 μ (by omega) ⟨fun _ _ _ _ _ => rfl, fun j => ?_⟩
  unfold edF
  rw [if_neg (by omega), if_neg (by omega), if_neg (by omega), if_neg (by omega)]
/-! a new lift, a new piste -/
theorem t_addLift {P : Option Value → St → Prop} {X : String → St → Prop} (hR : Rok σ b nl np ng W) (h : Rel σ b nl np ng (row μ)) (hn : nl < 6) (x1 x2 x3 x4 x5 x6 : Int32) (hP : ∀ μ9, (∀ k b i s, k ≠ 26 → μ9 k b i s = μ k b i s) → Rel (nlF σ b nl x1 x2 x3 x4 x5 x6) b (nl + 1) np ng (row μ9) → P (some (.int (nI nl))) μ9) : VL G mX8_addLift P X 135 [(0, .ref (zad G.1 10 0 0)), (1, .int x1), (2, .int x2), (3, .int x3), (4, .int x4), (5, .int x5), (6, .int x6), (7, .int (nI 1)), (8, .int (nI (6 + 21 * nl))), (9, .int (nI 0))] [] μ := by
  have e3 := h.cnl hR.1
  have T : ∀ d i, i + d = 21 → VL G mX8_addLift P X 135 [(0, .ref (zad G.1 10 0 0)), (1, .int x1), (2, .int x2), (3, .int x3), (4, .int x4), (5, .int x5), (6, .int x6), (7, .int (nI 1)), (8, .int (nI (6 + 21 * nl))), (9, .int (nI i))] [] (cpR μ 26 (6 + 21 * nl) (fun _ => nI 0) i) := by
    intro d
    induction d with
    | zero =>
      intro i hi
      obtain rfl : i = 21 := by omega
      apply wX8_addLift_135
      refine ⟨fun _ => ⟨6 + 21 * nl, rfl, by omega, 6 + 21 * nl + 1, nI_add _ _, by omega, 6 + 21 * nl + 2, nI_add _ _, by omega, 6 + 21 * nl + 3, nI_add _ _, by omega, 6 + 21 * nl + 4, nI_add _ _, by omega, 6 + 21 * nl + 5, nI_add _ _, by omega, 6 + 21 * nl + 6, nI_add _ _, by omega, ?_⟩, fun h => absurd ((nI_leI (by omega) (by omega)).mpr (Nat.le_refl _)) h⟩
      rw [up_sl (by omega), up_sl (by omega), up_sl (by omega), up_sl (by omega), up_sl (by omega), up_sl (by omega), up_sl (by omega), cpR_no (by omega), e3, nI_add, nI_sub (by omega), Nat.add_sub_cancel]
      refine hP _ (fun k b i s hk => by rw [up_k hk, up_k hk, up_k hk, up_k hk, up_k hk, up_k hk, up_k hk, up_k hk, cpR_k hk]) (nl_rel hR h hn ?_ (fun k hk => ?_) ?_ (fun j j1 j2 => ?_))
      · rw [row_up, if_pos rfl]
      · simp only [row_up]
        have hk10 : k = 0 ∨ k = 1 ∨ k = 2 ∨ k = 3 ∨ k = 4 ∨ k = 5 ∨ k = 6 ∨ 7 ≤ k := by omega
        rcases hk10 with rfl | rfl | rfl | rfl | rfl | rfl | rfl | hk7
        · repeat (first | rw [if_neg (by omega)] | rw [if_pos (by omega)])
          try rfl
        · repeat (first | rw [if_neg (by omega)] | rw [if_pos (by omega)])
          try rfl
        · repeat (first | rw [if_neg (by omega)] | rw [if_pos (by omega)])
          try rfl
        · repeat (first | rw [if_neg (by omega)] | rw [if_pos (by omega)])
          try rfl
        · repeat (first | rw [if_neg (by omega)] | rw [if_pos (by omega)])
          try rfl
        · repeat (first | rw [if_neg (by omega)] | rw [if_pos (by omega)])
          try rfl
        · repeat (first | rw [if_neg (by omega)] | rw [if_pos (by omega)])
          try rfl
        · rw [if_neg (by omega), if_neg (by omega), if_neg (by omega), if_neg (by omega), if_neg (by omega), if_neg (by omega), if_neg (by omega), if_neg (by omega)]
          show cpR μ 26 _ _ _ 26 0 0 _ = _
          rw [cpR_at (by omega) (by omega)]
          have hk3 : k = 7 ∨ k = 8 ∨ k = 9 := by omega
          rcases hk3 with rfl | rfl | rfl <;> rfl
      · rw [row_up, row_up, row_up, row_up, row_up, row_up, row_up, row_up]
        rw [if_neg (by omega), if_neg (by omega), if_neg (by omega), if_neg (by omega), if_neg (by omega), if_neg (by omega), if_neg (by omega), if_neg (by omega)]
        show cpR μ 26 _ _ _ 26 0 0 _ = _
        rw [cpR_at (by omega) (by omega)]
      · rw [row_up, row_up, row_up, row_up, row_up, row_up, row_up, row_up]
        rw [if_neg (by omega), if_neg (by omega), if_neg (by omega), if_neg (by omega), if_neg (by omega), if_neg (by omega), if_neg (by omega), if_neg (by omega)]
        exact cpR_no (by omega)
    | succ d ih =>
      intro i hi
      apply wX8_addLift_135
      refine ⟨fun h => absurd ((nI_leI (by omega) (by omega)).mp h) (by omega), fun _ => ⟨6 + 21 * nl + i, nI_add _ _, by omega, ?_⟩⟩
      have := ih (i + 1) (by omega)
      rw [← cpR_up μ 26 (6 + 21 * nl) (fun _ => nI 0) i] at this
      exact this
  have := T 21 0 (by omega)
  rw [cpR_0] at this
  exact this
theorem t_addPiste {P : Option Value → St → Prop} {X : String → St → Prop} (hC : Cnt σ b nl np ng) (h : Rel σ b nl np ng (row μ)) (hn : np < 10) (x1 x2 x3 x4 : Int32) (hP : ∀ μ9, (∀ k b i s, k ≠ 26 → μ9 k b i s = μ k b i s) → Rel (npF σ b np x1 x2 x3 x4) b nl (np + 1) ng (row μ9) → P (some (.int (nI np))) μ9) : VL G mX8_addPiste P X 91 [(0, .ref (zad G.1 10 0 0)), (1, .int x1), (2, .int x2), (3, .int x3), (4, .int x4), (5, .int (nI (132 + 8 * np))), (6, .int (nI 0))] [] μ := by
  have e4 := h.cnp hC
  have T : ∀ d i, i + d = 8 → VL G mX8_addPiste P X 91 [(0, .ref (zad G.1 10 0 0)), (1, .int x1), (2, .int x2), (3, .int x3), (4, .int x4), (5, .int (nI (132 + 8 * np))), (6, .int (nI i))] [] (cpR μ 26 (132 + 8 * np) (fun _ => nI 0) i) := by
    intro d
    induction d with
    | zero =>
      intro i hi
      obtain rfl : i = 8 := by omega
      apply wX8_addPiste_91
      refine ⟨fun _ => ⟨132 + 8 * np, rfl, by omega, 132 + 8 * np + 1, nI_add _ _, by omega, 132 + 8 * np + 2, nI_add _ _, by omega, 132 + 8 * np + 3, nI_add _ _, by omega, ?_⟩, fun h => absurd ((nI_leI (by omega) (by omega)).mpr (Nat.le_refl _)) h⟩
      rw [up_sl (by omega), up_sl (by omega), up_sl (by omega), up_sl (by omega), cpR_no (by omega), e4, nI_add, nI_sub (by omega), Nat.add_sub_cancel]
      refine hP _ (fun k b i s hk => by rw [up_k hk, up_k hk, up_k hk, up_k hk, up_k hk, cpR_k hk]) (np_rel h hn ?_ (fun k hk => ?_) (fun j j1 j2 => ?_))
      · rw [row_up, if_pos rfl]
      · rw [row_up, row_up, row_up, row_up, row_up]
        have hk10 : k = 0 ∨ k = 1 ∨ k = 2 ∨ k = 3 ∨ 4 ≤ k := by omega
        rcases hk10 with rfl | rfl | rfl | rfl | hk7
        · repeat (first | rw [if_neg (by omega)] | rw [if_pos (by omega)])
          try rfl
        · repeat (first | rw [if_neg (by omega)] | rw [if_pos (by omega)])
          try rfl
        · repeat (first | rw [if_neg (by omega)] | rw [if_pos (by omega)])
          try rfl
        · repeat (first | rw [if_neg (by omega)] | rw [if_pos (by omega)])
          try rfl
        · rw [if_neg (by omega), if_neg (by omega), if_neg (by omega), if_neg (by omega), if_neg (by omega)]
          show cpR μ 26 _ _ _ 26 0 0 _ = _
          rw [cpR_at (by omega) (by omega)]
          have hk3 : k = 4 ∨ k = 5 ∨ k = 6 ∨ k = 7 := by omega
          rcases hk3 with rfl | rfl | rfl | rfl <;> rfl
      · rw [row_up, row_up, row_up, row_up, row_up]
        rw [if_neg (by omega), if_neg (by omega), if_neg (by omega), if_neg (by omega), if_neg (by omega)]
        exact cpR_no (by omega)
    | succ d ih =>
      intro i hi
      apply wX8_addPiste_91
      refine ⟨fun h => absurd ((nI_leI (by omega) (by omega)).mp h) (by omega), fun _ => ⟨132 + 8 * np + i, nI_add _ _, by omega, ?_⟩⟩
      have := ih (i + 1) (by omega)
      rw [← cpR_up μ 26 (132 + 8 * np) (fun _ => nI 0) i] at this
      exact this
  have := T 8 0 (by omega)
  rw [cpR_0] at this
  exact this
end MCH
