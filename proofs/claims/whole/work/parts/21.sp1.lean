/-! ===== what the leaves answer ===== -/
abbrev Ret (v : Option Value) (w : Option Value) (μ' μ : St) : Prop := v = w ∧ μ' = μ
def btw (x lo hi : Int32) : Bool := decide (lo ≤ x) && decide (x ≤ hi)
def isSt (x : Int32) : Bool := btw x (nI 0) (nI 7)
def idx (x c : Int32) : Bool := decide (0 ≤ x) && decide (x < c)
def tkf (steps speed : Int32) : Int32 := if speed = nI 2 then (steps + nI 1) / nI 2 else steps
def fmd (a m : Int32) : Int32 := if 0 ≤ a ^^^ m then a - a / m * m else if a - a / m * m = 0 then a - a / m * m else (a - a / m * m) + m
def iab (x : Int32) : Int32 := if 0 ≤ x then x else -x
def imn (x y : Int32) : Int32 := if y < x then y else x
/-- the steps of a lift's clock to a cabin -/
def stc (μ : St) (b i : Nat) (x : Int32) : Int32 := ((nI 2 * μ 6 b i 3) * x) - μ 6 b i 7
/-- a piste is too difficult for a guest -/
def tdf (μ : St) (b i j : Nat) : Bool := decide (μ 3 b j 0 + nI 1 < μ 7 b i 2)
/-- the rest that a piste has for a guest -/
def rfo (μ : St) (b i j : Nat) : Int32 := if μ 3 b j 0 < μ 7 b i 2 then nI 2 * μ 7 b i 3 else μ 7 b i 3
def gis (μ : St) (b i : Nat) (x y : Int32) : Bool := decide (μ 3 b i 4 = x) && decide (μ 3 b i 5 = y)
/-- a guest becomes so: state, place, rest, place in the queue -/
def gbc (μ : St) (b i : Nat) (s w r p : Int32) : St := up (up (up (up μ 3 b i 4 s) 3 b i 5 w) 3 b i 6 r) 3 b i 7 p
def pfr (μ : St) (b i : Nat) : St := up (up (up μ 7 b i 4 (nI 0)) 7 b i 5 (nI 0)) 7 b i 6 (nI 0)
/-- the speed of a force -/
def spf (f : Int32) : Int32 := if f < nI 9 then (if f < nI 6 then nI 2 else nI 1) else nI 0
def spo (μ : St) (b i : Nat) : Int32 := spf (μ 2 b 0 6 + μ 6 b i 6)
def ihd (μ : St) (b i : Nat) : Bool := decide (spo μ b i = 0)
/-- the ticket of guest i opens lift j -/
def iop (μ : St) (b i j : Nat) : Bool := decide (¬ (μ 3 b i 1 >>> (μ 6 b j 2 &&& 31)) &&& nI 1 = 0) && (decide (μ 3 b i 2 ≤ μ 2 b 0 8) && decide (μ 2 b 0 8 ≤ μ 3 b i 3))
def iwl (μ : St) (b i j : Nat) : Bool := iop μ b i j && !ihd μ b j
def iwp (μ : St) (b i j : Nat) : Bool := decide (μ 7 b j 4 = 0) && !tdf μ b j i
theorem nI_1' : nI 1 = 1 := by decide
theorem i_nle {a b : Int32} : ¬ a ≤ b ↔ b < a := Int32.not_le
theorem i_nlt {a b : Int32} : ¬ a < b ↔ b ≤ a := Int32.not_lt
theorem bI_ff : bI false = 0 := rfl
theorem bI_tt : bI true = 1 := rfl
section SP1
variable (G : Gl)
theorem s_X7_isBetween (x lo hi : Int32) (μ : St) : Con G mX7_isBetween [.int x, .int lo, .int hi] μ (fun v μ9 => v = some (.int (bI (btw x lo hi))) ∧ μ9 = μ) noX := by
  apply wX7_isBetween
  refine ⟨fun h1 => ⟨?_, rfl⟩, fun h1 => ⟨fun h2 => ⟨?_, rfl⟩, fun h2 => ⟨?_, rfl⟩⟩⟩
  · rw [show btw x lo hi = false by rw [btw, decide_eq_false (i_nle.mpr h1)]; rfl, bI_0]
  · rw [show btw x lo hi = false by rw [btw, decide_eq_false (p := x ≤ hi) (i_nle.mpr h2), Bool.and_false], bI_0]
  · rw [show btw x lo hi = true by rw [btw, decide_eq_true (i_nlt.mp h1), decide_eq_true (i_nlt.mp h2)]; rfl, bI_1]
theorem s_X7_ticksFor (x y : Int32) (μ : St) : Con G mX7_ticksFor [.int x, .int y] μ (fun v μ9 => v = some (.int (tkf x y)) ∧ μ9 = μ) noX := by
  apply wX7_ticksFor
  refine ⟨fun h1 => ⟨?_, rfl⟩, fun h1 => ⟨?_, rfl⟩⟩ <;> simp [tkf, h1]
theorem s_J9_floorMod_7cf53 (x y : Int32) (hy : ¬ y = 0) (μ : St) : Con G mJ9_floorMod_7cf53 [.int x, .int y] μ (fun v μ9 => v = some (.int (fmd x y)) ∧ μ9 = μ) noX := by
  apply wJ9_floorMod_7cf53
  refine ⟨hy, fun h1 => ⟨?_, rfl⟩, fun h1 => ⟨fun h2 => ⟨?_, rfl⟩, fun h2 => ⟨?_, rfl⟩⟩⟩ <;> first | simp [fmd, h1, h2] | simp [fmd, h1]
theorem s_J9_abs_0f7a4 (x : Int32) (μ : St) : Con G mJ9_abs_0f7a4 [.int x] μ (fun v μ9 => v = some (.int (iab x)) ∧ μ9 = μ) noX := by
  apply wJ9_abs_0f7a4
  refine ⟨fun h1 => ⟨?_, rfl⟩, fun h1 => ⟨?_, rfl⟩⟩ <;> simp [iab, h1]
theorem s_J9_min_7cf53 (x y : Int32) (μ : St) : Con G mJ9_min_7cf53 [.int x, .int y] μ (fun v μ9 => v = some (.int (imn x y)) ∧ μ9 = μ) noX := by
  apply wJ9_min_7cf53
  refine ⟨fun h1 => ⟨?_, rfl⟩, fun h1 => ⟨?_, rfl⟩⟩ <;> simp [imn, h1]
theorem s_X4_stepsToCabin (b : Nat) (hb : b < 11) (i : Nat) (hi : i < 6) (x : Int32) (μ : St) : Con G mX4_stepsToCabin [.ref (zad G.1 6 b i), .int x] μ (fun v μ9 => v = some (.int (stc μ b i x)) ∧ μ9 = μ) noX :=
  wX4_stepsToCabin G b hb i hi x μ ⟨rfl, rfl⟩
theorem s_X4_restOfRide (b : Nat) (hb : b < 11) (i : Nat) (hi : i < 6) (μ : St) : Con G mX4_restOfRide [.ref (zad G.1 6 b i)] μ (fun v μ9 => v = some (.int (nI 2 * μ 6 b i 5)) ∧ μ9 = μ) noX :=
  wX4_restOfRide G b hb i hi μ ⟨rfl, rfl⟩
theorem s_X5_isTooDifficultFor (b : Nat) (hb : b < 11) (i : Nat) (hi : i < 10) (j : Nat) (hj : j < 16) (μ : St) : Con G mX5_isTooDifficultFor [.ref (zad G.1 7 b i), .ref (zad G.1 3 b j)] μ (fun v μ9 => v = some (.int (bI (tdf μ b i j))) ∧ μ9 = μ) noX := by
  apply wX5_isTooDifficultFor G b hb i hi j hj
  refine ⟨fun h1 => ⟨?_, rfl⟩, fun h1 => ⟨?_, rfl⟩⟩
  · rw [show tdf μ b i j = false from decide_eq_false (i_nlt.mpr h1), bI_0]
  · rw [show tdf μ b i j = true from decide_eq_true (i_nle.mp h1), bI_1]
theorem s_X5_restFor (b : Nat) (hb : b < 11) (i : Nat) (hi : i < 10) (j : Nat) (hj : j < 16) (μ : St) : Con G mX5_restFor [.ref (zad G.1 7 b i), .ref (zad G.1 3 b j)] μ (fun v μ9 => v = some (.int (rfo μ b i j)) ∧ μ9 = μ) noX := by
  apply wX5_restFor G b hb i hi j hj
  refine ⟨fun h1 => ⟨?_, rfl⟩, fun h1 => ⟨?_, rfl⟩⟩
  · rw [rfo, if_neg (i_nlt.mpr h1)]
  · rw [rfo, if_pos (i_nle.mp h1)]
theorem s_X1_is (b : Nat) (hb : b < 11) (i : Nat) (hi : i < 16) (x y : Int32) (μ : St) : Con G mX1_is [.ref (zad G.1 3 b i), .int x, .int y] μ (fun v μ9 => v = some (.int (bI (gis μ b i x y))) ∧ μ9 = μ) noX := by
  apply wX1_is G b hb i hi
  refine ⟨fun h1 => ⟨?_, rfl⟩, fun h1 => ⟨fun h2 => ⟨?_, rfl⟩, fun h2 => ⟨?_, rfl⟩⟩⟩ <;> first | simp [gis, h1, h2, bI, nI_0, nI_1'] | simp [gis, h1, bI, nI_0, nI_1']
theorem s_X1_become (b : Nat) (hb : b < 11) (i : Nat) (hi : i < 16) (x y z w : Int32) (μ : St) : Con G mX1_become [.ref (zad G.1 3 b i), .int x, .int y, .int z, .int w] μ (fun v μ9 => v = none ∧ μ9 = gbc μ b i x y z w) noX :=
  wX1_become G b hb i hi x y z w μ ⟨rfl, rfl⟩
theorem s_X5_becomeFresh (b : Nat) (hb : b < 11) (i : Nat) (hi : i < 10) (μ : St) : Con G mX5_becomeFresh [.ref (zad G.1 7 b i)] μ (fun v μ9 => v = none ∧ μ9 = pfr μ b i) noX :=
  wX5_becomeFresh G b hb i hi μ ⟨rfl, rfl⟩
theorem idx_at {x c : Int32} {N : Nat} (h0 : ¬ x < 0) (h1 : ¬ c ≤ x) (hc : c ≤ nI N) (hN : N < 2 ^ 31) : ∃ j : Nat, x = nI j ∧ j < N ∧ idx x c = true := by
  obtain ⟨j, hj, rfl⟩ := nI_of h0
  have h2 : nI j < nI N := Int32.lt_of_lt_of_le (i_nle.mp h1) hc
  exact ⟨j, rfl, (nI_ltI hj hN).mp h2, by simp [idx, i_nlt.mp h0, i_nle.mp h1]⟩
theorem s_X0_liftAt (b : Nat) (hb : b < 11) (x : Int32) (μ : St) (hc : μ 2 b 0 3 ≤ nI 6) : Con G mX0_liftAt [.ref (zad G.1 2 b 0), .int x] μ (fun v μ9 => (idx x (μ 2 b 0 3) = false ∧ v = some .null ∧ μ9 = μ) ∨ (∃ i : Nat, i < 6 ∧ x = nI i ∧ idx x (μ 2 b 0 3) = true ∧ v = some (.ref (zad G.1 6 b i)) ∧ μ9 = μ)) noX := by
  apply wX0_liftAt G b hb
  refine ⟨fun h1 => Or.inl ⟨?_, rfl, rfl⟩, fun h1 => ⟨fun h2 => Or.inl ⟨?_, rfl, rfl⟩, fun h2 => ?_⟩⟩
  · simp [idx, i_nle.mpr h1]
  · simp [idx, i_nlt.mpr h2]
  · obtain ⟨j, h3, h4, h5⟩ := idx_at h1 h2 hc (by decide)
    exact ⟨j, h3, h4, Or.inr ⟨j, h4, h3, h5, rfl, rfl⟩⟩
theorem s_X0_pisteAt (b : Nat) (hb : b < 11) (x : Int32) (μ : St) (hc : μ 2 b 0 4 ≤ nI 10) : Con G mX0_pisteAt [.ref (zad G.1 2 b 0), .int x] μ (fun v μ9 => (idx x (μ 2 b 0 4) = false ∧ v = some .null ∧ μ9 = μ) ∨ (∃ i : Nat, i < 10 ∧ x = nI i ∧ idx x (μ 2 b 0 4) = true ∧ v = some (.ref (zad G.1 7 b i)) ∧ μ9 = μ)) noX := by
  apply wX0_pisteAt G b hb
  refine ⟨fun h1 => Or.inl ⟨?_, rfl, rfl⟩, fun h1 => ⟨fun h2 => Or.inl ⟨?_, rfl, rfl⟩, fun h2 => ?_⟩⟩
  · simp [idx, i_nle.mpr h1]
  · simp [idx, i_nlt.mpr h2]
  · obtain ⟨j, h3, h4, h5⟩ := idx_at h1 h2 hc (by decide)
    exact ⟨j, h3, h4, Or.inr ⟨j, h4, h3, h5, rfl, rfl⟩⟩
theorem s_X0_guestAt (b : Nat) (hb : b < 11) (x : Int32) (μ : St) (hc : μ 2 b 0 5 ≤ nI 16) : Con G mX0_guestAt [.ref (zad G.1 2 b 0), .int x] μ (fun v μ9 => (idx x (μ 2 b 0 5) = false ∧ v = some .null ∧ μ9 = μ) ∨ (∃ i : Nat, i < 16 ∧ x = nI i ∧ idx x (μ 2 b 0 5) = true ∧ v = some (.ref (zad G.1 3 b i)) ∧ μ9 = μ)) noX := by
  apply wX0_guestAt G b hb
  refine ⟨fun h1 => Or.inl ⟨?_, rfl, rfl⟩, fun h1 => ⟨fun h2 => Or.inl ⟨?_, rfl, rfl⟩, fun h2 => ?_⟩⟩
  · simp [idx, i_nle.mpr h1]
  · simp [idx, i_nlt.mpr h2]
  · obtain ⟨j, h3, h4, h5⟩ := idx_at h1 h2 hc (by decide)
    exact ⟨j, h3, h4, Or.inr ⟨j, h4, h3, h5, rfl, rfl⟩⟩
theorem s_X0_speedOf (b : Nat) (hb : b < 11) (i : Nat) (hi : i < 6) (μ : St) : Con G mX0_speedOf [.ref (zad G.1 2 b 0), .ref (zad G.1 6 b i)] μ (fun v μ9 => v = some (.int (spo μ b i)) ∧ μ9 = μ) noX := by
  apply wX0_speedOf G b hb i hi
  refine ⟨fun h1 => ⟨fun h2 => ⟨?_, rfl⟩, fun h2 => ⟨?_, rfl⟩⟩, fun h1 => ⟨?_, rfl⟩⟩ <;> first | simp [spo, spf, h1, h2] | simp [spo, spf, h1]
theorem s_X0_isOpenedFor (b : Nat) (hb : b < 11) (i : Nat) (hi : i < 16) (j : Nat) (hj : j < 6) (μ : St) : Con G mX0_isOpenedFor [.ref (zad G.1 2 b 0), .ref (zad G.1 3 b i), .ref (zad G.1 6 b j)] μ (fun v μ9 => v = some (.int (bI (iop μ b i j))) ∧ μ9 = μ) noX := by
  apply wX0_isOpenedFor G b hb i hi j hj
  refine ⟨fun h1 => ⟨?_, rfl⟩, fun h1 => ⟨fun h2 => ⟨?_, rfl⟩, fun h2 => ⟨fun h3 => ⟨?_, rfl⟩, fun h3 => ⟨?_, rfl⟩⟩⟩⟩
  · rw [show iop μ b i j = false by rw [iop, decide_eq_false (fun h => h h1)]; rfl, bI_0]
  · rw [show iop μ b i j = false by rw [iop, decide_eq_false (p := μ 3 b i 2 ≤ μ 2 b 0 8) (i_nle.mpr h2), Bool.false_and, Bool.and_false], bI_0]
  · rw [show iop μ b i j = false by rw [iop, decide_eq_false (p := μ 2 b 0 8 ≤ μ 3 b i 3) (i_nle.mpr h3), Bool.and_false, Bool.and_false], bI_0]
  · rw [show iop μ b i j = true by rw [iop, decide_eq_true h1, decide_eq_true (i_nlt.mp h2), decide_eq_true (i_nlt.mp h3)]; rfl, bI_1]
end SP1
