/-! ===== THE STORE: the ints of both systems by kind of object, area, place and slot; where each object lies ===== -/
abbrev St : Type := Nat → Nat → Nat → Nat → Int32
def up (μ : St) (k b i s : Nat) (x : Int32) : St := fun k' b' i' s' => if k' = k ∧ b' = b ∧ i' = i ∧ s' = s then x else μ k' b' i' s'
theorem up_self (μ : St) (k b i s : Nat) (x : Int32) : up μ k b i s x k b i s = x := by simp [up]
theorem up_k {μ : St} {k b i s : Nat} {x : Int32} {k' b' i' s' : Nat} (h : k' ≠ k) : up μ k b i s x k' b' i' s' = μ k' b' i' s' := by simp [up, h]
theorem up_b {μ : St} {k b i s : Nat} {x : Int32} {k' b' i' s' : Nat} (h : b' ≠ b) : up μ k b i s x k' b' i' s' = μ k' b' i' s' := by simp [up, h]
theorem up_i {μ : St} {k b i s : Nat} {x : Int32} {k' b' i' s' : Nat} (h : i' ≠ i) : up μ k b i s x k' b' i' s' = μ k' b' i' s' := by simp [up, h]
theorem up_sl {μ : St} {k b i s : Nat} {x : Int32} {k' b' i' s' : Nat} (h : s' ≠ s) : up μ k b i s x k' b' i' s' = μ k' b' i' s' := by simp [up, h]
def zab (b : Nat) : Nat := if b < 3 then 1 + 36 * b else 3 + 36 * b
/-- where an object lies behind the law's start: kind (2 Area, 3 Guest, 4 History, 5 Input, 6 Lift, 7 Piste, 8 Ways, 9 the class, 10 the reference; 20 to 23 rows of lifts, pistes, guests, areas; 24 text; 25 durations; 26 to 34 the reference's rows; 35, 36 the law's), area, place -/
def zof (k b i : Nat) : Nat := match k with
  | 2 => zab b
  | 20 => zab b + 1
  | 6 => zab b + 2 + i
  | 21 => zab b + 8
  | 7 => zab b + 9 + i
  | 22 => zab b + 19
  | 3 => zab b + 20 + i
  | 9 => 0
  | 4 => 109
  | 23 => 110
  | 5 => 399
  | 24 => 400
  | 8 => 401
  | 25 => 402
  | 10 => 403
  | k => 378 + k
def zokb (k b i : Nat) : Bool := (decide (k < 37) && decide (b < 11) && decide (i < 16)) && (match k with
  | 2 => i == 0
  | 20 => i == 0
  | 21 => i == 0
  | 22 => i == 0
  | 3 => true
  | 6 => decide (i < 6)
  | 7 => decide (i < 10)
  | k => b == 0 && i == 0 && ((k == 4 || k == 5 || k == 8 || k == 9 || k == 10) || decide (23 ≤ k)))
def zok (k b i : Nat) : Prop := zokb k b i = true
def zarea (b r : Nat) : Nat × Nat × Nat := if r = 0 then (2, b, 0) else if r = 1 then (20, b, 0) else if r < 8 then (6, b, r - 2) else if r = 8 then (21, b, 0) else if r < 19 then (7, b, r - 9) else if r = 19 then (22, b, 0) else (3, b, r - 20)
def zdec (n : Nat) : Nat × Nat × Nat := if n = 0 then (9, 0, 0) else if n < 109 then zarea ((n - 1) / 36) ((n - 1) % 36) else if n = 109 then (4, 0, 0) else if n = 110 then (23, 0, 0) else if n < 399 then zarea ((n - 3) / 36) ((n - 3) % 36) else if n = 399 then (5, 0, 0) else if n = 400 then (24, 0, 0) else if n = 401 then (8, 0, 0) else if n = 402 then (25, 0, 0) else if n = 403 then (10, 0, 0) else (n - 378, 0, 0)
theorem zdec_cmp : ((List.range 37).all fun k => (List.range 11).all fun b => (List.range 16).all fun i => !zokb k b i || decide (zdec (zof k b i) = (k, b, i))) = true := by decide +kernel
theorem zdec_all (k : Nat) (hk : k < 37) (b : Nat) (hb : b < 11) (i : Nat) (hi : i < 16) (h : zokb k b i = true) : zdec (zof k b i) = (k, b, i) := by
  have h1 := List.all_eq_true.mp zdec_cmp k (List.mem_range.mpr hk)
  have h2 := List.all_eq_true.mp h1 b (List.mem_range.mpr hb)
  have h3 := List.all_eq_true.mp h2 i (List.mem_range.mpr hi)
  rw [h] at h3
  simpa using h3
theorem zok_lt {k b i : Nat} (h : zok k b i) : k < 37 ∧ b < 11 ∧ i < 16 := by
  unfold zok zokb at h
  simp only [Bool.and_eq_true, decide_eq_true_eq] at h
  exact ⟨h.1.1.1, h.1.1.2, h.1.2⟩
theorem zdec_of {k b i : Nat} (h : zok k b i) : zdec (zof k b i) = (k, b, i) := by
  obtain ⟨h1, h2, h3⟩ := zok_lt h
  exact zdec_all k h1 b h2 i h3 h
theorem zof_inj {k b i k' b' i' : Nat} (h : zok k b i) (h' : zok k' b' i') (e : zof k b i = zof k' b' i') : k = k' ∧ b = b' ∧ i = i' := by
  have h1 := zdec_of h
  rw [e, zdec_of h'] at h1
  simp only [Prod.mk.injEq] at h1
  exact ⟨h1.1.symm, h1.2.1.symm, h1.2.2.symm⟩
theorem zok_2 {b : Nat} (hb : b < 11) : zok 2 b 0 := by simp [zok, zokb, hb]
theorem zok_20 {b : Nat} (hb : b < 11) : zok 20 b 0 := by simp [zok, zokb, hb]
theorem zok_21 {b : Nat} (hb : b < 11) : zok 21 b 0 := by simp [zok, zokb, hb]
theorem zok_22 {b : Nat} (hb : b < 11) : zok 22 b 0 := by simp [zok, zokb, hb]
theorem zok_3 {b i : Nat} (hb : b < 11) (hi : i < 16) : zok 3 b i := by simp [zok, zokb, hb, hi]
theorem zok_6 {b i : Nat} (hb : b < 11) (hi : i < 6) : zok 6 b i := by simp [zok, zokb, hb, hi]; omega
theorem zok_7 {b i : Nat} (hb : b < 11) (hi : i < 10) : zok 7 b i := by simp [zok, zokb, hb, hi]; omega
/-- the address of an object -/
def zad (B k b i : Nat) : Nat := B + zof k b i
theorem zad_inj {B k b i k' b' i' : Nat} (h : zok k b i) (h' : zok k' b' i') (e : zad B k b i = zad B k' b' i') : k = k' ∧ b = b' ∧ i = i' := zof_inj h h' (by unfold zad at e; omega)
theorem zad_ge (B k b i : Nat) : B ≤ zad B k b i := Nat.le_add_right _ _
/-- what a slot holds: a reference that never changes, or the store's int -/
def zvl (B : Nat) (μ : St) (k b i s : Nat) : Value := match k with
  | 2 => (match s with | 0 => .ref (zad B 20 b 0) | 1 => .ref (zad B 21 b 0) | 2 => .ref (zad B 22 b 0) | s => .int (μ 2 b i s))
  | 4 => (match s with | 0 => .ref (zad B 23 0 0) | s => .int (μ 4 b i s))
  | 5 => (match s with | 0 => .ref (zad B 24 0 0) | s => .int (μ 5 b i s))
  | 8 => .ref (zad B 25 0 0)
  | 9 => (match s with | 0 => .ref (zad B 2 0 0) | 1 => .ref (zad B 2 1 0) | 2 => .ref (zad B 2 2 0) | 3 => .ref (zad B 4 0 0) | 4 => .ref (zad B 5 0 0) | 5 => .ref (zad B 8 0 0) | s => .int (μ 9 b i s))
  | 10 => (match s with | 0 => .ref (zad B 26 0 0) | 1 => .ref (zad B 27 0 0) | 3 => .ref (zad B 28 0 0) | 8 => .ref (zad B 29 0 0) | 9 => .ref (zad B 30 0 0) | 11 => .ref (zad B 31 0 0) | 17 => .ref (zad B 32 0 0) | 18 => .ref (zad B 33 0 0) | 19 => .ref (zad B 34 0 0) | s => .int (μ 10 b i s))
  | 20 => .ref (zad B 6 b s)
  | 21 => .ref (zad B 7 b s)
  | 22 => .ref (zad B 3 b s)
  | 23 => .ref (zad B 2 (s + 3) 0)
  | 35 => .long (μ 35 b i s).toInt64
  | 36 => .double (FP.ddiv (FP.i2d (μ 36 0 0 0)) (FP.i2d (μ 36 0 0 1)))
  | k => .int (μ k b i s)
/-- the length of a row -/
def zln (k : Nat) : Nat := match k with
  | 20 => 6 | 21 => 10 | 22 => 16 | 23 => 8 | 24 => 60 | 25 => 8
  | 26 => 372 | 27 => 372 | 28 => 2976 | 29 => 372 | 30 => 8 | 31 => 60 | 32 => 60 | 33 => 60 | 34 => 60
  | _ => 1
/-- the type of a row's places -/
def zty (k : Nat) : FieldType := match k with
  | 20 => .object "SlopeOperator$Lift" | 21 => .object "SlopeOperator$Piste" | 22 => .object "SlopeOperator$Guest" | 23 => .object "SlopeOperator$Area"
  | 24 => .char | 35 => .long | 36 => .double | _ => .int
/-- constants of a launch: where the world begins; classes and slots; the rows' classes -/
abbrev Gl : Type := Nat × va_G × (Nat → ClassId) × Bool
def zat (G : Gl) (μ : St) (k b i : Nat) (H : Heap) : Prop := if k < 20 then ∃ r : vw_C, vwCl[k]? = some r ∧ t_OB (zad G.1 k b i) (G.2.1.1 k) r.2.2 (G.2.1.2 k) H (zvl G.1 μ k b i) else H[zad G.1 k b i]? = some (arrV (G.2.2.1 k) (zln k) (zvl G.1 μ k b i))
/-- the heap holds both systems with the store's ints -/
def Wd (G : Gl) (μ : St) (H : Heap) : Prop := ∀ k b i, zok k b i → (G.2.2.2 = false → k < 35) → zat G μ k b i H
/-- the places that a run may write: behind the law's start, the law's own two rows only where they are in the world -/
def AA (G : Gl) : Addr → Prop := fun q => G.1 ≤ q ∧ (G.2.2.2 = true ∨ (q ≠ G.1 + 413 ∧ q ≠ G.1 + 414))
theorem zad_AA {G : Gl} {k b i : Nat} (ho : zok k b i) (hk : k < 35) : AA G (zad G.1 k b i) := by
  refine ⟨zad_ge _ _ _ _, Or.inr ⟨fun z => ?_, fun z => ?_⟩⟩
  · have h := (zof_inj (k' := 35) (b' := 0) (i' := 0) ho rfl (Nat.add_left_cancel (show G.1 + zof k b i = G.1 + 413 from z))).1
    omega
  · have h := (zof_inj (k' := 36) (b' := 0) (i' := 0) ho rfl (Nat.add_left_cancel (show G.1 + zof k b i = G.1 + 414 from z))).1
    omega
theorem zad_A1 {G : Gl} (hG : G.2.2.2 = true) (k b i : Nat) : AA G (zad G.1 k b i) := ⟨zad_ge _ _ _ _, Or.inl hG⟩
theorem zty_int {k : Nat} (hk : k < 37) (h : zty k = .int) : k < 35 := by
  rcases Nat.lt_or_ge k 35 with h1 | h1
  · exact h1
  · have h2 : k = 35 ∨ k = 36 := by omega
    rcases h2 with rfl | rfl <;> cases h
theorem zty_char {k : Nat} (hk : k < 37) (h : zty k = .char) : k < 35 := by
  rcases Nat.lt_or_ge k 35 with h1 | h1
  · exact h1
  · have h2 : k = 35 ∨ k = 36 := by omega
    rcases h2 with rfl | rfl <;> cases h
theorem zty_ref {k : Nat} (hk : k < 37) (h : (zty k).isReference = true) : k < 35 := by
  rcases Nat.lt_or_ge k 35 with h1 | h1
  · exact h1
  · have h2 : k = 35 ∨ k = 36 := by omega
    rcases h2 with rfl | rfl <;> cases h
theorem zat.kept {G : Gl} {μ : St} {k b i : Nat} {H H1 : Heap} (h : zat G μ k b i H) (hq : H1[zad G.1 k b i]? = H[zad G.1 k b i]?) : zat G μ k b i H1 := by
  unfold zat at h ⊢
  by_cases hk : k < 20
  · rw [if_pos hk] at h ⊢
    obtain ⟨r, h1, h2⟩ := h
    exact ⟨r, h1, h2.kept hq⟩
  · rw [if_neg hk] at h ⊢
    rw [hq]
    exact h
theorem zat.lt {G : Gl} {μ : St} {k b i : Nat} {H : Heap} (h : zat G μ k b i H) : zad G.1 k b i < H.size := by
  unfold zat at h
  by_cases hk : k < 20
  · rw [if_pos hk] at h
    obtain ⟨r, h1, cell, h2, -⟩ := h
    exact (Array.getElem?_eq_some_iff.mp h2).1
  · rw [if_neg hk] at h
    exact (Array.getElem?_eq_some_iff.mp h).1
theorem Wd.kept {G : Gl} {μ : St} {H H1 : Heap} (h : Wd G μ H) (hq : ∀ q : Nat, q < H.size → H1[q]? = H[q]?) : Wd G μ H1 := fun k b i ho hf => (h k b i ho hf).kept (hq _ (h k b i ho hf).lt)
/-- a slot other than the written one reads as before -/
theorem zvl_up_ne {B : Nat} {μ : St} {k b i s : Nat} {x : Int32} {k' b' i' s' : Nat} (h : ¬ (k' = k ∧ b' = b ∧ i' = i)) (h36 : k ≠ 36) : zvl B (up μ k b i s x) k' b' i' s' = zvl B μ k' b' i' s' := by
  have e : ∀ s'', up μ k b i s x k' b' i' s'' = μ k' b' i' s'' := fun s'' => by
    unfold up
    rw [if_neg (fun z => h ⟨z.1, z.2.1, z.2.2.1⟩)]
  have e36 : ∀ j, up μ k b i s x 36 0 0 j = μ 36 0 0 j := fun j => up_k (fun z => h36 z.symm)
  unfold zvl
  split <;> (try split) <;> simp_all
theorem zvl_up_s {B : Nat} {μ : St} {k b i s : Nat} {x : Int32} {s' : Nat} (h : s' ≠ s) (h36 : k ≠ 36) : zvl B (up μ k b i s x) k b i s' = zvl B μ k b i s' := by
  have e : up μ k b i s x k b i s' = μ k b i s' := up_sl h
  have e36 : ∀ j, up μ k b i s x 36 0 0 j = μ 36 0 0 j := fun j => up_k (fun z => h36 z.symm)
  unfold zvl
  split <;> (try split) <;> simp_all
