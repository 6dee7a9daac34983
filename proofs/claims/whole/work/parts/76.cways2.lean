/-! ===== sets of stations, first parts ===== -/
theorem bit_or : ∀ m, m < 256 → ∀ v, v < 8 → nI m ||| ((nI 1) <<< ((nI v) &&& 31)) = nI (m ||| 2 ^ v) := by decide +kernel
theorem bit_at : ∀ m, m < 256 → ∀ v, v < 8 → (((nI m) >>> ((nI v) &&& 31)) &&& (nI 1) = 0 ↔ m.testBit v = false) := by decide +kernel
theorem bit_one : ∀ v, v < 8 → (nI 1) <<< ((nI v) &&& 31) = nI (2 ^ v) := by decide +kernel
/-- the set as a number -/
def Bs (m : Nat) (S : Nat → Bool) : Prop := m < 256 ∧ ∀ s, s < 8 → m.testBit s = S s
theorem Bs.one {a : Nat} (ha : a < 8) : Bs (2 ^ a) (fun x => decide (x = a)) := by
  have h : ∀ a, a < 8 → 2 ^ a < 256 := by decide
  refine ⟨h a ha, fun s _ => ?_⟩
  rw [Nat.testBit_two_pow]
  show _ = decide (s = a)
  by_cases c : a = s
  · rw [decide_eq_true c, decide_eq_true c.symm]
  · rw [decide_eq_false c, decide_eq_false (fun z => c z.symm)]
theorem Bs.add {m : Nat} {S : Nat → Bool} (h : Bs m S) {v : Nat} (hv : v < 8) : Bs (m ||| 2 ^ v) (fun s => if s = v then true else S s) := by
  have h2 : ∀ a, a < 8 → 2 ^ a < 2 ^ 8 := by decide
  refine ⟨Nat.or_lt_two_pow (n := 8) h.1 (h2 v hv), fun s hs => ?_⟩
  rw [Nat.testBit_or, Nat.testBit_two_pow, h.2 s hs]
  show _ = (if s = v then true else S s)
  by_cases c : s = v
  · rw [decide_eq_true c.symm, if_pos c, Bool.or_true]
  · rw [decide_eq_false (fun z => c z.symm), if_neg c, Bool.or_false]
theorem Bs.uni {m m' : Nat} {S S' : Nat → Bool} (h : Bs m S) (h' : Bs m' S') (e : ∀ s, s < 8 → S s = S' s) : m = m' := by
  refine Nat.eq_of_testBit_eq (fun s => ?_)
  by_cases hs : s < 8
  · rw [h.2 s hs, h'.2 s hs, e s hs]
  · have h2 : 2 ^ 8 ≤ 2 ^ s := Nat.pow_le_pow_right (by decide) (by omega)
    have a1 := h.1
    have a2 := h'.1
    rw [Nat.testBit_lt_two_pow (by omega), Nat.testBit_lt_two_pow (by omega)]
theorem Bs.ext {m : Nat} {S S' : Nat → Bool} (h : Bs m S) (e : ∀ s, s < 8 → S s = S' s) : Bs m S' := ⟨h.1, fun s hs => by rw [h.2 s hs, e s hs]⟩
theorem spr_add {S : Nat → Bool} {u v w : Nat} (h : S u = true) : spr S (u, v, w) = fun s => if s = v then true else S s := funext fun s => by
  show (if s = v ∧ S u = true then true else S s) = _
  by_cases c : s = v
  · rw [if_pos ⟨c, h⟩, if_pos c]
  · rw [if_neg (fun z => c z.1), if_neg c]
theorem spr_no {S : Nat → Bool} {u v w : Nat} (h : S u = false) : spr S (u, v, w) = S := funext fun s => by
  show (if s = v ∧ S u = true then true else S s) = _
  rw [if_neg (fun z => by rw [h] at z; cases z.2)]
section CW2
variable {σ μ : St} {b nl np ng W : Nat} (G : Gl)
theorem s_X6_spread (hb : b < 11) (hR : Rok μ b nl np ng W) {g : Nat} (hg : g < 16) {m : Nat} {S : Nat → Bool} (h : Bs m S) : Con G mX6_spread [.ref (zad G.1 8 0 0), .ref (zad G.1 2 b 0), .ref (zad G.1 3 b g), .int (nI m)] μ (fun r μ9 => ∃ m', r = some (.int (nI m')) ∧ μ9 = μ ∧ Bs m' (spd (esA μ b g nl np) S)) noX := by
  have hn1 := hR.1.1.2
  have hn2 := hR.1.2.1.2
  have TP : ∀ k i (m' : Nat), i + k = np → Bs m' (spd (esL μ b g nl ++ esP μ b g i) S) → VL G mX6_spread (fun r μ9 => ∃ m', r = some (.int (nI m')) ∧ μ9 = μ ∧ Bs m' (spd (esA μ b g nl np) S)) noX 68 [(0, .ref (zad G.1 8 0 0)), (1, .ref (zad G.1 2 b 0)), (2, .ref (zad G.1 3 b g)), (3, .int (nI m)), (4, .int (nI m')), (5, .int (nI i))] [] μ := by
    intro k
    induction k with
    | zero =>
      intro i m' hi h3
      obtain rfl : i = np := by omega
      apply wX6_spread_68 G b hb g hg
      exact ⟨fun _ => ⟨m', rfl, rfl, h3⟩, fun z => absurd ((cle hR.1.2.1.1).mpr (Nat.le_refl _)) z⟩
    | succ k ih =>
      intro i m' hi h3
      have hip : i < np := by omega
      have ih' := fun m' => ih (i + 1) m' (by omega)
      have e2 : spd (esL μ b g nl ++ esP μ b g (i + 1)) S = (if iwp μ b g i = true then spr (spd (esL μ b g nl ++ esP μ b g i) S) (eP μ b g i) else spd (esL μ b g nl ++ esP μ b g i) S) := by
        show spd (_ ++ (_ ++ _)) S = _
        rw [← List.append_assoc]
        unfold spd
        rw [List.foldl_append]
        split <;> rfl
      rw [e2] at ih'
      generalize spd (esL μ b g nl ++ esP μ b g i) S = x at *
      obtain ⟨q0, q1, -⟩ := hR.2.2.2.1 i hip
      have q0 := tN_isN q0
      have q1 := tN_isN q1
      apply wX6_spread_68 G b hb g hg
      rw [q0.2.2, q1.2.2, bit_at m' h3.1 _ (by omega), bit_or m' h3.1 _ (by omega), h3.2 _ (by omega)]
      refine ⟨fun z => absurd ((cle hR.1.2.1.1).mp z) (by omega), fun _ => ⟨by omega, fun z => ?_, fun z => ⟨fun z2 => ?_, fun z2 => ?_⟩⟩⟩
      · by_cases c : iwp μ b g i = true
        · rw [if_pos c, eP, spr_no z] at ih'
          exact ih' m' h3
        · rw [if_neg c] at ih'
          exact ih' m' h3
      · rw [if_neg (by rw [z2]; decide)] at ih'
        exact ih' m' h3
      · rw [if_pos z2, eP, spr_add ((Bool.not_eq_false _).mp z)] at ih'
        exact ih' _ (h3.add (by omega))
  have TL : ∀ k i (m' : Nat), i + k = nl → Bs m' (spd (esL μ b g i) S) → VL G mX6_spread (fun r μ9 => ∃ m', r = some (.int (nI m')) ∧ μ9 = μ ∧ Bs m' (spd (esA μ b g nl np) S)) noX 6 [(0, .ref (zad G.1 8 0 0)), (1, .ref (zad G.1 2 b 0)), (2, .ref (zad G.1 3 b g)), (3, .int (nI m)), (4, .int (nI m')), (5, .int (nI i))] [] μ := by
    intro k
    induction k with
    | zero =>
      intro i m' hi h3
      obtain rfl : i = nl := by omega
      apply wX6_spread_6 G b hb g hg
      exact ⟨fun _ => TP np 0 m' (by omega) (by show Bs m' (spd (_ ++ []) S); rw [List.append_nil]; exact h3), fun z => absurd ((cle hR.1.1.1).mpr (Nat.le_refl _)) z⟩
    | succ k ih =>
      intro i m' hi h3
      have hip : i < nl := by omega
      have ih' := fun m' => ih (i + 1) m' (by omega)
      have e2 : spd (esL μ b g (i + 1)) S = (if iwl μ b g i = true then spr (spd (esL μ b g i) S) (eL μ b i) else spd (esL μ b g i) S) := by
        show spd (_ ++ _) S = _
        unfold spd
        rw [List.foldl_append]
        split <;> rfl
      rw [e2] at ih'
      generalize spd (esL μ b g i) S = x at *
      obtain ⟨q0, q1, -⟩ := hR.2.2.1 i hip
      have q0 := tN_isN q0
      have q1 := tN_isN q1
      apply wX6_spread_6 G b hb g hg
      rw [q0.2.2, q1.2.2, bit_at m' h3.1 _ (by omega), bit_or m' h3.1 _ (by omega), h3.2 _ (by omega)]
      refine ⟨fun z => absurd ((cle hR.1.1.1).mp z) (by omega), fun _ => ⟨by omega, fun z => ?_, fun z => ⟨fun z2 => ?_, fun z2 => ?_⟩⟩⟩
      · by_cases c : iwl μ b g i = true
        · rw [if_pos c, eL, spr_no z] at ih'
          exact ih' m' h3
        · rw [if_neg c] at ih'
          exact ih' m' h3
      · rw [if_neg (by rw [z2]; decide)] at ih'
        exact ih' m' h3
      · rw [if_pos z2, eL, spr_add ((Bool.not_eq_false _).mp z)] at ih'
        exact ih' _ (h3.add (by omega))
  apply wX6_spread G b hb g hg
  exact TL nl 0 m (by omega) h
theorem s_X6_stationsFrom (hb : b < 11) (hR : Rok μ b nl np ng W) {g : Nat} (hg : g < 16) {a : Nat} (ha : a < 8) : Con G mX6_stationsFrom [.ref (zad G.1 8 0 0), .ref (zad G.1 2 b 0), .ref (zad G.1 3 b g), .int (nI a)] μ (fun r μ9 => ∃ m, r = some (.int (nI m)) ∧ μ9 = μ ∧ Bs m (fun s => decide (dw μ b g nl np s a < 1000000))) noX := by
  have T : ∀ k i m, i + k = 7 → Bs m (itr (spd (esA μ b g nl np)) i (fun x => decide (x = a))) → VL G mX6_stationsFrom (fun r μ9 => ∃ m, r = some (.int (nI m)) ∧ μ9 = μ ∧ Bs m (fun s => decide (dw μ b g nl np s a < 1000000))) noX 8 [(0, .ref (zad G.1 8 0 0)), (1, .ref (zad G.1 2 b 0)), (2, .ref (zad G.1 3 b g)), (3, .int (nI a)), (4, .int (nI m)), (5, .int (nI (i + 1)))] [] μ := by
    intro k
    induction k with
    | zero =>
      intro i m hi h3
      obtain rfl : i = 7 := by omega
      apply wX6_stationsFrom_8 G b hb g hg
      refine ⟨fun _ => ⟨m, rfl, rfl, h3.ext (fun s hs => ?_)⟩, fun z => absurd ((nI_leI (by omega) (by omega)).mpr (Nat.le_refl _)) z⟩
      have hE := es_ok hR (g := g)
      have := reach_same hE.1 hE.2 ha hs
      unfold dw
      cases hq : itr (spd (esA μ b g nl np)) 7 (fun x => decide (x = a)) s
      · exact (decide_eq_false (fun z => by rw [this.mpr z] at hq; cases hq)).symm
      · exact (decide_eq_true (this.mp hq)).symm
    | succ k ih =>
      intro i m hi h3
      apply wX6_stationsFrom_8 G b hb g hg
      refine ⟨fun z => absurd ((nI_leI (by omega) (by omega)).mp z) (by omega), fun _ => ?_⟩
      refine (s_X6_spread G hb hR hg h3).mono (fun v μ1 hp => ?_) (fun _ _ hp => hp)
      obtain ⟨m', p1, rfl, p2⟩ := hp
      exact ⟨_, p1, ih (i + 1) m' (by omega) p2⟩
  apply wX6_stationsFrom G b hb g hg
  rw [bit_one a ha]
  exact T 7 0 _ (by omega) (Bs.one ha)
/-- the stations that are stranded -/
def stF (d : Nat → Nat) : Int32 := rn (fun a i => if d i < 1000000 then a else a ||| ((nI 1) <<< ((nI i) &&& 31))) 0 8 (nI 0)
theorem s_X6_stationsWithoutWay {d : Nat → Nat} (h : Du 25 μ d) : Con G mX6_stationsWithoutWay [.ref (zad G.1 8 0 0)] μ (fun r μ9 => r = some (.int (stF d)) ∧ μ9 = μ) noX := by
  apply wX6_stationsWithoutWay
  refine rn_at (f := fun a i => if d i < 1000000 then a else a ||| ((nI 1) <<< ((nI i) &&& 31))) (T := fun i a => VL G mX6_stationsWithoutWay _ _ 4 [(0, .ref (zad G.1 8 0 0)), (1, .int a), (2, .int (nI i))] [] μ) (n := 8) ?_ (nI 0) ?_
  · intro i a hi hT
    have hd := h i hi
    apply wX6_stationsWithoutWay_4
    refine ⟨fun z => absurd ((nI_leI (by omega) (by omega)).mp z) (by omega), fun _ => ⟨hi, fun z => ?_, fun z => ?_⟩⟩
    · rw [hd.1, nI_ltI (by omega) (by omega)] at z
      rw [if_pos z] at hT; exact hT
    · rw [hd.1, nI_ltI (by omega) (by omega)] at z
      rw [if_neg z] at hT; exact hT
  · apply wX6_stationsWithoutWay_4
    exact ⟨fun _ => ⟨rfl, rfl⟩, fun z => absurd ((nI_leI (by omega) (by omega)).mpr (Nat.le_refl _)) z⟩
theorem t_stranded {P : Option Value → St → Prop} {X : String → St → Prop} {d : Nat → Nat} (h : Du 30 μ d) (x1 x2 : Int32) (hP : P (some (.int (stF d))) μ) : VL G mX8_stranded P X 31 [(0, .ref (zad G.1 10 0 0)), (1, .int x1), (2, .int x2), (3, .int (nI 0)), (4, .int (nI 0))] [] μ := by
  refine rn_at (f := fun a i => if d i < 1000000 then a else a ||| ((nI 1) <<< ((nI i) &&& 31))) (T := fun i a => VL G mX8_stranded _ _ 31 [(0, .ref (zad G.1 10 0 0)), (1, .int x1), (2, .int x2), (3, .int a), (4, .int (nI i))] [] μ) (n := 8) ?_ (nI 0) ?_
  · intro i a hi hT
    have hd := h i hi
    apply wX8_stranded_31
    rw [or0]
    refine ⟨fun z => absurd ((nI_leI (by omega) (by omega)).mp z) (by omega), fun _ => ⟨hi, fun z => ?_, fun z => ?_⟩⟩
    · rw [hd.1, nI_ltI (by omega) (by omega)] at z
      rw [if_pos z] at hT; exact hT
    · rw [hd.1, nI_ltI (by omega) (by omega)] at z
      rw [if_neg z] at hT; exact hT
  · apply wX8_stranded_31
    exact ⟨fun _ => hP, fun z => absurd ((nI_leI (by omega) (by omega)).mpr (Nat.le_refl _)) z⟩
/-- the reference's stations that a guest comes to -/
theorem t_reachable {P : Option Value → St → Prop} (hR : Rok σ b nl np ng W) (h : Rel σ b nl np ng (row μ)) (h6 : μ 10 0 0 6 = 0) {g : Nat} (hg : g < ng) {a : Nat} (ha : a < 8) (hP : ∀ m μ9, Bs m (fun s => decide (dw σ b g nl np s a < 1000000)) → Oo 30 μ μ9 → P (some (.int (nI m))) μ9) : VL G mX8_reachable P noX 16 [(0, .ref (zad G.1 10 0 0)), (1, .int (nI g)), (2, .int (nI a)), (3, .int (nI 0)), (4, .int (nI 0))] [] μ := by
  have T : ∀ k i m (μ' : St), i + k = 8 → Oo 30 μ μ' → Bs m (fun s => decide (s < i) && decide (dw σ b g nl np s a < 1000000)) → VL G mX8_reachable P noX 16 [(0, .ref (zad G.1 10 0 0)), (1, .int (nI g)), (2, .int (nI a)), (3, .int (nI m)), (4, .int (nI i))] [] μ' := by
    intro k
    induction k with
    | zero =>
      intro i m μ' hi h2 h3
      obtain rfl : i = 8 := by omega
      apply wX8_reachable_16
      refine ⟨fun _ => hP m μ' (h3.ext (fun s hs => by rw [decide_eq_true hs, Bool.true_and])) h2, fun z => absurd ((nI_leI (by omega) (by omega)).mpr (Nat.le_refl _)) z⟩
    | succ k ih =>
      intro i m μ' hi h2 h3
      have hr : Rel σ b nl np ng (row μ') := by rw [show row μ' = row μ from funext fun j => h2 26 0 0 j (by decide)]; exact h
      have e6 : μ' 10 0 0 6 = 0 := by rw [h2 10 0 0 6 (by decide)]; exact h6
      apply wX8_reachable_16
      refine ⟨fun z => absurd ((nI_leI (by omega) (by omega)).mp z) (by omega), fun _ => ⟨fun z => absurd e6 z, fun _ => ?_⟩⟩
      refine (s_X8_layWays G hR hr hg (t := i) (by omega)).mono (fun v μ1 hp => ?_) (fun _ _ hp => hp)
      obtain ⟨p1, p2, p3⟩ := hp
      have p5 : Oo 30 μ μ1 := fun k b i s hk => by rw [p2 k b i s hk, h2 k b i s hk]
      have hd := p3 a ha
      refine ⟨p1, a, rfl, ha, fun z => ?_, fun z => ?_⟩
      · rw [hd.1, nI_leI (by omega) (by omega)] at z
        rw [or0]
        refine ih (i + 1) m μ1 (by omega) p5 (h3.ext (fun s hs => ?_))
        by_cases c : s = i
        · subst c
          rw [decide_eq_false (p := dw σ b g nl np s a < 1000000) (by omega), Bool.and_false, Bool.and_false]
        · by_cases c2 : s < i
          · rw [decide_eq_true c2, decide_eq_true (p := s < i + 1) (by omega)]
          · rw [decide_eq_false c2, decide_eq_false (p := s < i + 1) (by omega)]
      · rw [hd.1, nI_leI (by omega) (by omega)] at z
        rw [bit_or m h3.1 i (by omega)]
        refine ih (i + 1) _ μ1 (by omega) p5 ((h3.add (v := i) (by omega)).ext (fun s hs => ?_))
        by_cases c : s = i
        · subst c
          rw [if_pos rfl, decide_eq_true (p := dw σ b g nl np s a < 1000000) (by omega), decide_eq_true (p := s < s + 1) (by omega), Bool.and_true]
        · rw [if_neg c]
          by_cases c2 : s < i
          · rw [decide_eq_true c2, decide_eq_true (p := s < i + 1) (by omega)]
          · rw [decide_eq_false c2, decide_eq_false (p := s < i + 1) (by omega)]
  refine T 8 0 0 μ (by omega) (Oo.rfl' μ) ⟨by decide, fun s hs => ?_⟩
  rw [Nat.zero_testBit]
  rfl
/-! first parts -/
def FLp (σ : St) (b g : Nat) (d : Nat → Nat) (a i : Nat) : Prop := σ 6 b i 0 = nI a ∧ iwl σ b g i = true ∧ tN (σ 6 b i 5) + d (tN (σ 6 b i 1)) = d a
def FPr (σ : St) (b g : Nat) (d : Nat → Nat) (a p : Nat) : Prop := σ 7 b p 0 = nI a ∧ iwp σ b g p = true ∧ tN (rfo σ b p g) + d (tN (σ 7 b p 1)) = d a
def Bp (σ : St) (b g : Nat) (d : Nat → Nat) (a nl np : Nat) (r : Int32) : Prop := (∃ i, i < nl ∧ FLp σ b g d a i ∧ (∀ j, j < i → ¬ FLp σ b g d a j) ∧ r = nI i) ∨ ((∀ j, j < nl → ¬ FLp σ b g d a j) ∧ ∃ p, p < np ∧ FPr σ b g d a p ∧ (∀ q, q < p → ¬ FPr σ b g d a q) ∧ r = nI (100 + p)) ∨ ((∀ j, j < nl → ¬ FLp σ b g d a j) ∧ (∀ q, q < np → ¬ FPr σ b g d a q) ∧ r = -1)
theorem Bp.uni {g : Nat} {d : Nat → Nat} {a : Nat} {r r' : Int32} (h : Bp σ b g d a nl np r) (h' : Bp σ b g d a nl np r') : r = r' := by
  rcases h with ⟨i, i1, i2, i3, rfl⟩ | ⟨n1, p, p1, p2, p3, rfl⟩ | ⟨n1, n2, rfl⟩
  · rcases h' with ⟨i', j1, j2, j3, rfl⟩ | ⟨n1, -⟩ | ⟨n1, -⟩
    · have h1 : ¬ i < i' := fun z => j3 i z i2
      have h2 : ¬ i' < i := fun z => i3 i' z j2
      congr 1; omega
    · exact absurd i2 (n1 i i1)
    · exact absurd i2 (n1 i i1)
  · rcases h' with ⟨i', j1, j2, j3, rfl⟩ | ⟨-, q, q1, q2, q3, rfl⟩ | ⟨-, n2, -⟩
    · exact absurd j2 (n1 i' j1)
    · have h1 : ¬ p < q := fun z => q3 p z p2
      have h2 : ¬ q < p := fun z => p3 q z q2
      congr 1; omega
    · exact absurd p2 (n2 p p1)
  · rcases h' with ⟨i', j1, j2, j3, rfl⟩ | ⟨-, q, q1, q2, q3, rfl⟩ | ⟨-, -, rfl⟩
    · exact absurd j2 (n1 i' j1)
    · exact absurd q2 (n2 q q1)
    · rfl
theorem eq_n {a c : Nat} (ha : a < 2 ^ 31) (hc : c < 2 ^ 31) : nI a = nI c ↔ a = c := ⟨nI_inj ha hc, fun h => by rw [h]⟩
theorem s_X6_bestPartFrom (hb : b < 11) (hR : Rok μ b nl np ng W) {g : Nat} (hg : g < 16) {d : Nat → Nat} (h : Du 25 μ d) {a : Nat} (ha : a < 8) : Con G mX6_bestPartFrom [.ref (zad G.1 8 0 0), .ref (zad G.1 2 b 0), .ref (zad G.1 3 b g), .int (nI a)] μ (fun v μ9 => μ9 = μ ∧ ((d a < 1000000 ∧ ∃ r, v = some (.int r) ∧ Bp μ b g d a nl np r) ∨ (¬ d a < 1000000 ∧ v = some (.int (-1))))) noX := by
  have hn1 := hR.1.1.2
  have hn2 := hR.1.2.1.2
  have hda := h a ha
  apply wX6_bestPartFrom G b hb g hg
  refine (s_X6_durationFrom G ha).mono (fun v μ1 hp => ⟨_, hp.1, ?_⟩) (fun _ _ hp => hp)
  obtain ⟨-, rfl⟩ := hp
  rw [hda.1, nI_ltI (by omega) (by omega)]
  refine ⟨fun hlt => ?_, fun hge => ⟨rfl, Or.inr ⟨hge, rfl⟩⟩⟩
  have TP : ∀ k p, p + k = np → (∀ j, j < nl → ¬ FLp μ1 b g d a j) → (∀ q, q < p → ¬ FPr μ1 b g d a q) → VL G mX6_bestPartFrom (fun v μ9 => μ9 = μ1 ∧ ((d a < 1000000 ∧ ∃ r, v = some (.int r) ∧ Bp μ1 b g d a nl np r) ∨ (¬ d a < 1000000 ∧ v = some (.int (-1))))) noX 88 [(0, .ref (zad G.1 8 0 0)), (1, .ref (zad G.1 2 b 0)), (2, .ref (zad G.1 3 b g)), (3, .int (nI a)), (4, .int (nI (d a))), (5, .int (nI p))] [] μ1 := by
    intro k
    induction k with
    | zero =>
      intro p hp h1 h2
      obtain rfl : p = np := by omega
      apply wX6_bestPartFrom_88 G b hb g hg
      exact ⟨fun _ => ⟨rfl, Or.inl ⟨hlt, _, rfl, Or.inr (Or.inr ⟨h1, h2, rfl⟩)⟩⟩, fun z => absurd ((cle hR.1.2.1.1).mpr (Nat.le_refl _)) z⟩
    | succ k ih =>
      intro p hp h1 h2
      have hip : p < np := by omega
      obtain ⟨q0, q1, -⟩ := hR.2.2.2.1 p hip
      have q5 := tN_isN (rfo_n hR (g := g) hip)
      have q1 := tN_isN q1
      have next : ¬ FPr μ1 b g d a p → VL G mX6_bestPartFrom (fun v μ9 => μ9 = μ1 ∧ ((d a < 1000000 ∧ ∃ r, v = some (.int r) ∧ Bp μ1 b g d a nl np r) ∨ (¬ d a < 1000000 ∧ v = some (.int (-1))))) noX 88 [(0, .ref (zad G.1 8 0 0)), (1, .ref (zad G.1 2 b 0)), (2, .ref (zad G.1 3 b g)), (3, .int (nI a)), (4, .int (nI (d a))), (5, .int (nI (p + 1)))] [] μ1 := fun hnp => ih (p + 1) (by omega) h1 (fun q hq => by
        rcases Nat.lt_or_ge q p with h9 | h9
        · exact h2 q h9
        · obtain rfl : q = p := by omega
          exact hnp)
      apply wX6_bestPartFrom_88 G b hb g hg
      refine ⟨fun z => absurd ((cle hR.1.2.1.1).mp z) (by omega), fun _ => ⟨by omega, fun z => next (fun z2 => z z2.1), fun z0 => ⟨fun z => next (fun z2 => by rw [z2.2.1] at z; cases z), fun z1 => ?_⟩⟩⟩
      rw [q1.2.2, q5.2.2]
      refine (s_X6_durationFrom G (by omega)).mono (fun v μ2 hp => ⟨_, hp.1, ?_⟩) (fun _ _ hp => hp)
      obtain ⟨-, rfl⟩ := hp
      have hv := h _ (show tN (μ2 7 b p 1) < 8 by omega)
      rw [hv.1, nI_add, eq_n (by omega) (by omega)]
      exact ⟨fun z => next (fun z2 => z z2.2.2), fun z => ⟨rfl, Or.inl ⟨hlt, _, rfl, Or.inr (Or.inl ⟨h1, p, hip, ⟨z0, z1, z⟩, h2, rfl⟩)⟩⟩⟩
  have TL : ∀ k i, i + k = nl → (∀ j, j < i → ¬ FLp μ1 b g d a j) → VL G mX6_bestPartFrom (fun v μ9 => μ9 = μ1 ∧ ((d a < 1000000 ∧ ∃ r, v = some (.int r) ∧ Bp μ1 b g d a nl np r) ∨ (¬ d a < 1000000 ∧ v = some (.int (-1))))) noX 19 [(0, .ref (zad G.1 8 0 0)), (1, .ref (zad G.1 2 b 0)), (2, .ref (zad G.1 3 b g)), (3, .int (nI a)), (4, .int (nI (d a))), (5, .int (nI i))] [] μ1 := by
    intro k
    induction k with
    | zero =>
      intro i hp h1
      obtain rfl : i = nl := by omega
      apply wX6_bestPartFrom_19 G b hb g hg
      exact ⟨fun _ => TP np 0 (by omega) h1 (fun q hq => absurd hq (by omega)), fun z => absurd ((cle hR.1.1.1).mpr (Nat.le_refl _)) z⟩
    | succ k ih =>
      intro i hp h1
      have hip : i < nl := by omega
      obtain ⟨q0, q1, -, -, q5, -⟩ := hR.2.2.1 i hip
      have q5 := tN_isN q5
      have q1 := tN_isN q1
      have next : ¬ FLp μ1 b g d a i → VL G mX6_bestPartFrom (fun v μ9 => μ9 = μ1 ∧ ((d a < 1000000 ∧ ∃ r, v = some (.int r) ∧ Bp μ1 b g d a nl np r) ∨ (¬ d a < 1000000 ∧ v = some (.int (-1))))) noX 19 [(0, .ref (zad G.1 8 0 0)), (1, .ref (zad G.1 2 b 0)), (2, .ref (zad G.1 3 b g)), (3, .int (nI a)), (4, .int (nI (d a))), (5, .int (nI (i + 1)))] [] μ1 := fun hnp => ih (i + 1) (by omega) (fun q hq => by
        rcases Nat.lt_or_ge q i with h9 | h9
        · exact h1 q h9
        · obtain rfl : q = i := by omega
          exact hnp)
      apply wX6_bestPartFrom_19 G b hb g hg
      refine ⟨fun z => absurd ((cle hR.1.1.1).mp z) (by omega), fun _ => ⟨by omega, fun z => next (fun z2 => z z2.1), fun z0 => ⟨fun z => next (fun z2 => by rw [z2.2.1] at z; cases z), fun z1 => ?_⟩⟩⟩
      rw [q1.2.2, q5.2.2]
      refine (s_X6_durationFrom G (by omega)).mono (fun v μ2 hp => ⟨_, hp.1, ?_⟩) (fun _ _ hp => hp)
      obtain ⟨-, rfl⟩ := hp
      have hv := h _ (show tN (μ2 6 b i 1) < 8 by omega)
      rw [hv.1, nI_add, eq_n (by omega) (by omega)]
      exact ⟨fun z => next (fun z2 => z z2.2.2), fun z => ⟨rfl, Or.inl ⟨hlt, _, rfl, Or.inl ⟨i, hip, ⟨z0, z1, z⟩, h1, rfl⟩⟩⟩⟩
  exact TL nl 0 (by omega) (fun j hj => absurd hj (by omega))
/-- a part that begins a least way is there -/
theorem part_ex (hR : Rok σ b nl np ng W) {g a t : Nat} (ht : t < 8) (hat : a ≠ t) (h : dw σ b g nl np t a < 1000000) : (∃ i, i < nl ∧ FLp σ b g (dw σ b g nl np t) a i) ∨ ∃ p, p < np ∧ FPr σ b g (dw σ b g nl np t) a p := by
  have hE := es_ok hR (g := g)
  have hfix : rnd (esA σ b g nl np) (dw σ b g nl np t) = dw σ b g nl np t := rnd_seven (fun e he => ⟨(hE.1 e he).1, (hE.1 e he).2.1, (hE.1 e he).2.2.1⟩) ht
  have hsup : Sup (esA σ b g nl np) (w0 t) (dw σ b g nl np t) := sup_itr (fun u => Or.inl rfl) 7
  rcases hsup a with h1 | ⟨e, e1, e2, e3⟩
  · rw [h1] at h
    unfold w0 at h
    rw [if_neg hat] at h
    omega
  · have h4 := rnd_at _ (dw σ b g nl np t) e e1
    rw [hfix, e2] at h4
    have h5 : e.2.2 + dw σ b g nl np t e.2.1 = dw σ b g nl np t a := by omega
    rcases List.mem_append.mp e1 with h6 | h6
    · obtain ⟨i, i1, i2, rfl⟩ := esL_mem.mp h6
      have q0 := tN_isN (hR.2.2.1 i i1).1
      have e2' : tN (σ 6 b i 0) = a := e2
      exact Or.inl ⟨i, i1, by rw [q0.2.2, e2'], i2, h5⟩
    · obtain ⟨i, i1, i2, rfl⟩ := esP_mem.mp h6
      have q0 := tN_isN (hR.2.2.2.1 i i1).1
      have e2' : tN (σ 7 b i 0) = a := e2
      exact Or.inr ⟨i, i1, by rw [q0.2.2, e2'], i2, h5⟩
theorem t_firstPart {P : Option Value → St → Prop} {X : String → St → Prop} (hR : Rok σ b nl np ng W) (h : Rel σ b nl np ng (row μ)) {g : Nat} (hg : g < ng) {d : Nat → Nat} (hd : Du 30 μ d) {a : Nat} (ha : a < 8) (x3 : Int32) (hex : (∃ i, i < nl ∧ FLp σ b g d a i) ∨ ∃ p, p < np ∧ FPr σ b g d a p) (hP : ∀ r, Bp σ b g d a nl np r → ¬ r = -1 → P (some (.int r)) μ) : VL G mX8_firstPart P X 51 [(0, .ref (zad G.1 10 0 0)), (1, .int (nI g)), (2, .int (nI a)), (3, .int x3), (4, .int (nI 0))] [] μ := by
  have hn1 := hR.1.1.2
  have hn2 := hR.1.2.1.2
  have hn3 := hR.1.2.2.2
  have nn : ∀ n, n < 1000 → ¬ nI n = -1 := by decide +kernel
  have TP : ∀ k p, p + k = np → (∀ j, j < nl → ¬ FLp σ b g d a j) → (∀ q, q < p → ¬ FPr σ b g d a q) → VL G mX8_firstPart P X 135 [(0, .ref (zad G.1 10 0 0)), (1, .int (nI g)), (2, .int (nI a)), (3, .int x3), (4, .int (nI p))] [] μ := by
    intro k
    induction k with
    | zero =>
      intro p hp h1 h2
      exfalso
      rcases hex with ⟨i, i1, i2⟩ | ⟨p', p1, p2⟩
      · exact h1 i i1 i2
      · exact h2 p' (by omega) p2
    | succ k ih =>
      intro p hp h1 h2
      have hip : p < np := by omega
      obtain ⟨q0, q1, -⟩ := hR.2.2.2.1 p hip
      have q5 := tN_isN (rfo_n hR (g := g) hip)
      have q1 := tN_isN q1
      have hv := hd _ (show tN (σ 7 b p 1) < 8 by omega)
      have hda := hd a ha
      have next : ¬ FPr σ b g d a p → VL G mX8_firstPart P X 135 [(0, .ref (zad G.1 10 0 0)), (1, .int (nI g)), (2, .int (nI a)), (3, .int x3), (4, .int (nI (p + 1)))] [] μ := fun hnp => ih (p + 1) (by omega) h1 (fun q hq => by
        rcases Nat.lt_or_ge q p with h9 | h9
        · exact h2 q h9
        · obtain rfl : q = p := by omega
          exact hnp)
      apply wX8_firstPart_135
      rw [h.p0 hip, h.ps hip (k := 1) (by decide)]
      refine ⟨by omega, fun z => next (fun z2 => z z2.1), fun z0 => ⟨g, rfl, by omega, by omega, fun z => next (fun z2 => ?_), fun z1 => ⟨by omega, _, q1.2.2, by omega, g, rfl, by omega, a, rfl, ha, fun z => ?_, fun z => ?_⟩⟩⟩
      · rw [h.eiwp hg hip, z2.2.1] at z; cases z
      · rw [h.eiwp hg hip] at z1
        rw [h.erfo hg hip, hv.1, hda.1, q5.2.2, nI_add, eq_n (by omega) (by omega)] at z
        exact hP _ (Or.inr (Or.inl ⟨h1, p, hip, ⟨z0, z1, by omega⟩, h2, rfl⟩)) (nn _ (by omega))
      · rw [h.erfo hg hip, hv.1, hda.1, q5.2.2, nI_add, eq_n (by omega) (by omega)] at z
        exact next (fun z2 => z (by have := z2.2.2; omega))
  have TL : ∀ k i, i + k = nl → (∀ j, j < i → ¬ FLp σ b g d a j) → VL G mX8_firstPart P X 51 [(0, .ref (zad G.1 10 0 0)), (1, .int (nI g)), (2, .int (nI a)), (3, .int x3), (4, .int (nI i))] [] μ := by
    intro k
    induction k with
    | zero =>
      intro i hp h1
      obtain rfl : i = nl := by omega
      apply wX8_firstPart_51
      exact ⟨fun _ => TP np 0 (by omega) h1 (fun q hq => absurd hq (by omega)), fun z => absurd ((cle (h.cnl hR.1)).mpr (Nat.le_refl _)) z⟩
    | succ k ih =>
      intro i hp h1
      have hip : i < nl := by omega
      obtain ⟨q0, q1, -, -, q5, -⟩ := hR.2.2.1 i hip
      have q5 := tN_isN q5
      have q1 := tN_isN q1
      have hv := hd _ (show tN (σ 6 b i 1) < 8 by omega)
      have hda := hd a ha
      have next : ¬ FLp σ b g d a i → VL G mX8_firstPart P X 51 [(0, .ref (zad G.1 10 0 0)), (1, .int (nI g)), (2, .int (nI a)), (3, .int x3), (4, .int (nI (i + 1)))] [] μ := fun hnp => ih (i + 1) (by omega) (fun q hq => by
        rcases Nat.lt_or_ge q i with h9 | h9
        · exact h1 q h9
        · obtain rfl : q = i := by omega
          exact hnp)
      apply wX8_firstPart_51
      rw [h.l0 hip, h.ls hip (k := 1) (by decide), h.ls hip (k := 5) (by decide)]
      refine ⟨fun z => absurd ((cle (h.cnl hR.1)).mp z) (by omega), fun _ => ⟨by omega, fun z => next (fun z2 => z z2.1), fun z0 => ⟨g, rfl, by omega, by omega, fun z => next (fun z2 => ?_), fun z1 => ⟨by omega, _, q1.2.2, by omega, by omega, a, rfl, ha, fun z => ?_, fun z => ?_⟩⟩⟩⟩
      · rw [h.eiwl hg hip, z2.2.1] at z; cases z
      · rw [hv.1, hda.1, q5.2.2, nI_add, eq_n (by omega) (by omega)] at z
        exact next (fun z2 => z (by have := z2.2.2; omega))
      · rw [h.eiwl hg hip] at z1
        rw [hv.1, hda.1, q5.2.2, nI_add, eq_n (by omega) (by omega)] at z
        exact hP _ (Or.inl ⟨i, hip, ⟨z0, z1, by omega⟩, h1, rfl⟩) (nn _ (by omega))
  exact TL nl 0 (by omega) (fun j hj => absurd hj (by omega))
end CW2
