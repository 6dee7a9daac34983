/-! ===== the ways of both, run to their ends ===== -/
def eL (σ : St) (b l : Nat) : Edg := (tN (σ 6 b l 0), tN (σ 6 b l 1), tN (σ 6 b l 5))
def eP (σ : St) (b g p : Nat) : Edg := (tN (σ 7 b p 0), tN (σ 7 b p 1), tN (rfo σ b p g))
def esL (σ : St) (b g : Nat) : Nat → List Edg
  | 0 => []
  | n + 1 => esL σ b g n ++ (if iwl σ b g n = true then [eL σ b n] else [])
def esP (σ : St) (b g : Nat) : Nat → List Edg
  | 0 => []
  | n + 1 => esP σ b g n ++ (if iwp σ b g n = true then [eP σ b g n] else [])
def esA (σ : St) (b g nl np : Nat) : List Edg := esL σ b g nl ++ esP σ b g np
theorem tN_isN {x : Int32} {lo hi : Nat} (h : isN x lo hi) (hh : hi < 2 ^ 31 := by decide) : lo ≤ tN x ∧ tN x ≤ hi ∧ x = nI (tN x) := by
  obtain ⟨n, h1, h2, rfl⟩ := h
  rw [tN_nI (by omega)]
  exact ⟨h1, h2, rfl⟩
theorem esL_mem {σ : St} {b g : Nat} {e : Edg} : ∀ {n : Nat}, e ∈ esL σ b g n ↔ ∃ i, i < n ∧ iwl σ b g i = true ∧ e = eL σ b i
  | 0 => ⟨fun h => (by cases h), fun ⟨i, h, _⟩ => absurd h (by omega)⟩
  | n + 1 => by
    show e ∈ esL σ b g n ++ _ ↔ _
    rw [List.mem_append, esL_mem (n := n)]
    constructor
    · rintro (⟨i, h1, h2⟩ | h)
      · exact ⟨i, by omega, h2⟩
      · by_cases c : iwl σ b g n = true
        · rw [if_pos c] at h
          exact ⟨n, by omega, c, List.mem_singleton.mp h⟩
        · rw [if_neg c] at h; cases h
    · rintro ⟨i, h1, h2, h3⟩
      rcases Nat.lt_or_ge i n with h4 | h4
      · exact Or.inl ⟨i, h4, h2, h3⟩
      · obtain rfl : i = n := by omega
        rw [if_pos h2]
        exact Or.inr (List.mem_singleton.mpr h3)
theorem esP_mem {σ : St} {b g : Nat} {e : Edg} : ∀ {n : Nat}, e ∈ esP σ b g n ↔ ∃ i, i < n ∧ iwp σ b g i = true ∧ e = eP σ b g i
  | 0 => ⟨fun h => (by cases h), fun ⟨i, h, _⟩ => absurd h (by omega)⟩
  | n + 1 => by
    show e ∈ esP σ b g n ++ _ ↔ _
    rw [List.mem_append, esP_mem (n := n)]
    constructor
    · rintro (⟨i, h1, h2⟩ | h)
      · exact ⟨i, by omega, h2⟩
      · by_cases c : iwp σ b g n = true
        · rw [if_pos c] at h
          exact ⟨n, by omega, c, List.mem_singleton.mp h⟩
        · rw [if_neg c] at h; cases h
    · rintro ⟨i, h1, h2, h3⟩
      rcases Nat.lt_or_ge i n with h4 | h4
      · exact Or.inl ⟨i, h4, h2, h3⟩
      · obtain rfl : i = n := by omega
        rw [if_pos h2]
        exact Or.inr (List.mem_singleton.mpr h3)
theorem esL_len {σ : St} {b g : Nat} : ∀ n, (esL σ b g n).length ≤ n
  | 0 => Nat.le_refl _
  | n + 1 => by
    show (esL σ b g n ++ _).length ≤ _
    rw [List.length_append]
    have := esL_len (σ := σ) (b := b) (g := g) n
    split
    · show _ + 1 ≤ _; omega
    · show _ + 0 ≤ _; omega
theorem esP_len {σ : St} {b g : Nat} : ∀ n, (esP σ b g n).length ≤ n
  | 0 => Nat.le_refl _
  | n + 1 => by
    show (esP σ b g n ++ _).length ≤ _
    rw [List.length_append]
    have := esP_len (σ := σ) (b := b) (g := g) n
    split
    · show _ + 1 ≤ _; omega
    · show _ + 0 ≤ _; omega
theorem es_ok {σ : St} {b nl np ng W g : Nat} (hR : Rok σ b nl np ng W) : (∀ e, e ∈ esA σ b g nl np → e.1 < 8 ∧ e.2.1 < 8 ∧ 1 ≤ e.2.2 ∧ e.2.2 ≤ 18) ∧ (esA σ b g nl np).length ≤ 16 := by
  refine ⟨fun e he => ?_, ?_⟩
  · rcases List.mem_append.mp he with h | h
    · obtain ⟨i, h1, -, rfl⟩ := esL_mem.mp h
      obtain ⟨q0, q1, -, -, q5, -⟩ := hR.2.2.1 i h1
      have a0 := tN_isN q0
      have a1 := tN_isN q1
      have a5 := tN_isN q5
      show tN _ < 8 ∧ tN _ < 8 ∧ 1 ≤ tN _ ∧ tN _ ≤ 18
      omega
    · obtain ⟨i, h1, -, rfl⟩ := esP_mem.mp h
      obtain ⟨q0, q1, -⟩ := hR.2.2.2.1 i h1
      have a0 := tN_isN q0
      have a1 := tN_isN q1
      have a5 := tN_isN (rfo_n hR (g := g) h1)
      show tN _ < 8 ∧ tN _ < 8 ∧ 1 ≤ tN _ ∧ tN _ ≤ 18
      omega
  · unfold esA
    rw [List.length_append]
    have a1 := esL_len (σ := σ) (b := b) (g := g) nl
    have a2 := esP_len (σ := σ) (b := b) (g := g) np
    have a3 := hR.1.1.2
    have a4 := hR.1.2.1.2
    omega
/-- the durations in row k -/
def Du (k : Nat) (μ : St) (d : Nat → Nat) : Prop := ∀ s, s < 8 → μ k 0 0 s = nI (d s) ∧ d s ≤ 1000000
/-- all but row k is as before -/
def Oo (r : Nat) (μ μ' : St) : Prop := ∀ k b i s, k ≠ r → μ' k b i s = μ k b i s
theorem Oo.rfl' {r : Nat} (μ : St) : Oo r μ μ := fun _ _ _ _ _ => rfl
theorem oo_up {r : Nat} {μ μ' : St} (h : Oo r μ μ') {s : Nat} {x : Int32} : Oo r μ (up μ' r 0 0 s x) := fun k b i s' hk => by rw [up_k hk, h k b i s' hk]
theorem oo_iwl {r : Nat} {μ μ' : St} (h : Oo r μ μ') (hr : 9 < r) (b g l : Nat) : iwl μ' b g l = iwl μ b g l := by
  unfold iwl iop ihd spo
  rw [h 3 b g 1 (by omega), h 6 b l 2 (by omega), h 3 b g 2 (by omega), h 3 b g 3 (by omega), h 2 b 0 8 (by omega), h 2 b 0 6 (by omega), h 6 b l 6 (by omega)]
theorem oo_iwp {r : Nat} {μ μ' : St} (h : Oo r μ μ') (hr : 9 < r) (b g p : Nat) : iwp μ' b g p = iwp μ b g p := by
  unfold iwp tdf
  rw [h 3 b g 0 (by omega), h 7 b p 4 (by omega), h 7 b p 2 (by omega)]
theorem oo_rfo {r : Nat} {μ μ' : St} (h : Oo r μ μ') (hr : 9 < r) (b g p : Nat) : rfo μ' b p g = rfo μ b p g := by
  unfold rfo
  rw [h 3 b g 0 (by omega), h 7 b p 3 (by omega), h 7 b p 2 (by omega)]
theorem du_rlx {k : Nat} {μ : St} {d : Nat → Nat} (h : Du k μ d) {u v w : Nat} (hu : u < 8) {x : Int32} (hx : x = nI (min (d u) (w + d v))) : Du k (up μ k 0 0 u x) (rlx d (u, v, w)) := by
  intro s hs
  have a := h s hs
  have b := rlx_le d (u, v, w) s
  refine ⟨?_, by omega⟩
  show _ = nI (if s = u then min (d u) (w + d v) else d s)
  by_cases c : s = u
  · subst c
    rw [up_self, if_pos rfl, hx]
  · rw [up_sl c, if_neg c]; exact a.1
theorem rlx_no {d : Nat → Nat} {u v w : Nat} (h : ¬ w + d v < d u) : rlx d (u, v, w) = d := funext fun s => by
  show (if s = u then min (d u) (w + d v) else d s) = d s
  by_cases c : s = u
  · rw [if_pos c, c]; omega
  · rw [if_neg c]
section CW
variable {σ μ : St} {b nl np ng W : Nat} (G : Gl)
theorem isSt_n {n : Nat} (h : n < 8) : isSt (nI n) = true := by
  have : ∀ n, n < 8 → isSt (nI n) = true := by decide +kernel
  exact this n h
theorem isSt_ex {x : Int32} (h : isSt x = true) : ∃ n, n < 8 ∧ x = nI n := by
  unfold isSt btw at h
  simp only [Bool.and_eq_true, decide_eq_true_eq] at h
  have h1 : (0 : Int) ≤ x.toInt := by
    have := Int32.le_iff_toInt_le.mp h.1
    rw [nI_toInt (by decide)] at this; omega
  have h2 : x.toInt ≤ 7 := by
    have := Int32.le_iff_toInt_le.mp h.2
    rw [nI_toInt (by decide)] at this; omega
  refine ⟨x.toInt.toNat, by omega, Int32.toInt_inj.mp ?_⟩
  rw [nI_toInt (by omega)]; omega
theorem s_X6_durationFrom {j : Nat} (hj : j < 8) : Con G mX6_durationFrom [.ref (zad G.1 8 0 0), .int (nI j)] μ (fun v μ9 => v = some (.int (μ 25 0 0 j)) ∧ μ9 = μ) noX := by
  apply wX6_durationFrom
  exact ⟨fun z => absurd (isSt_n hj) (by rw [z]; decide), fun _ => ⟨j, rfl, hj, rfl, rfl⟩⟩
theorem s_X6_shortenFrom {d : Nat → Nat} (h : Du 25 μ d) {u v w : Nat} (hu : u < 8) (hv : v < 8) (hw : w ≤ 18) : Con G mX6_shortenFrom [.ref (zad G.1 8 0 0), .int (nI u), .int (nI w + nI (d v))] μ (fun r μ9 => ∃ y : Bool, r = some (.int (bI y)) ∧ (y = false → rlx d (u, v, w) = d) ∧ Oo 25 μ μ9 ∧ Du 25 μ9 (rlx d (u, v, w))) noX := by
  have a := h u hu
  have a2 := h v hv
  apply wX6_shortenFrom
  refine ⟨fun z => absurd (isSt_n hu) (by rw [z]; decide), fun _ => ⟨u, rfl, hu, fun z => ⟨u, rfl, hu, ?_⟩, fun z => ?_⟩⟩
  · rw [nI_add] at z ⊢
    rw [a.1, nI_ltI (by omega) (by omega)] at z
    refine ⟨true, rfl, fun z => (by cases z), oo_up (Oo.rfl' μ), du_rlx h hu ?_⟩
    congr 1; omega
  · rw [nI_add, a.1, nI_ltI (by omega) (by omega)] at z
    refine ⟨false, rfl, fun _ => rlx_no z, Oo.rfl' μ, ?_⟩
    rw [rlx_no z]; exact h
theorem s_X6_shorten (hb : b < 11) (hR : Rok μ b nl np ng W) {g : Nat} (hg : g < 16) {d : Nat → Nat} (h : Du 25 μ d) : Con G mX6_shorten [.ref (zad G.1 8 0 0), .ref (zad G.1 2 b 0), .ref (zad G.1 3 b g)] μ (fun r μ9 => ∃ y : Bool, r = some (.int (bI y)) ∧ (y = false → rnd (esA μ b g nl np) d = d) ∧ Oo 25 μ μ9 ∧ Du 25 μ9 (rnd (esA μ b g nl np) d)) noX := by
  have hn1 := hR.1.1.2
  have hn2 := hR.1.2.1.2
  have TP : ∀ k i (y : Bool) (μ' : St), i + k = np → (y = false → rnd (esL μ b g nl ++ esP μ b g i) d = d) → Oo 25 μ μ' → Du 25 μ' (rnd (esL μ b g nl ++ esP μ b g i) d) → VL G mX6_shorten (fun r μ9 => ∃ y : Bool, r = some (.int (bI y)) ∧ (y = false → rnd (esA μ b g nl np) d = d) ∧ Oo 25 μ μ9 ∧ Du 25 μ9 (rnd (esA μ b g nl np) d)) noX 71 [(0, .ref (zad G.1 8 0 0)), (1, .ref (zad G.1 2 b 0)), (2, .ref (zad G.1 3 b g)), (3, .int (bI y)), (4, .int (nI i))] [] μ' := by
    intro k
    induction k with
    | zero =>
      intro i y μ' hi h1 h2 h3
      obtain rfl : i = np := by omega
      apply wX6_shorten_71 G b hb g hg
      refine ⟨fun _ => ⟨y, rfl, h1, h2, h3⟩, fun z => absurd ((cle (x := μ' 2 b 0 4) (n := i) (by rw [h2 2 b 0 4 (by decide)]; exact hR.1.2.1.1)).mpr (Nat.le_refl _)) z⟩
    | succ k ih =>
      intro i y μ' hi h1 h2 h3
      have hip : i < np := by omega
      have e1 : esL μ b g nl ++ esP μ b g (i + 1) = (esL μ b g nl ++ esP μ b g i) ++ (if iwp μ b g i = true then [eP μ b g i] else []) := by
        show _ ++ (_ ++ _) = _
        rw [List.append_assoc]
      have ih' := fun y μ' => ih (i + 1) y μ' (by omega)
      rw [e1] at ih'
      have e2 : rnd ((esL μ b g nl ++ esP μ b g i) ++ (if iwp μ b g i = true then [eP μ b g i] else [])) d = (if iwp μ b g i = true then rlx (rnd (esL μ b g nl ++ esP μ b g i) d) (eP μ b g i) else rnd (esL μ b g nl ++ esP μ b g i) d) := by
        unfold rnd
        rw [List.foldl_append]
        split <;> rfl
      rw [e2] at ih'
      generalize rnd (esL μ b g nl ++ esP μ b g i) d = x at *
      obtain ⟨q0, q1, -⟩ := hR.2.2.2.1 i hip
      have q5 := tN_isN (rfo_n hR (g := g) hip)
      have q0 := tN_isN q0
      have q1 := tN_isN q1
      apply wX6_shorten_71 G b hb g hg
      refine ⟨fun z => absurd ((cle (x := μ' 2 b 0 4) (n := np) (by rw [h2 2 b 0 4 (by decide)]; exact hR.1.2.1.1)).mp z) (by omega), fun _ => ⟨by omega, fun z => ?_, fun z => ?_⟩⟩
      · rw [oo_iwp h2 (by decide)] at z
        rw [if_neg (by rw [z]; decide)] at ih'
        exact ih' y μ' h1 h2 h3
      · rw [oo_iwp h2 (by decide)] at z
        rw [if_pos z] at ih'
        rw [h2 7 b i 1 (by decide), h2 7 b i 0 (by decide), oo_rfo h2 (by decide), q1.2.2, q0.2.2, q5.2.2]
        refine (s_X6_durationFrom G (by omega)).mono (fun v μ1 hp => ⟨_, hp.1, ?_⟩) (fun _ _ hp => hp)
        obtain ⟨-, rfl⟩ := hp
        rw [(h3 _ (show tN (μ 7 b i 1) < 8 by omega)).1]
        refine (s_X6_shortenFrom G h3 (by omega) (by omega) (by omega)).mono (fun v μ1 hp => ?_) (fun _ _ hp => hp)
        obtain ⟨y2, p1, p2, p3, p4⟩ := hp
        have p5 : Oo 25 μ μ1 := fun k b i s hk => by rw [p3 k b i s hk, h2 k b i s hk]
        refine ⟨y2, p1, fun z => ?_, fun z => ?_⟩
        · exact ih' y μ1 (fun z2 => (p2 z).trans (h1 z2)) p5 p4
        · exact ih' true μ1 (fun z2 => (by cases z2)) p5 p4
  have TL : ∀ k i (y : Bool) (μ' : St), i + k = nl → (y = false → rnd (esL μ b g i) d = d) → Oo 25 μ μ' → Du 25 μ' (rnd (esL μ b g i) d) → VL G mX6_shorten (fun r μ9 => ∃ y : Bool, r = some (.int (bI y)) ∧ (y = false → rnd (esA μ b g nl np) d = d) ∧ Oo 25 μ μ9 ∧ Du 25 μ9 (rnd (esA μ b g nl np) d)) noX 5 [(0, .ref (zad G.1 8 0 0)), (1, .ref (zad G.1 2 b 0)), (2, .ref (zad G.1 3 b g)), (3, .int (bI y)), (4, .int (nI i))] [] μ' := by
    intro k
    induction k with
    | zero =>
      intro i y μ' hi h1 h2 h3
      obtain rfl : i = nl := by omega
      apply wX6_shorten_5 G b hb g hg
      refine ⟨fun _ => TP np 0 y μ' (by omega) ?_ h2 ?_, fun z => absurd ((cle (x := μ' 2 b 0 3) (n := i) (by rw [h2 2 b 0 3 (by decide)]; exact hR.1.1.1)).mpr (Nat.le_refl _)) z⟩
      · show _ → rnd (_ ++ []) d = d
        rw [List.append_nil]; exact h1
      · show Du 25 μ' (rnd (_ ++ []) d)
        rw [List.append_nil]; exact h3
    | succ k ih =>
      intro i y μ' hi h1 h2 h3
      have hip : i < nl := by omega
      have ih' := fun y μ' => ih (i + 1) y μ' (by omega)
      have e2 : rnd (esL μ b g (i + 1)) d = (if iwl μ b g i = true then rlx (rnd (esL μ b g i) d) (eL μ b i) else rnd (esL μ b g i) d) := by
        show rnd (_ ++ _) d = _
        unfold rnd
        rw [List.foldl_append]
        split <;> rfl
      rw [e2] at ih'
      generalize rnd (esL μ b g i) d = x at *
      obtain ⟨q0, q1, -, -, q5, -⟩ := hR.2.2.1 i hip
      have q5 := tN_isN q5
      have q0 := tN_isN q0
      have q1 := tN_isN q1
      apply wX6_shorten_5 G b hb g hg
      refine ⟨fun z => absurd ((cle (x := μ' 2 b 0 3) (n := nl) (by rw [h2 2 b 0 3 (by decide)]; exact hR.1.1.1)).mp z) (by omega), fun _ => ⟨by omega, fun z => ?_, fun z => ?_⟩⟩
      · rw [oo_iwl h2 (by decide)] at z
        rw [if_neg (by rw [z]; decide)] at ih'
        exact ih' y μ' h1 h2 h3
      · rw [oo_iwl h2 (by decide)] at z
        rw [if_pos z] at ih'
        rw [h2 6 b i 1 (by decide), h2 6 b i 0 (by decide), h2 6 b i 5 (by decide), q1.2.2, q0.2.2, q5.2.2]
        refine (s_X6_durationFrom G (by omega)).mono (fun v μ1 hp => ⟨_, hp.1, ?_⟩) (fun _ _ hp => hp)
        obtain ⟨-, rfl⟩ := hp
        rw [(h3 _ (show tN (μ 6 b i 1) < 8 by omega)).1]
        refine (s_X6_shortenFrom G h3 (by omega) (by omega) (by omega)).mono (fun v μ1 hp => ?_) (fun _ _ hp => hp)
        obtain ⟨y2, p1, p2, p3, p4⟩ := hp
        have p5 : Oo 25 μ μ1 := fun k b i s hk => by rw [p3 k b i s hk, h2 k b i s hk]
        refine ⟨y2, p1, fun z => ?_, fun z => ?_⟩
        · exact ih' y μ1 (fun z2 => (p2 z).trans (h1 z2)) p5 p4
        · exact ih' true μ1 (fun z2 => (by cases z2)) p5 p4
  apply wX6_shorten G b hb g hg
  exact TL nl 0 false μ (by omega) (fun _ => rfl) (Oo.rfl' μ) h
/-- the ways' end: durations to a goal -/
def dw (σ : St) (b g nl np t : Nat) : Nat → Nat := itr (rnd (esA σ b g nl np)) 7 (w0 t)
theorem es_oo {r : Nat} {μ μ' : St} (h : Oo r μ μ') (hr : 9 < r) (b g nl np : Nat) : esA μ' b g nl np = esA μ b g nl np := by
  have h1 : ∀ n, esL μ' b g n = esL μ b g n := fun n => by
    induction n with
    | zero => rfl
    | succ n ih =>
      show _ ++ _ = _ ++ _
      rw [ih, oo_iwl h hr]
      unfold eL
      rw [h 6 b n 0 (by omega), h 6 b n 1 (by omega), h 6 b n 5 (by omega)]
  have h2 : ∀ n, esP μ' b g n = esP μ b g n := fun n => by
    induction n with
    | zero => rfl
    | succ n ih =>
      show _ ++ _ = _ ++ _
      rw [ih, oo_iwp h hr]
      unfold eP
      rw [h 7 b n 0 (by omega), h 7 b n 1 (by omega), oo_rfo h hr]
  unfold esA
  rw [h1, h2]
theorem Rok.oo {r : Nat} {μ μ' : St} (h : Oo r μ μ') (hr : 9 < r) (hR : Rok μ b nl np ng W) : Rok μ' b nl np ng W := hR.congr (fun s _ _ => h 2 _ _ s (by omega)) (fun l s _ _ => h 6 _ _ s (by omega)) (fun l s _ _ => h 7 _ _ s (by omega)) (fun l s _ _ => h 3 _ _ s (by omega))
theorem Rel.oo {r : Nat} {σ' : St} {f : Nat → Int32} (h : Oo r σ σ') (hr : 9 < r) (hR : Rel σ b nl np ng f) : Rel σ' b nl np ng f := hR.congr (fun s _ _ => h 2 _ _ s (by omega)) (fun l s _ _ => h 6 _ _ s (by omega)) (fun l s _ _ => h 7 _ _ s (by omega)) (fun l s _ _ => h 3 _ _ s (by omega)) (fun _ _ => rfl)
theorem w0_le (t s : Nat) : w0 t s ≤ 1000000 := by
  unfold w0
  split
  · omega
  · exact Nat.le_refl _
theorem s_X6_measure (hb : b < 11) (hR : Rok μ b nl np ng W) {g : Nat} (hg : g < 16) {t : Nat} (ht : t < 8) : Con G mX6_measure [.ref (zad G.1 8 0 0), .ref (zad G.1 2 b 0), .ref (zad G.1 3 b g), .int (nI t)] μ (fun r μ9 => r = none ∧ Oo 25 μ μ9 ∧ Du 25 μ9 (dw μ b g nl np t)) noX := by
  have TR : ∀ k i (μ' : St), i + k = 7 → Oo 25 μ μ' → Du 25 μ' (itr (rnd (esA μ b g nl np)) i (w0 t)) → VL G mX6_measure (fun r μ9 => r = none ∧ Oo 25 μ μ9 ∧ Du 25 μ9 (dw μ b g nl np t)) noX 38 [(0, .ref (zad G.1 8 0 0)), (1, .ref (zad G.1 2 b 0)), (2, .ref (zad G.1 3 b g)), (3, .int (nI t)), (4, .int (nI (i + 1)))] [] μ' := by
    intro k
    induction k with
    | zero =>
      intro i μ' hi h2 h3
      obtain rfl : i = 7 := by omega
      apply wX6_measure_38 G b hb g hg
      exact ⟨fun _ => ⟨rfl, h2, h3⟩, fun z => absurd ((nI_leI (by omega) (by omega)).mpr (Nat.le_refl _)) z⟩
    | succ k ih =>
      intro i μ' hi h2 h3
      apply wX6_measure_38 G b hb g hg
      refine ⟨fun z => absurd ((nI_leI (by omega) (by omega)).mp z) (by omega), fun _ => ?_⟩
      refine (s_X6_shorten G hb (hR.oo h2 (by decide)) hg h3).mono (fun v μ1 hp => ?_) (fun _ _ hp => hp)
      obtain ⟨y, p1, p2, p3, p4⟩ := hp
      rw [es_oo h2 (by decide)] at p2 p4
      have p5 : Oo 25 μ μ1 := fun k b i s hk => by rw [p3 k b i s hk, h2 k b i s hk]
      refine ⟨y, p1, fun z => ?_, fun z => ⟨rfl, p5, ?_⟩⟩
      · exact ih (i + 1) μ1 (by omega) p5 p4
      · have hf := p2 z
        rw [hf] at p4
        unfold dw
        rw [show 7 = i + (7 - i) by omega, itr_add, itr_fix hf]
        exact p4
  have T0 : ∀ k i (μ' : St), i + k = 8 → Oo 25 μ μ' → (∀ s, s < i → μ' 25 0 0 s = nI (w0 t s)) → VL G mX6_measure (fun r μ9 => r = none ∧ Oo 25 μ μ9 ∧ Du 25 μ9 (dw μ b g nl np t)) noX 3 [(0, .ref (zad G.1 8 0 0)), (1, .ref (zad G.1 2 b 0)), (2, .ref (zad G.1 3 b g)), (3, .int (nI t)), (4, .int (nI i))] [] μ' := by
    intro k
    induction k with
    | zero =>
      intro i μ' hi h2 h3
      obtain rfl : i = 8 := by omega
      apply wX6_measure_3 G b hb g hg
      exact ⟨fun _ => TR 7 0 μ' (by omega) h2 (fun s hs => ⟨h3 s hs, w0_le t s⟩), fun z => absurd ((nI_leI (by omega) (by omega)).mpr (Nat.le_refl _)) z⟩
    | succ k ih =>
      intro i μ' hi h2 h3
      apply wX6_measure_3 G b hb g hg
      refine ⟨fun z => absurd ((nI_leI (by omega) (by omega)).mp z) (by omega), fun _ => ⟨fun z => ⟨by omega, ih (i + 1) _ (by omega) (oo_up h2) (fun s hs => ?_)⟩, fun z => ⟨by omega, ih (i + 1) _ (by omega) (oo_up h2) (fun s hs => ?_)⟩⟩⟩
      · by_cases c : s = i
        · subst c
          rw [up_self]
          unfold w0
          rw [if_neg (fun e => z (by rw [e]))]
        · rw [up_sl c]; exact h3 s (by omega)
      · by_cases c : s = i
        · subst c
          rw [up_self]
          unfold w0
          rw [if_pos (nI_inj (by omega) (by omega) z)]
        · rw [up_sl c]; exact h3 s (by omega)
  apply wX6_measure G b hb g hg
  exact T0 8 0 μ (by omega) (Oo.rfl' μ) (fun s hs => absurd hs (by omega))
theorem imn_n {a c : Nat} (ha : a < 2 ^ 31) (hc : c < 2 ^ 31) : imn (nI a) (nI c) = nI (min a c) := by
  unfold imn
  by_cases h : nI c < nI a
  · rw [if_pos h]
    have := (nI_ltI hc ha).mp h
    congr 1; omega
  · rw [if_neg h]
    have : ¬ c < a := fun z => h ((nI_ltI hc ha).mpr z)
    congr 1; omega
/-- the reference's ways -/
theorem s_X8_layWays (hR : Rok σ b nl np ng W) (h : Rel σ b nl np ng (row μ)) {g : Nat} (hg : g < ng) {t : Nat} (ht : t < 8) : Con G mX8_layWays [.ref (zad G.1 10 0 0), .int (nI g), .int (nI t)] μ (fun r μ9 => r = none ∧ Oo 30 μ μ9 ∧ Du 30 μ9 (dw σ b g nl np t)) noX := by
  have hn1 := hR.1.1.2
  have hn2 := hR.1.2.1.2
  have hn3 := hR.1.2.2.2
  have hE := es_ok hR (g := g)
  have e8 : itr (rnd (esA σ b g nl np)) 8 (w0 t) = dw σ b g nl np t := rnd_seven (fun e he => ⟨(hE.1 e he).1, (hE.1 e he).2.1, (hE.1 e he).2.2.1⟩) ht
  have rowe : ∀ {μ' : St}, Oo 30 μ μ' → row μ' = row μ := fun h2 => funext fun j => h2 26 0 0 j (by decide)
  have TR : ∀ k i (μ' : St), i + k = 8 → Oo 30 μ μ' → Du 30 μ' (itr (rnd (esA σ b g nl np)) i (w0 t)) → VL G mX8_layWays (fun r μ9 => r = none ∧ Oo 30 μ μ9 ∧ Du 30 μ9 (dw σ b g nl np t)) noX 33 [(0, .ref (zad G.1 10 0 0)), (1, .int (nI g)), (2, .int (nI t)), (3, .int (nI i))] [] μ' := by
    intro k
    induction k with
    | zero =>
      intro i μ' hi h2 h3
      obtain rfl : i = 8 := by omega
      apply wX8_layWays_33 G g (by omega)
      exact ⟨fun _ => ⟨rfl, h2, by rw [← e8]; exact h3⟩, fun z => absurd ((nI_leI (by omega) (by omega)).mpr (Nat.le_refl _)) z⟩
    | succ k ih =>
      intro i μ' hi h2 h3
      apply wX8_layWays_33 G g (by omega)
      refine ⟨fun z => absurd ((nI_leI (by omega) (by omega)).mp z) (by omega), fun _ => ?_⟩
      have ih1 := fun μ' => ih (i + 1) μ' (by omega)
      have e1 : itr (rnd (esA σ b g nl np)) (i + 1) (w0 t) = rnd (esA σ b g nl np) (itr (rnd (esA σ b g nl np)) i (w0 t)) := rfl
      rw [e1] at ih1
      generalize itr (rnd (esA σ b g nl np)) i (w0 t) = d at h3 ih1
      have TP : ∀ k p (μ' : St), p + k = np → Oo 30 μ μ' → Du 30 μ' (rnd (esL σ b g nl ++ esP σ b g p) d) → VL G mX8_layWays (fun r μ9 => r = none ∧ Oo 30 μ μ9 ∧ Du 30 μ9 (dw σ b g nl np t)) noX 130 [(0, .ref (zad G.1 10 0 0)), (1, .int (nI g)), (2, .int (nI t)), (3, .int (nI i)), (4, .int (nI p))] [] μ' := by
        intro k
        induction k with
        | zero =>
          intro p μ' hi h2 h3
          obtain rfl : p = np := by omega
          apply wX8_layWays_130 G g (by omega)
          refine ⟨fun _ => ih1 μ' h2 h3, fun z => absurd ((cle (x := μ' 26 0 0 4) (n := p) (by rw [h2 26 0 0 4 (by decide)]; exact h.cnp hR.1)).mpr (Nat.le_refl _)) z⟩
        | succ k ihp =>
          intro p μ' hi h2 h3
          have hip : p < np := by omega
          have ih' := fun μ' => ihp (p + 1) μ' (by omega)
          have e2 : rnd (esL σ b g nl ++ esP σ b g (p + 1)) d = (if iwp σ b g p = true then rlx (rnd (esL σ b g nl ++ esP σ b g p) d) (eP σ b g p) else rnd (esL σ b g nl ++ esP σ b g p) d) := by
            show rnd (_ ++ (_ ++ _)) d = _
            rw [← List.append_assoc]
            unfold rnd
            rw [List.foldl_append]
            split <;> rfl
          rw [e2] at ih'
          generalize rnd (esL σ b g nl ++ esP σ b g p) d = x at *
          obtain ⟨q0, q1, -⟩ := hR.2.2.2.1 p hip
          have q5 := tN_isN (rfo_n hR (g := g) hip)
          have q0 := tN_isN q0
          have q1 := tN_isN q1
          have hr : Rel σ b nl np ng (row μ') := by rw [rowe h2]; exact h
          apply wX8_layWays_130 G g (by omega)
          rw [hr.eiwp hg hip, hr.erfo hg hip, hr.ps hip (k := 1) (by decide), hr.p0 hip]
          refine ⟨fun z => absurd ((cle (x := μ' 26 0 0 4) (n := np) (by rw [h2 26 0 0 4 (by decide)]; exact h.cnp hR.1)).mp z) (by omega), fun _ => ⟨by omega, fun z => ?_, fun z => ⟨by omega, _, q0.2.2, by omega, by omega, _, q1.2.2, by omega, _, q0.2.2, by omega, ?_⟩⟩⟩
          · rw [if_neg (by rw [z]; decide)] at ih'
            exact ih' μ' h2 h3
          · rw [if_pos z] at ih'
            have a0 := h3 _ (show tN (σ 7 b p 0) < 8 by omega)
            have a1 := h3 _ (show tN (σ 7 b p 1) < 8 by omega)
            refine ih' _ (oo_up h2) (du_rlx h3 (by omega) ?_)
            rw [a0.1, a1.1, q5.2.2, nI_add, imn_n (by omega) (by omega), tN_nI (by omega), Nat.add_comm]
      have TL : ∀ k l (μ' : St), l + k = nl → Oo 30 μ μ' → Du 30 μ' (rnd (esL σ b g l) d) → VL G mX8_layWays (fun r μ9 => r = none ∧ Oo 30 μ μ9 ∧ Du 30 μ9 (dw σ b g nl np t)) noX 42 [(0, .ref (zad G.1 10 0 0)), (1, .int (nI g)), (2, .int (nI t)), (3, .int (nI i)), (4, .int (nI l))] [] μ' := by
        intro k
        induction k with
        | zero =>
          intro l μ' hi h2 h3
          obtain rfl : l = nl := by omega
          apply wX8_layWays_42 G g (by omega)
          refine ⟨fun _ => TP np 0 μ' (by omega) h2 (by show Du 30 μ' (rnd (_ ++ []) d); rw [List.append_nil]; exact h3), fun z => absurd ((cle (x := μ' 26 0 0 3) (n := l) (by rw [h2 26 0 0 3 (by decide)]; exact h.cnl hR.1)).mpr (Nat.le_refl _)) z⟩
        | succ k ihp =>
          intro l μ' hi h2 h3
          have hip : l < nl := by omega
          have ih' := fun μ' => ihp (l + 1) μ' (by omega)
          have e2 : rnd (esL σ b g (l + 1)) d = (if iwl σ b g l = true then rlx (rnd (esL σ b g l) d) (eL σ b l) else rnd (esL σ b g l) d) := by
            show rnd (_ ++ _) d = _
            unfold rnd
            rw [List.foldl_append]
            split <;> rfl
          rw [e2] at ih'
          generalize rnd (esL σ b g l) d = x at *
          obtain ⟨q0, q1, -, -, q5, -⟩ := hR.2.2.1 l hip
          have q5 := tN_isN q5
          have q0 := tN_isN q0
          have q1 := tN_isN q1
          have hr : Rel σ b nl np ng (row μ') := by rw [rowe h2]; exact h
          apply wX8_layWays_42 G g (by omega)
          rw [hr.eiwl hg hip, hr.ls hip (k := 1) (by decide), hr.l0 hip, hr.ls hip (k := 5) (by decide)]
          refine ⟨fun z => absurd ((cle (x := μ' 26 0 0 3) (n := nl) (by rw [h2 26 0 0 3 (by decide)]; exact h.cnl hR.1)).mp z) (by omega), fun _ => ⟨by omega, fun z => ?_, fun z => ⟨by omega, _, q0.2.2, by omega, by omega, _, q1.2.2, by omega, by omega, _, q0.2.2, by omega, ?_⟩⟩⟩
          · rw [if_neg (by rw [z]; decide)] at ih'
            exact ih' μ' h2 h3
          · rw [if_pos z] at ih'
            have a0 := h3 _ (show tN (σ 6 b l 0) < 8 by omega)
            have a1 := h3 _ (show tN (σ 6 b l 1) < 8 by omega)
            refine ih' _ (oo_up h2) (du_rlx h3 (by omega) ?_)
            rw [a0.1, a1.1, q5.2.2, nI_add, imn_n (by omega) (by omega), tN_nI (by omega), Nat.add_comm]
      exact TL nl 0 μ' (by omega) h2 h3
  have T0 : ∀ k i (μ' : St), i + k = 8 → Oo 30 μ μ' → (∀ s, s < i → μ' 30 0 0 s = nI (w0 t s)) → VL G mX8_layWays (fun r μ9 => r = none ∧ Oo 30 μ μ9 ∧ Du 30 μ9 (dw σ b g nl np t)) noX 2 [(0, .ref (zad G.1 10 0 0)), (1, .int (nI g)), (2, .int (nI t)), (3, .int (nI i))] [] μ' := by
    intro k
    induction k with
    | zero =>
      intro i μ' hi h2 h3
      obtain rfl : i = 8 := by omega
      apply wX8_layWays_2 G g (by omega)
      exact ⟨fun _ => TR 8 0 μ' (by omega) h2 (fun s hs => ⟨h3 s hs, w0_le t s⟩), fun z => absurd ((nI_leI (by omega) (by omega)).mpr (Nat.le_refl _)) z⟩
    | succ k ih =>
      intro i μ' hi h2 h3
      apply wX8_layWays_2 G g (by omega)
      refine ⟨fun z => absurd ((nI_leI (by omega) (by omega)).mp z) (by omega), fun _ => ⟨fun z => ⟨by omega, ih (i + 1) _ (by omega) (oo_up h2) (fun s hs => ?_)⟩, fun z => ⟨by omega, ih (i + 1) _ (by omega) (oo_up h2) (fun s hs => ?_)⟩⟩⟩
      · by_cases c : s = i
        · subst c
          rw [up_self]
          unfold w0
          rw [if_neg (fun e => z (by rw [e]))]
        · rw [up_sl c]; exact h3 s (by omega)
      · by_cases c : s = i
        · subst c
          rw [up_self]
          unfold w0
          rw [if_pos (nI_inj (by omega) (by omega) z)]
        · rw [up_sl c]; exact h3 s (by omega)
  apply wX8_layWays G g (by omega)
  exact T0 8 0 μ (by omega) (Oo.rfl' μ) (fun s hs => absurd hs (by omega))
end CW
