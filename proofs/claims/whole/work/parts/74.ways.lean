/-! ===== ways: parts as weighted edges, rounds of weighing ===== -/
abbrev Edg : Type := Nat × Nat × Nat
def rlx (d : Nat → Nat) (e : Edg) : Nat → Nat := fun s => if s = e.1 then min (d e.1) (e.2.2 + d e.2.1) else d s
def rnd (E : List Edg) (d : Nat → Nat) : Nat → Nat := E.foldl rlx d
def itr {A : Type} (f : A → A) : Nat → A → A
  | 0, x => x
  | n + 1, x => f (itr f n x)
theorem itr_in {A : Type} (f : A → A) (n : Nat) (x : A) : itr f n (f x) = f (itr f n x) := by
  induction n with
  | zero => rfl
  | succ n ih => show f (itr f n (f x)) = _; rw [ih]; rfl
theorem itr_fix {A : Type} {f : A → A} {x : A} (h : f x = x) (n : Nat) : itr f n x = x := by
  induction n with
  | zero => rfl
  | succ n ih => show f (itr f n x) = _; rw [ih, h]
theorem itr_add {A : Type} (f : A → A) (m n : Nat) (x : A) : itr f (m + n) x = itr f n (itr f m x) := by
  induction n with
  | zero => rfl
  | succ n ih => show f (itr f (m + n) x) = f (itr f n (itr f m x)); rw [ih]
def w0 (goal : Nat) : Nat → Nat := fun s => if s = goal then 0 else 1000000
theorem rlx_le (d : Nat → Nat) (e : Edg) (s : Nat) : rlx d e s ≤ d s := by
  unfold rlx
  split
  · rename_i h
    rw [h]; exact Nat.min_le_left _ _
  · exact Nat.le_refl _
theorem rnd_le (E : List Edg) : ∀ (d : Nat → Nat) (s : Nat), rnd E d s ≤ d s := by
  induction E with
  | nil => exact fun d s => Nat.le_refl _
  | cons e E ih => exact fun d s => Nat.le_trans (ih (rlx d e) s) (rlx_le d e s)
theorem itr_le (E : List Edg) (d : Nat → Nat) (m n s : Nat) : itr (rnd E) (m + n) d s ≤ itr (rnd E) m d s := by
  induction n with
  | zero => exact Nat.le_refl _
  | succ n ih => exact Nat.le_trans (rnd_le E _ s) ih
theorem rnd_at (E : List Edg) : ∀ (d : Nat → Nat) (e : Edg), e ∈ E → rnd E d e.1 ≤ e.2.2 + d e.2.1 := by
  induction E with
  | nil => intro d e h; cases h
  | cons e0 E ih =>
    intro d e h
    rcases List.mem_cons.mp h with rfl | h
    · refine Nat.le_trans (rnd_le E (rlx d e) e.1) ?_
      unfold rlx
      rw [if_pos rfl]
      exact Nat.min_le_right _ _
    · exact Nat.le_trans (ih (rlx d e0) e h) (Nat.add_le_add_left (rlx_le d e0 _) _)
/-- each station's value is its first one, or a part bears it -/
def Sup (E : List Edg) (x d : Nat → Nat) : Prop := ∀ u, d u = x u ∨ ∃ e, e ∈ E ∧ e.1 = u ∧ e.2.2 + d e.2.1 ≤ d u
theorem sup_rlx {E : List Edg} {x d : Nat → Nat} (h : Sup E x d) {e : Edg} (he : e ∈ E) : Sup E x (rlx d e) := by
  intro u
  by_cases c : u = e.1 ∧ e.2.2 + d e.2.1 < d e.1
  · right
    refine ⟨e, he, c.1.symm, ?_⟩
    have h1 : rlx d e u = e.2.2 + d e.2.1 := by
      show (if u = e.1 then _ else _) = _
      rw [if_pos c.1]; omega
    have h2 := rlx_le d e e.2.1
    omega
  · have h1 : rlx d e u = d u := by
      show (if u = e.1 then _ else _) = _
      by_cases hu : u = e.1
      · rw [if_pos hu, hu]
        have : ¬ (e.2.2 + d e.2.1 < d e.1) := fun z => c ⟨hu, z⟩
        omega
      · rw [if_neg hu]
    rcases h u with h3 | ⟨e', h4, h5, h6⟩
    · exact Or.inl (h1.trans h3)
    · refine Or.inr ⟨e', h4, h5, ?_⟩
      have h2 := rlx_le d e e'.2.1
      omega
theorem sup_rnd {E E' : List Edg} {x : Nat → Nat} (hs : ∀ e, e ∈ E' → e ∈ E) : ∀ {d : Nat → Nat}, Sup E x d → Sup E x (rnd E' d) := by
  induction E' with
  | nil => exact fun h => h
  | cons e E' ih => exact fun h => ih (fun e' he' => hs e' (List.mem_cons_of_mem _ he')) (sup_rlx h (hs e List.mem_cons_self))
theorem sup_itr {E : List Edg} {x d : Nat → Nat} (h : Sup E x d) (n : Nat) : Sup E x (itr (rnd E) n d) := by
  induction n with
  | zero => exact h
  | succ n ih => exact sup_rnd (fun e he => he) ih
/-- far, or near -/
def Nr (B : Nat) (d : Nat → Nat) : Prop := ∀ s, d s = 1000000 ∨ d s ≤ B
theorem nr_rlx {B : Nat} {d : Nat → Nat} (h : Nr B d) {e : Edg} (h1 : e.2.2 ≤ 18) (hB : B < 900000) : Nr (B + 18) (rlx d e) := by
  intro s
  show (if s = e.1 then _ else _) = _ ∨ (if s = e.1 then _ else _) ≤ _
  by_cases hs : s = e.1
  · rw [if_pos hs]
    have a1 := h e.1
    have a2 := h e.2.1
    omega
  · rw [if_neg hs]
    have a1 := h s
    omega
theorem nr_rnd {E : List Edg} (he : ∀ e, e ∈ E → e.2.2 ≤ 18) : ∀ {B : Nat} {d : Nat → Nat}, Nr B d → B + 18 * E.length < 900000 → Nr (B + 18 * E.length) (rnd E d) := by
  induction E with
  | nil => exact fun h _ => h
  | cons e E ih =>
    intro B d h hB
    rw [List.length_cons] at hB ⊢
    have := ih (fun e' he' => he e' (List.mem_cons_of_mem _ he')) (nr_rlx h (he e List.mem_cons_self) (by omega)) (by omega)
    rw [show B + 18 * (E.length + 1) = B + 18 + 18 * E.length by omega]
    exact this
theorem nr_itr {E : List Edg} (he : ∀ e, e ∈ E → e.2.2 ≤ 18) (hl : E.length ≤ 16) {d : Nat → Nat} (h : Nr 0 d) (n : Nat) (hn : n ≤ 8) : Nr (288 * n) (itr (rnd E) n d) := by
  induction n with
  | zero => exact h
  | succ n ih =>
    have h1 := nr_rnd he (ih (by omega)) (by omega)
    intro s
    rcases h1 s with h2 | h2
    · exact Or.inl h2
    · exact Or.inr (by show rnd E (itr (rnd E) n d) s ≤ _; omega)
theorem w0_nr (goal : Nat) : Nr 0 (w0 goal) := fun s => by
  unfold w0
  split
  · exact Or.inr (Nat.le_refl _)
  · exact Or.inl rfl
/-- the sum over the stations -/
def sm (d : Nat → Nat) : Nat → Nat
  | 0 => 0
  | n + 1 => sm d n + d n
theorem sm_le {d d' : Nat → Nat} (h : ∀ s, d' s ≤ d s) : ∀ n, sm d' n ≤ sm d n
  | 0 => Nat.le_refl _
  | n + 1 => Nat.add_le_add (sm_le h n) (h n)
theorem sm_lt {d d' : Nat → Nat} (h : ∀ s, d' s ≤ d s) {u : Nat} (hu : d' u < d u) : ∀ n, u < n → sm d' n < sm d n
  | 0, h0 => absurd h0 (by omega)
  | n + 1, h0 => by
    show sm d' n + d' n < sm d n + d n
    rcases Nat.lt_or_ge u n with h1 | h1
    · have a1 := sm_lt h hu n h1
      have a2 := h n
      omega
    · obtain rfl : u = n := by omega
      have a1 := sm_le h u
      omega
/-- rounds come to rest -/
theorem rnd_rest {E : List Edg} (hE : ∀ e, e ∈ E → e.1 < 8) : ∀ (m : Nat) (d : Nat → Nat), sm d 8 = m → ∃ k, rnd E (itr (rnd E) k d) = itr (rnd E) k d := by
  intro m
  induction m using Nat.strongRecOn with
  | ind m ih =>
    intro d hd
    by_cases c : ∃ u, u < 8 ∧ rnd E d u < d u
    · obtain ⟨u, u1, u2⟩ := c
      have := sm_lt (rnd_le E d) u2 8 u1
      obtain ⟨k, hk⟩ := ih (sm (rnd E d) 8) (by omega) (rnd E d) rfl
      refine ⟨k + 1, ?_⟩
      have e : itr (rnd E) (k + 1) d = itr (rnd E) k (rnd E d) := (itr_in (rnd E) k d).symm
      rw [e]; exact hk
    · refine ⟨0, funext fun s => ?_⟩
      show rnd E d s = d s
      by_cases hs : s < 8
      · have := rnd_le E d s
        have h2 : ¬ rnd E d s < d s := fun z => c ⟨s, hs, z⟩
        omega
      · clear c ih hd
        induction E generalizing d with
        | nil => rfl
        | cons e E ih2 =>
          have h1 := hE e List.mem_cons_self
          have h2 := ih2 (fun e' he' => hE e' (List.mem_cons_of_mem _ he')) (rlx d e)
          have h3 : rlx d e s = d s := by
            show (if s = e.1 then _ else _) = _
            rw [if_neg (by omega)]
          exact h2.trans h3
theorem cn_lt {p q : Nat → Bool} (h : ∀ i, p i = true → q i = true) {u : Nat} (h1 : ¬ p u = true) (h2 : q u = true) : ∀ n, u < n → cn p n + 1 ≤ cn q n
  | 0, h0 => absurd h0 (by omega)
  | n + 1, h0 => by
    have mono : ∀ n, cn p n ≤ cn q n := fun n => by
      induction n with
      | zero => exact Nat.le_refl _
      | succ n ih =>
        show cn p n + _ ≤ cn q n + _
        by_cases hp : p n = true
        · rw [if_pos hp, if_pos (h n hp)]; omega
        · rw [if_neg hp]; omega
    show cn p n + _ + 1 ≤ cn q n + _
    rcases Nat.lt_or_ge u n with h3 | h3
    · have a1 := cn_lt h h1 h2 n h3
      by_cases hp : p n = true
      · rw [if_pos hp, if_pos (h n hp)]; omega
      · rw [if_neg hp]; omega
    · obtain rfl : u = n := by omega
      rw [if_neg h1, if_pos h2]
      have := mono u
      omega
theorem cn_full {p : Nat → Bool} : ∀ n, n ≤ cn p n → ∀ i, i < n → p i = true
  | 0, _, i, hi => absurd hi (by omega)
  | n + 1, h, i, hi => by
    have h1 := cn_le p n
    have h2 : cn p (n + 1) = cn p n + (if p n = true then 1 else 0) := rfl
    by_cases hp : p n = true
    · rw [if_pos hp] at h2
      rcases Nat.lt_or_ge i n with h3 | h3
      · exact cn_full n (by omega) i h3
      · obtain rfl : i = n := by omega
        exact hp
    · rw [if_neg hp] at h2
      omega
theorem least_of {P : Nat → Prop} (f : Nat → Nat) : ∀ (m u : Nat), f u = m → P u → ∃ v, P v ∧ ∀ x, P x → f v ≤ f x := by
  intro m
  induction m using Nat.strongRecOn with
  | ind m ih =>
    intro u hu hp
    by_cases c : ∃ x, P x ∧ f x < f u
    · obtain ⟨x, x1, x2⟩ := c
      exact ih (f x) (by omega) x rfl x1
    · refine ⟨u, hp, fun x hx => ?_⟩
      rcases Nat.lt_or_ge (f x) (f u) with h | h
      · exact absurd ⟨x, hx, h⟩ c
      · exact h
/-- after 7 rounds nothing becomes less -/
theorem rnd_seven {E : List Edg} (hE : ∀ e, e ∈ E → e.1 < 8 ∧ e.2.1 < 8 ∧ 1 ≤ e.2.2) {goal : Nat} (hg : goal < 8) : rnd E (itr (rnd E) 7 (w0 goal)) = itr (rnd E) 7 (w0 goal) := by
  obtain ⟨K, hK⟩ := rnd_rest (fun e he => (hE e he).1) _ (w0 goal) rfl
  have sup : ∀ n, Sup E (w0 goal) (itr (rnd E) n (w0 goal)) := fun n => sup_itr (fun u => Or.inl rfl) n
  -- the limit
  have dle : ∀ n s, itr (rnd E) K (w0 goal) s ≤ itr (rnd E) n (w0 goal) s := fun n s => by
    rcases Nat.le_total n K with h | h
    · obtain ⟨m, rfl⟩ : ∃ m, K = n + m := ⟨K - n, by omega⟩
      exact itr_le E _ _ _ s
    · obtain ⟨m, rfl⟩ : ∃ m, n = K + m := ⟨n - K, by omega⟩
      rw [itr_add, itr_fix hK]
      exact Nat.le_refl _
  have supD := sup K
  generalize hD : itr (rnd E) K (w0 goal) = D at *
  have stay : ∀ n s, itr (rnd E) n (w0 goal) s = D s → itr (rnd E) (n + 1) (w0 goal) s = D s := fun n s h => by
    have h1 := dle (n + 1) s
    have h2 : itr (rnd E) (n + 1) (w0 goal) s ≤ itr (rnd E) n (w0 goal) s := rnd_le E _ s
    omega
  have cnt : ∀ n, n ≤ 7 → n + 1 ≤ cn (fun s => decide (itr (rnd E) n (w0 goal) s = D s)) 8 := by
    intro n
    induction n with
    | zero =>
      intro _
      have hgD : w0 goal goal = D goal := by
        have := dle 0 goal
        have h0 : w0 goal goal = 0 := by unfold w0; rw [if_pos rfl]
        have h1 : D goal ≤ w0 goal goal := this
        omega
      have h1 := cn_lt (p := fun _ => false) (q := fun s => decide (itr (rnd E) 0 (w0 goal) s = D s)) (fun i h => by cases h) (u := goal) (by decide) (decide_eq_true hgD) 8 hg
      omega
    | succ n ih =>
      intro hn
      have h1 := ih (by omega)
      by_cases c : ∃ u, u < 8 ∧ ¬ itr (rnd E) n (w0 goal) u = D u
      · obtain ⟨u0, c0⟩ := c
        obtain ⟨u, ⟨u1, u2⟩, u3⟩ := least_of (P := fun u => u < 8 ∧ ¬ itr (rnd E) n (w0 goal) u = D u) D _ u0 rfl c0
        have hlt : D u < itr (rnd E) n (w0 goal) u := by have := dle n u; omega
        have hle0 : itr (rnd E) n (w0 goal) u ≤ w0 goal u := by
          have := itr_le E (w0 goal) 0 n u
          rw [Nat.zero_add] at this
          exact this
        have hset : itr (rnd E) (n + 1) (w0 goal) u = D u := by
          rcases supD u with h2 | ⟨e, e1, e2, e3⟩
          · omega
          · obtain ⟨a1, a2, a3⟩ := hE e e1
            have hv : itr (rnd E) n (w0 goal) e.2.1 = D e.2.1 := by
              by_cases hv : itr (rnd E) n (w0 goal) e.2.1 = D e.2.1
              · exact hv
              · have := u3 e.2.1 ⟨a2, hv⟩
                omega
            have h3 := rnd_at E (itr (rnd E) n (w0 goal)) e e1
            rw [hv, e2] at h3
            have h4 := dle (n + 1) u
            have h5 : itr (rnd E) (n + 1) (w0 goal) u = rnd E (itr (rnd E) n (w0 goal)) u := rfl
            omega
        have h2 := cn_lt (p := fun s => decide (itr (rnd E) n (w0 goal) s = D s)) (q := fun s => decide (itr (rnd E) (n + 1) (w0 goal) s = D s)) (fun i h => decide_eq_true (stay n i (of_decide_eq_true h))) (u := u) (fun h => u2 (of_decide_eq_true h)) (decide_eq_true hset) 8 u1
        omega
      · have all : ∀ i, i < 8 → itr (rnd E) n (w0 goal) i = D i := fun i hi => by
          by_cases h : itr (rnd E) n (w0 goal) i = D i
          · exact h
          · exact absurd ⟨i, hi, h⟩ c
        have : cn (fun s => decide (itr (rnd E) (n + 1) (w0 goal) s = D s)) 8 = cn (fun _ => true) 8 := cn_ext 8 (fun i hi => decide_eq_true (stay n i (all i hi)))
        rw [this]
        have : cn (fun _ => true) 8 = 8 := rfl
        omega
  have all := cn_full 8 (cnt 7 (Nat.le_refl _))
  have e7 : itr (rnd E) 7 (w0 goal) = D := funext fun s => by
    by_cases hs : s < 8
    · exact of_decide_eq_true (all s hs)
    · have out : ∀ n, itr (rnd E) n (w0 goal) s = w0 goal s := fun n => by
        induction n with
        | zero => rfl
        | succ n ih =>
          have h1 : rnd E (itr (rnd E) n (w0 goal)) s = itr (rnd E) n (w0 goal) s := by
            have h2 := rnd_le E (itr (rnd E) n (w0 goal)) s
            rcases sup (n + 1) s with h3 | ⟨e, e1, e2, -⟩
            · rw [ih]; exact h3
            · exact absurd (hE e e1).1 (by omega)
          exact h1.trans ih
      rw [out 7, ← hD, out K]
  rw [e7]; exact hK
/-! sets of stations that a guest comes to -/
def spr (S : Nat → Bool) (e : Edg) : Nat → Bool := fun s => if s = e.2.1 ∧ S e.1 = true then true else S s
def spd (E : List Edg) (S : Nat → Bool) : Nat → Bool := E.foldl spr S
theorem spr_le {S : Nat → Bool} (e : Edg) {s : Nat} (h : S s = true) : spr S e s = true := by
  unfold spr
  split
  · rfl
  · exact h
theorem spd_le (E : List Edg) : ∀ (S : Nat → Bool) (s : Nat), S s = true → spd E S s = true := by
  induction E with
  | nil => exact fun S s h => h
  | cons e E ih => exact fun S s h => ih (spr S e) s (spr_le e h)
theorem spd_at (E : List Edg) : ∀ (S : Nat → Bool) (e : Edg), e ∈ E → S e.1 = true → spd E S e.2.1 = true := by
  induction E with
  | nil => intro S e h; cases h
  | cons e0 E ih =>
    intro S e h h1
    rcases List.mem_cons.mp h with rfl | h
    · refine spd_le E (spr S e) _ ?_
      unfold spr
      rw [if_pos ⟨rfl, h1⟩]
    · exact ih (spr S e0) e h (spr_le e0 h1)
theorem spd_in (E : List Edg) {C : Nat → Prop} (hC : ∀ e, e ∈ E → C e.1 → C e.2.1) : ∀ (S : Nat → Bool), (∀ s, S s = true → C s) → ∀ s, spd E S s = true → C s := by
  induction E with
  | nil => exact fun S h => h
  | cons e E ih =>
    intro S h
    refine ih (fun e' he' => hC e' (List.mem_cons_of_mem _ he')) (spr S e) (fun s hs => ?_)
    unfold spr at hs
    by_cases c : s = e.2.1 ∧ S e.1 = true
    · rw [c.1]; exact hC e List.mem_cons_self (h _ c.2)
    · rw [if_neg c] at hs; exact h s hs
theorem spd_seven {E : List Edg} (hE : ∀ e, e ∈ E → e.1 < 8 ∧ e.2.1 < 8) {S : Nat → Bool} {a : Nat} (ha : a < 8) (h : S a = true) : ∀ e, e ∈ E → itr (spd E) 7 S e.1 = true → itr (spd E) 7 S e.2.1 = true := by
  have stay : ∀ n s, itr (spd E) n S s = true → itr (spd E) (n + 1) S s = true := fun n s h => spd_le E _ s h
  have up7 : ∀ m n s, itr (spd E) n S s = true → itr (spd E) (n + m) S s = true := fun m n s h => by
    induction m with
    | zero => exact h
    | succ m ih => exact stay _ _ ih
  -- either a round before the seventh adds nothing, or all are there
  have alt : ∀ n, n ≤ 7 → (∃ k, k < n ∧ ∀ s, s < 8 → itr (spd E) (k + 1) S s = itr (spd E) k S s) ∨ n + 1 ≤ cn (itr (spd E) n S) 8 := by
    intro n
    induction n with
    | zero =>
      intro _
      have h1 := cn_lt (p := fun _ => false) (q := S) (fun i h => by cases h) (u := a) (by decide) h 8 ha
      exact Or.inr (by show 0 + 1 ≤ cn S 8; omega)
    | succ n ih =>
      intro hn
      rcases ih (by omega) with ⟨k, k1, k2⟩ | h1
      · exact Or.inl ⟨k, by omega, k2⟩
      · by_cases c : ∃ u, u < 8 ∧ ¬ itr (spd E) (n + 1) S u = itr (spd E) n S u
        · obtain ⟨u, u1, u2⟩ := c
          have hn0 : ¬ itr (spd E) n S u = true := fun z => u2 (by rw [z, stay n u z])
          have hn1 : itr (spd E) (n + 1) S u = true := by
            cases hq : itr (spd E) (n + 1) S u
            · exfalso
              cases hq2 : itr (spd E) n S u
              · exact u2 (by rw [hq, hq2])
              · exact hn0 hq2
            · rfl
          have := cn_lt (p := itr (spd E) n S) (q := itr (spd E) (n + 1) S) (fun i h => stay n i h) hn0 hn1 8 u1
          exact Or.inr (by omega)
        · refine Or.inl ⟨n, by omega, fun s hs => ?_⟩
          by_cases hq : itr (spd E) (n + 1) S s = itr (spd E) n S s
          · exact hq
          · exact absurd ⟨s, hs, hq⟩ c
  intro e he h1
  obtain ⟨a1, a2⟩ := hE e he
  rcases alt 7 (Nat.le_refl _) with ⟨k, k1, k2⟩ | h2
  · -- the set at k is closed, and stays so
    have cl : ∀ e, e ∈ E → itr (spd E) k S e.1 = true → itr (spd E) k S e.2.1 = true := fun e he h => by
      rw [← k2 _ (hE e he).2]
      exact spd_at E _ e he h
    have same : ∀ m s, itr (spd E) (k + m) S s = true → itr (spd E) k S s = true := fun m => by
      induction m with
      | zero => exact fun s h => h
      | succ m ih =>
        intro s hs
        exact spd_in E (C := fun s => itr (spd E) k S s = true) cl (itr (spd E) (k + m) S) ih s hs
    have e7 : 7 = k + (7 - k) := by omega
    rw [e7] at h1 ⊢
    exact up7 _ _ _ (cl e he (same _ _ h1))
  · exact cn_full 8 h2 _ a2
/-- whom 7 rounds of spreading reach, and who comes to a goal by weighing: the same -/
theorem reach_same {E : List Edg} (hE : ∀ e, e ∈ E → e.1 < 8 ∧ e.2.1 < 8 ∧ 1 ≤ e.2.2 ∧ e.2.2 ≤ 18) (hl : E.length ≤ 16) {a s : Nat} (ha : a < 8) (hs : s < 8) : itr (spd E) 7 (fun x => decide (x = a)) s = true ↔ itr (rnd E) 7 (w0 s) a < 1000000 := by
  have hfix := rnd_seven (fun e he => ⟨(hE e he).1, (hE e he).2.1, (hE e he).2.2.1⟩) hs
  have hnr := nr_itr (fun e he => (hE e he).2.2.2) hl (w0_nr s) 7 (by decide)
  have hsup : Sup E (w0 s) (itr (rnd E) 7 (w0 s)) := sup_itr (fun u => Or.inl rfl) 7
  have hgoal : itr (rnd E) 7 (w0 s) s ≤ 0 := by
    have := itr_le E (w0 s) 0 7 s
    rw [Nat.zero_add] at this
    refine Nat.le_trans this ?_
    show w0 s s ≤ 0
    unfold w0
    rw [if_pos rfl]
    exact Nat.le_refl _
  have hcl := spd_seven (fun e he => ⟨(hE e he).1, (hE e he).2.1⟩) (S := fun x => decide (x = a)) ha (decide_eq_true rfl)
  have hin : ∀ (C : Nat → Prop), C a → (∀ e, e ∈ E → C e.1 → C e.2.1) → ∀ x, itr (spd E) 7 (fun x => decide (x = a)) x = true → C x := fun C h0 hC => by
    have : ∀ n x, itr (spd E) n (fun x => decide (x = a)) x = true → C x := fun n => by
      induction n with
      | zero =>
        intro x hx
        have : x = a := of_decide_eq_true hx
        rw [this]; exact h0
      | succ n ih => exact fun x hx => spd_in E hC _ ih x hx
    exact this 7
  have ha7 : itr (spd E) 7 (fun x => decide (x = a)) a = true := by
    have : ∀ n, itr (spd E) n (fun x => decide (x = a)) a = true := fun n => by
      induction n with
      | zero => exact decide_eq_true rfl
      | succ n ih => exact spd_le E _ _ ih
    exact this 7
  generalize itr (rnd E) 7 (w0 s) = D at *
  generalize itr (spd E) 7 (fun x => decide (x = a)) = S at *
  constructor
  · intro h
    by_cases c : D a < 1000000
    · exact c
    · exfalso
      have := hin (fun u => ¬ D u < 1000000) c (fun e he h1 h2 => h1 (by
        have h3 := rnd_at E D e he
        rw [hfix] at h3
        have h4 := hnr e.2.1
        have h5 := (hE e he).2.2.2
        omega)) s h
      omega
  · intro h
    have key : ∀ m u, D u = m → S u = true → D u < 1000000 → S s = true := by
      intro m
      induction m using Nat.strongRecOn with
      | ind m ih =>
        intro u hu hS hlt
        rcases hsup u with h1 | ⟨e, e1, e2, e3⟩
        · have : u = s := by
            unfold w0 at h1
            by_cases c : u = s
            · exact c
            · rw [if_neg c] at h1; omega
          rw [← this]; exact hS
        · have h2 := (hE e e1).2.2.1
          exact ih (D e.2.1) (by omega) e.2.1 rfl (hcl e e1 (by rw [e2]; exact hS)) (by omega)
    exact key _ a rfl ha7 h
