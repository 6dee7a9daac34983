/-! ===== runs of loops ===== -/
def rn {S : Type} (f : S → Nat → S) : Nat → Nat → S → S
  | _, 0, x => x
  | i, d + 1, x => rn f (i + 1) d (f x i)
theorem rn_loop {S : Type} {f : S → Nat → S} {T : Nat → S → Prop} {I : S → Prop} {n : Nat} (hs : ∀ i x, i < n → I x → T (i + 1) (f x i) → T i x) (hI : ∀ i x, i < n → I x → I (f x i)) (d i : Nat) (h : i + d = n) (x : S) (hx : I x) (hq : I (rn f i d x) → T n (rn f i d x)) : T i x := by
  induction d generalizing i x with
  | zero =>
    have e : i = n := by omega
    subst e
    exact hq hx
  | succ d ih => exact hs i x (by omega) hx (ih (i + 1) (by omega) _ (hI i x (by omega) hx) hq)
theorem rn_at {S : Type} {f : S → Nat → S} {T : Nat → S → Prop} {n : Nat} (hs : ∀ i x, i < n → T (i + 1) (f x i) → T i x) (x : S) (hq : T n (rn f 0 n x)) : T 0 x :=
  rn_loop (I := fun _ => True) (fun i x h _ => hs i x h) (fun _ _ _ _ => trivial) n 0 (by omega) x trivial (fun _ => hq)
theorem rn_inv {S : Type} {f : S → Nat → S} {I : Nat → S → Prop} {n : Nat} (hI : ∀ i x, i < n → I i x → I (i + 1) (f x i)) (d i : Nat) (h : i + d = n) (x : S) (hx : I i x) : I n (rn f i d x) := by
  induction d generalizing i x with
  | zero =>
    have e : i = n := by omega
    subst e
    exact hx
  | succ d ih => exact ih (i + 1) (by omega) _ (hI i x (by omega) hx)
theorem rn_inv0 {S : Type} {f : S → Nat → S} {I : S → Prop} {n : Nat} (hI : ∀ i x, i < n → I x → I (f x i)) (x : S) (hx : I x) : I (rn f 0 n x) := rn_inv (I := fun _ x => I x) (fun i x h hx => hI i x h hx) n 0 (by omega) x hx
theorem rn_ext {S : Type} {f g : S → Nat → S} {n : Nat} (hI : ∀ i x, i < n → f x i = g x i) (d i : Nat) (h : i + d = n) (x : S) : rn f i d x = rn g i d x := by
  induction d generalizing i x with
  | zero => rfl
  | succ d ih => rw [rn, rn, hI i x (by omega), ih (i + 1) (by omega)]
theorem rn_end {S : Type} (f : S → Nat → S) (i d : Nat) (x : S) : rn f i (d + 1) x = f (rn f i d x) (i + d) := by
  induction d generalizing i x with
  | zero => rfl
  | succ d ih => rw [rn, ih, rn]; congr 1; omega
/-- an int as a number -/
def tN (x : Int32) : Nat := x.toInt.toNat
theorem tN_nI {n : Nat} (h : n < 2 ^ 31) : tN (nI n) = n := by rw [tN, nI_toInt h]; exact Int.toNat_natCast n
theorem nI_inj {a b : Nat} (ha : a < 2 ^ 31) (hb : b < 2 ^ 31) (h : nI a = nI b) : a = b := by rw [← tN_nI ha, h, tN_nI hb]
theorem cle {x : Int32} {n i : Nat} (h : x = nI n) (hn : n < 2 ^ 31 := by omega) (hi : i < 2 ^ 31 := by omega) : x ≤ nI i ↔ n ≤ i := by rw [h, nI_leI hn hi]
theorem idx_ok {x c : Int32} {i n : Nat} (hx : x = nI i) (hc : c = nI n) (hi : i < n) (hn : n < 2 ^ 31) : idx x c = true := by
  rw [hx, hc, idx, Bool.and_eq_true]
  exact ⟨decide_eq_true (by rw [← nI_0]; exact (nI_leI (by decide) (by omega)).mpr (Nat.zero_le _)), decide_eq_true ((nI_ltI (by omega) hn).mpr hi)⟩
theorem idx_no {x c : Int32} {i n : Nat} (hx : x = nI i) (hc : c = nI n) (hi : i < n) (hn : n < 2 ^ 31) {Q : Prop} (h : idx x c = false) : Q := by
  rw [idx_ok hx hc hi hn] at h
  cases h
/-- a number between two bounds -/
def isN (x : Int32) (lo hi : Nat) : Prop := ∃ n : Nat, lo ≤ n ∧ n ≤ hi ∧ x = nI n
/-- an area's counts -/
def Cnt (μ : St) (b nl np ng : Nat) : Prop := (μ 2 b 0 3 = nI nl ∧ nl ≤ 6) ∧ (μ 2 b 0 4 = nI np ∧ np ≤ 10) ∧ (μ 2 b 0 5 = nI ng ∧ ng ≤ 16)
def lOk (μ : St) (b l : Nat) : Prop := isN (μ 6 b l 0) 0 7 ∧ isN (μ 6 b l 1) 0 7 ∧ isN (μ 6 b l 2) 0 3 ∧ isN (μ 6 b l 4) 1 8 ∧ isN (μ 6 b l 5) 1 9 ∧ isN (μ 6 b l 6) 0 3 ∧ ∃ v c : Nat, 1 ≤ v ∧ v ≤ 6 ∧ c < 2 * v ∧ μ 6 b l 3 = nI v ∧ μ 6 b l 7 = nI c
def pOk (μ : St) (b W p : Nat) : Prop := isN (μ 7 b p 0) 0 7 ∧ isN (μ 7 b p 1) 0 7 ∧ isN (μ 7 b p 2) 1 3 ∧ isN (μ 7 b p 3) 1 9 ∧ isN (μ 7 b p 4) 0 2 ∧ isN (μ 7 b p 5) 0 W ∧ (μ 7 b p 4 = nI 2 → isN (μ 7 b p 6) 1 (W + 1))
def gOk (μ : St) (b nl np g : Nat) : Prop := isN (μ 3 b g 0) 1 3 ∧ ((μ 3 b g 4 = nI 0 ∧ isN (μ 3 b g 5) 0 7 ∧ μ 3 b g 6 = nI 0) ∨ (μ 3 b g 4 = nI 1 ∧ (∃ l, l < nl ∧ μ 3 b g 5 = nI l) ∧ μ 3 b g 6 = nI 0 ∧ isN (μ 3 b g 7) 0 9) ∨ (μ 3 b g 4 = nI 2 ∧ (∃ l, l < nl ∧ μ 3 b g 5 = nI l) ∧ isN (μ 3 b g 6) 1 18) ∨ (μ 3 b g 4 = nI 3 ∧ (∃ p, p < np ∧ μ 3 b g 5 = nI p) ∧ isN (μ 3 b g 6) 1 18) ∨ (μ 3 b g 4 = nI 4 ∧ μ 3 b g 5 = -1 ∧ μ 3 b g 6 = nI 0))
/-- what is sound of an area's numbers; W bounds the wear -/
def Rok (μ : St) (b nl np ng W : Nat) : Prop := Cnt μ b nl np ng ∧ (isN (μ 2 b 0 6) 0 9 ∧ isN (μ 2 b 0 8) 0 1000) ∧ (∀ l, l < nl → lOk μ b l) ∧ (∀ p, p < np → pOk μ b W p) ∧ (∀ g, g < ng → gOk μ b nl np g)
theorem gOk.congr {μ μ' : St} {b b' nl np g g' : Nat} (h : gOk μ b nl np g) (e : ∀ s, s < 11 → μ' 3 b' g' s = μ 3 b g s) : gOk μ' b' nl np g' := by
  unfold gOk at h ⊢
  rw [e 0 (by decide), e 4 (by decide), e 5 (by decide), e 6 (by decide), e 7 (by decide)]
  exact h
theorem lOk.congr {μ μ' : St} {b b' l l' : Nat} (h : lOk μ b l) (e : ∀ s, s < 10 → μ' 6 b' l' s = μ 6 b l s) : lOk μ' b' l' := by
  unfold lOk at h ⊢
  rw [e 0 (by decide), e 1 (by decide), e 2 (by decide), e 3 (by decide), e 4 (by decide), e 5 (by decide), e 6 (by decide), e 7 (by decide)]
  exact h
theorem pOk.congr {μ μ' : St} {b b' W p p' : Nat} (h : pOk μ b W p) (e : ∀ s, s < 8 → μ' 7 b' p' s = μ 7 b p s) : pOk μ' b' W p' := by
  unfold pOk at h ⊢
  rw [e 0 (by decide), e 1 (by decide), e 2 (by decide), e 3 (by decide), e 4 (by decide), e 5 (by decide), e 6 (by decide)]
  exact h
theorem Rok.congr {μ μ' : St} {b b' nl np ng W : Nat} (h : Rok μ b nl np ng W) (e2 : ∀ s, 3 ≤ s → s < 9 → μ' 2 b' 0 s = μ 2 b 0 s) (e6 : ∀ l s, l < nl → s < 10 → μ' 6 b' l s = μ 6 b l s) (e7 : ∀ l s, l < np → s < 8 → μ' 7 b' l s = μ 7 b l s) (e3 : ∀ l s, l < ng → s < 11 → μ' 3 b' l s = μ 3 b l s) : Rok μ' b' nl np ng W := by
  obtain ⟨h1, h2, h3, h4, h5⟩ := h
  refine ⟨?_, ?_, fun l hl => (h3 l hl).congr (fun s hs => e6 l s hl hs), fun l hl => (h4 l hl).congr (fun s hs => e7 l s hl hs), fun l hl => (h5 l hl).congr (fun s hs => e3 l s hl hs)⟩
  · unfold Cnt at h1 ⊢
    rw [e2 3 (by decide) (by decide), e2 4 (by decide) (by decide), e2 5 (by decide) (by decide)]
    exact h1
  · rw [e2 6 (by decide) (by decide), e2 8 (by decide) (by decide)]
    exact h2
theorem Rok.guests {μ μ' : St} {b nl np ng W : Nat} (h : Rok μ b nl np ng W) (e : ∀ k i s, k ≠ 3 → μ' k b i s = μ k b i s) (hg : ∀ g, g < ng → gOk μ' b nl np g) : Rok μ' b nl np ng W := by
  obtain ⟨h1, h2, h3, h4, h5⟩ := h
  refine ⟨?_, ?_, fun l hl => (h3 l hl).congr (fun s _ => e 6 l s (by decide)), fun l hl => (h4 l hl).congr (fun s _ => e 7 l s (by decide)), hg⟩
  · unfold Cnt at h1 ⊢
    simp only [e 2 _ _ (by decide)]
    exact h1
  · simp only [e 2 _ _ (by decide)]
    exact h2
theorem Rok.lifts {μ μ' : St} {b nl np ng W : Nat} (h : Rok μ b nl np ng W) (e : ∀ k i s, k ≠ 6 → μ' k b i s = μ k b i s) (hg : ∀ l, l < nl → lOk μ' b l) : Rok μ' b nl np ng W := by
  obtain ⟨h1, h2, h3, h4, h5⟩ := h
  refine ⟨?_, ?_, hg, fun l hl => (h4 l hl).congr (fun s _ => e 7 l s (by decide)), fun l hl => (h5 l hl).congr (fun s _ => e 3 l s (by decide))⟩
  · unfold Cnt at h1 ⊢
    simp only [e 2 _ _ (by decide)]
    exact h1
  · simp only [e 2 _ _ (by decide)]
    exact h2
theorem Rok.pistes {μ μ' : St} {b nl np ng W W' : Nat} (h : Rok μ b nl np ng W) (e : ∀ k i s, k ≠ 7 → μ' k b i s = μ k b i s) (hg : ∀ p, p < np → pOk μ' b W' p) : Rok μ' b nl np ng W' := by
  obtain ⟨h1, h2, h3, h4, h5⟩ := h
  refine ⟨?_, ?_, fun l hl => (h3 l hl).congr (fun s _ => e 6 l s (by decide)), hg, fun l hl => (h5 l hl).congr (fun s _ => e 3 l s (by decide))⟩
  · unfold Cnt at h1 ⊢
    simp only [e 2 _ _ (by decide)]
    exact h1
  · simp only [e 2 _ _ (by decide)]
    exact h2
theorem isN.mono {x : Int32} {a b c d : Nat} (h : isN x a b) (h1 : c ≤ a) (h2 : b ≤ d) : isN x c d := by
  obtain ⟨n, a1, a2, a3⟩ := h
  exact ⟨n, by omega, by omega, a3⟩
theorem nI_ne {a b : Nat} (h : a ≠ b) (ha : a < 2 ^ 31 := by decide) (hb : b < 2 ^ 31 := by decide) : ¬ nI a = nI b := fun e => h (nI_inj ha hb e)
/-- what a rider's rest and lift are -/
theorem gOk.rides {μ : St} {b nl np g : Nat} (h : gOk μ b nl np g) (e : μ 3 b g 4 = nI 2) : (∃ l, l < nl ∧ μ 3 b g 5 = nI l) ∧ isN (μ 3 b g 6) 1 18 := by
  rcases h.2 with h | h | h | h | h <;> first | exact ⟨h.2.1, h.2.2⟩ | exact absurd (h.1.symm.trans e) (nI_ne (by decide))
theorem gOk.skis {μ : St} {b nl np g : Nat} (h : gOk μ b nl np g) (e : μ 3 b g 4 = nI 3) : (∃ l, l < np ∧ μ 3 b g 5 = nI l) ∧ isN (μ 3 b g 6) 1 18 := by
  rcases h.2 with h | h | h | h | h <;> first | exact ⟨h.2.1, h.2.2⟩ | exact absurd (h.1.symm.trans e) (nI_ne (by decide))
theorem gOk.waits {μ : St} {b nl np g : Nat} (h : gOk μ b nl np g) (e : μ 3 b g 4 = nI 1) : (∃ l, l < nl ∧ μ 3 b g 5 = nI l) ∧ μ 3 b g 6 = nI 0 ∧ isN (μ 3 b g 7) 0 9 := by
  rcases h.2 with h | h | h | h | h <;> first | exact ⟨h.2.1, h.2.2⟩ | exact absurd (h.1.symm.trans e) (nI_ne (by decide))
theorem gOk.stands {μ : St} {b nl np g : Nat} (h : gOk μ b nl np g) (e : μ 3 b g 4 = nI 0) : isN (μ 3 b g 5) 0 7 ∧ μ 3 b g 6 = nI 0 := by
  rcases h.2 with h | h | h | h | h <;> first | exact ⟨h.2.1, h.2.2⟩ | exact absurd (h.1.symm.trans e) (nI_ne (by decide))
theorem spf_isN (x : Int32) : spf x = nI 0 ∨ spf x = nI 1 ∨ spf x = nI 2 := by
  unfold spf
  split
  · split
    · exact Or.inr (Or.inr rfl)
    · exact Or.inr (Or.inl rfl)
  · exact Or.inl rfl
/-! ===== what the area's methods answer and do ===== -/
def gwF (μ : St) (b : Nat) (x y : Int32) (n : Nat) : Int32 := rn (fun a i => if gis μ b i x y = true then a + 1 else a) 0 n (nI 0)
def giF (μ : St) (b : Nat) (x : Int32) (n : Nat) : Int32 := rn (fun a i => if μ 3 b i 4 = x then a + 1 else a) 0 n (nI 0)
def opF (μ : St) (b : Nat) (n : Nat) : Int32 := rn (fun a i => if μ 7 b i 4 = 0 then a + 1 else a) 0 n (nI 0)
def hlF (μ : St) (b : Nat) (n : Nat) : Int32 := rn (fun a i => if ihd μ b i = true then a ||| ((nI 1) <<< ((nI i) &&& 31)) else a) 0 n (nI 0)
def lfF (μ : St) (b g : Nat) (n : Nat) : Int32 := rn (fun a i => if iop μ b g i = true then a ||| ((nI 1) <<< ((nI i) &&& 31)) else a) 0 n (nI 0)
/-- a rider's step of a tick -/
def mrS (b : Nat) (x : St × Int32) (i : Nat) : St × Int32 := if x.1 3 b i 4 = nI 2 then (if 0 < x.1 3 b i 6 - spo x.1 b (tN (x.1 3 b i 5)) then (up x.1 3 b i 6 (x.1 3 b i 6 - spo x.1 b (tN (x.1 3 b i 5))), x.2) else (gbc (up x.1 3 b i 6 (x.1 3 b i 6 - spo x.1 b (tN (x.1 3 b i 5)))) b i (nI 0) (x.1 6 b (tN (x.1 3 b i 5)) 1) (nI 0) (nI 0), x.2 + 1)) else x
def mrF (b ng : Nat) (μ : St) : St × Int32 := rn (mrS b) 0 ng (μ, nI 0)
def msS (b : Nat) (x : St × Int32) (i : Nat) : St × Int32 := if x.1 3 b i 4 = nI 3 then (if 0 < x.1 3 b i 6 - nI 1 then (up x.1 3 b i 6 (x.1 3 b i 6 - nI 1), x.2) else (gbc (up x.1 3 b i 6 (x.1 3 b i 6 - nI 1)) b i (nI 0) (x.1 7 b (tN (x.1 3 b i 5)) 1) (nI 0) (nI 0), x.2 + 1)) else x
def msFn (b ng : Nat) (μ : St) : St × Int32 := rn (msS b) 0 ng (μ, nI 0)
/-- a guest's part of a departing cabin -/
def bcS (b l : Nat) (μ : St) (i : Nat) : St := if gis μ b i (nI 1) (nI l) = true then (if μ 6 b l 4 ≤ μ 3 b i 7 then up μ 3 b i 7 (μ 3 b i 7 - μ 6 b l 4) else up (up (gbc μ b i (nI 2) (nI l) (nI 2 * μ 6 b l 5) (nI 0)) 3 b i 8 ((gbc μ b i (nI 2) (nI l) (nI 2 * μ 6 b l 5) (nI 0)) 3 b i 8 + nI 1)) 6 b l 8 ((gbc μ b i (nI 2) (nI l) (nI 2 * μ 6 b l 5) (nI 0)) 6 b l 8 + nI 1)) else μ
def bcF (b l ng : Nat) (μ : St) : St := rn (bcS b l) 0 ng μ
def tlS (b ng : Nat) (μ : St) (i : Nat) : St := if 0 < stc (up μ 6 b i 7 (μ 6 b i 7 + spo μ b i)) b i (nI 1) then up μ 6 b i 7 (μ 6 b i 7 + spo μ b i) else bcF b i ng (up (up (up μ 6 b i 7 (μ 6 b i 7 + spo μ b i)) 6 b i 7 ((μ 6 b i 7 + spo μ b i) - (nI 2 * μ 6 b i 3))) 6 b i 9 (μ 6 b i 9 + nI 1))
def tlF (b nl ng : Nat) (μ : St) : St := rn (tlS b ng) 0 nl μ
def gpS (b : Nat) (μ : St) (i : Nat) : St := if μ 7 b i 4 = nI 2 then (if 0 < μ 7 b i 6 - nI 1 then up μ 7 b i 6 (μ 7 b i 6 - nI 1) else pfr (up μ 7 b i 6 (μ 7 b i 6 - nI 1)) b i) else μ
def gpF (b np : Nat) (μ : St) : St := rn (gpS b) 0 np μ
def cpS (b : Nat) (μ : St) (i : Nat) : St := if μ 7 b i 4 = 0 then (if μ 7 b i 5 < nI 20 then μ else up μ 7 b i 4 (nI 1)) else μ
def cpF (b np : Nat) (μ : St) : St := rn (cpS b) 0 np μ
/-- a tick: the store and the arrivals so far -/
def tkS (b nl np ng : Nat) (x : St × Int32) (_ : Nat) : St × Int32 :=
  let r := mrF b ng x.1
  let k := msFn b ng r.1
  let μ5 := cpF b np (gpF b np (tlF b nl ng k.1))
  (up μ5 2 b 0 7 (μ5 2 b 0 7 + nI 1), x.2 + r.2 + k.2)
def tkF (b nl np ng n : Nat) (μ : St) : St × Int32 := rn (tkS b nl np ng) 0 n (μ, nI 0)
