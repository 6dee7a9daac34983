/-! ===== the law's own walk: its judgement, the script, its end ===== -/
abbrev mLaw (hh : List (Nat × Nat × Nat × Nat)) : MD := (⟨RL, "law", "([I)Z"⟩, cL_law, 9, ret, room_1, hh)
/-- what the law's start gives -/
def LPh (G : Gl) (b L : Nat) (xs : Nat → Int32) (args : Array Value) (s : State) : Prop := va_X b L xs s s.heap ∧ b < s.heap.size ∧ s.heap.size = G.1 ∧ args = #[Value.ref b]
def QL (G : Gl) (b L : Nat) (xs : Nat → Int32) : List Frame → Array Value → State → State → Prop := fun below args s t => LPh G b L xs args s → lw_Z below #[Value.ref b] s t
abbrev VW (G : Gl) (hh : List (Nat × Nat × Nat × Nat)) (b L : Nat) (xs : Nat → Int32) (pc : Nat) (Ls : List (Nat × Value)) (st : List Value) (μ : St) (cells slots : Nat) : Prop := V G (mLaw hh) room_1 (QL G b L xs) pc Ls st μ cells slots
section LRows
variable {G : Gl} {hh : List (Nat × Nat × Nat × Nat)} {b L : Nat} {xs : Nat → Int32} {pc n : Nat} {Ls : List (Nat × Value)} {st : List Value} {μ : St} {cells slots : Nat}
theorem l_sld {x : Int32} {j : Nat} (hd : decode cL_law pc = .ok (.iaload, 1)) (hn : pc + 1 = n) (hx : x = nI j) (hj : j < L) (hL : L ≤ 3584) (kk : VW G hh b L xs n Ls (.int (xs j) :: st) μ cells slots) : VW G hh b L xs pc Ls (.int x :: .ref b :: st) μ cells slots := by
  subst hn; subst hx; intro p l e s m args below meth c C H locs ls hW hS hl
  by_cases hP : LPh G b L xs args s
  · obtain ⟨h1, h2, h3, h4⟩ := hP
    refine va_sld C.1 C.2.1 h1 h2 (A := AA G) (fun z => by have := z.1; omega) hS (vp_in_nI hj (by omega)) hd ?_
    rw [nI_clamp (by omega)]
    exact kk p l e s m args below meth c C H locs ls hW hS hl
  · exact fun T hT X => ⟨_, Steps.refl _, fun z => absurd z hP⟩
theorem l_slen (hd : decode cL_law pc = .ok (.arraylength, 1)) (hn : pc + 1 = n) (kk : VW G hh b L xs n Ls (.int (nI L) :: st) μ cells slots) : VW G hh b L xs pc Ls (.ref b :: st) μ cells slots := by
  subst hn; intro p l e s m args below meth c C H locs ls hW hS hl
  by_cases hP : LPh G b L xs args s
  · obtain ⟨h1, h2, h3, h4⟩ := hP
    exact va_slen C.1 C.2.1 h1 h2 (A := AA G) (fun z => by have := z.1; omega) hS hd (kk p l e s m args below meth c C H locs ls hW hS hl)
  · exact fun T hT X => ⟨_, Steps.refl _, fun z => absurd z hP⟩
theorem l_ret (hd : decode cL_law pc = .ok (.ireturn, 1)) (hc : cells ≤ 603072) (hs : slots ≤ 7202922) : VW G hh b L xs pc Ls [.int 1] μ cells slots := by
  intro p l e s m args below meth c C H locs ls hW hS hl
  by_cases hP : LPh G b L xs args s
  · obtain ⟨h1, h2, h3, rfl⟩ := hP
    refine va_forget (fun q hq => by have := (hS.2.2 q hq).1; omega) (W.widen hc hs ?_)
    intro T hT X
    obtain ⟨t, a1, b1⟩ := lw_ret (p := p) (l := l) (e := e) (s := s) (m := m) (below := below) (meth := meth) (c := c) (b := b) (d0 := s.drawn) (Drawn.sameBut.refl s.drawn lw_cs) C.1 C.2.1 C.2.2.1 C.2.2.2.2.2.1 (pc := pc) (H := H) (ls := ls) hd T hT X
    exact ⟨t, a1, fun _ => b1⟩
  · exact fun T hT X => ⟨_, Steps.refl _, fun z => absurd z hP⟩
end LRows
theorem Inv.lk {μ μ' : St} {W : Nat} (h : Inv μ W) (e : Lk μ μ') : Inv μ' W := h.ig (Nat.le_refl _) (fun k b i s hk => (e k b i s (fun z => hk (by unfold Ig; omega))).symm) (fun i _ => (e 26 0 0 i (by decide)).symm)
theorem lg_self (x : Int64) : lg_cmp x x = 0 := by
  unfold lg_cmp
  rw [if_neg (by simp), if_pos rfl]
/-- the law's locals in its loop -/
abbrev LB (G : Gl) (b : Nat) (i : Int32) : List (Nat × Value) := [(0, .ref b), (1, .ref (zad G.1 9 0 0)), (2, .ref (zad G.1 10 0 0)), (3, .ref (zad G.1 35 0 0)), (4, .ref (zad G.1 36 0 0)), (5, .int i)]
theorem nI0_of {k : Nat} (hk : k < 4) (h : nI k = 0) : k = 0 := nI_inj (by omega) (by decide) (h.trans (by decide))
