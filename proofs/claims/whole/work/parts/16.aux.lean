/-! ===== what the printed wp-lemmas use beside the rows ===== -/
abbrev VL (G : Gl) (Y : MD) (P : Option Value → St → Prop) (X : String → St → Prop) (pc : Nat) (L : List (Nat × Value)) (st : List Value) (μ : St) : Prop := V G Y Y.2.2.2.2.1 (QM G Y P X) pc L st μ 0 0
theorem v_norm {G : Gl} {Y : MD} {R : Room} {Qf : List Frame → Array Value → State → State → Prop} {pc : Nat} {L : List (Nat × Value)} {st st' : List Value} {μ : St} {cells cells' slots slots' : Nat} (h1 : st = st') (h2 : cells = cells') (h3 : slots = slots') (k : V G Y R Qf pc L st' μ cells' slots') : V G Y R Qf pc L st μ cells slots := by
  subst h1; subst h2; subst h3
  exact k
/-- a truth value -/
def bI (b : Bool) : Int32 := if b then 1 else 0
theorem bI_f {b : Bool} (h : bI b = 0) : b = false := by cases b <;> simp_all [bI]
theorem bI_nf {b : Bool} (h : ¬ bI b = 0) : b = true := by cases b <;> simp_all [bI]
theorem nar_bI (b : Bool) : narrow .boolean (.int (bI b)) = .int (bI b) := by cases b <;> decide
theorem fit_bI (b : Bool) : fits .boolean (.int (bI b)) = true := by cases b <;> decide
theorem bI_0 : nI 0 = bI false := by decide
theorem bI_1 : nI 1 = bI true := by decide
theorem zokc_4 : zok 4 0 0 := rfl
theorem zokc_5 : zok 5 0 0 := rfl
theorem zokc_8 : zok 8 0 0 := rfl
theorem zokc_9 : zok 9 0 0 := rfl
theorem zokc_10 : zok 10 0 0 := rfl
theorem zokc_23 : zok 23 0 0 := rfl
theorem zokc_24 : zok 24 0 0 := rfl
theorem zokc_25 : zok 25 0 0 := rfl
theorem zokc_26 : zok 26 0 0 := rfl
theorem zokc_27 : zok 27 0 0 := rfl
theorem zokc_28 : zok 28 0 0 := rfl
theorem zokc_29 : zok 29 0 0 := rfl
theorem zokc_30 : zok 30 0 0 := rfl
theorem zokc_31 : zok 31 0 0 := rfl
theorem zokc_32 : zok 32 0 0 := rfl
theorem zokc_33 : zok 33 0 0 := rfl
theorem zokc_34 : zok 34 0 0 := rfl
theorem zokc_35 : zok 35 0 0 := rfl
theorem zokc_36 : zok 36 0 0 := rfl
theorem pn_X0 : plainName RX0 = true := by decide +kernel
theorem pn_X1 : plainName RX1 = true := by decide +kernel
theorem pn_X2 : plainName RX2 = true := by decide +kernel
theorem pn_X3 : plainName RX3 = true := by decide +kernel
theorem pn_X4 : plainName RX4 = true := by decide +kernel
theorem pn_X5 : plainName RX5 = true := by decide +kernel
theorem pn_X6 : plainName RX6 = true := by decide +kernel
theorem pn_X7 : plainName RX7 = true := by decide +kernel
theorem pn_X8 : plainName RX8 = true := by decide +kernel
theorem pn_L : plainName RL = true := by decide +kernel
theorem tsw_out {x : Int32} (n : Nat) (h : ∀ k, k < n → ¬ x = nI k) (hn : n < 100 := by decide) : x.toInt < 0 ∨ (n : Int) - 1 < x.toInt := by
  rcases Int.lt_or_le x.toInt 0 with h1 | h1
  · exact Or.inl h1
  · right
    rcases Int.lt_or_le ((n : Int) - 1) x.toInt with h2 | h2
    · exact h2
    · exfalso
      have hk : x.toInt.toNat < n := by omega
      refine h x.toInt.toNat hk (Int32.toInt_inj.mp ?_)
      rw [nI_toInt (by omega)]
      omega
theorem lsw_ne {x : Int32} {k : Nat} (h : ¬ x = nI k) (hk : k < 2 ^ 31) : ¬ x.toInt = (k : Int) := by
  intro e
  refine h (Int32.toInt_inj.mp ?_)
  rw [nI_toInt hk, e]
/-- a contract of a method of a class some of whose methods the machine runs by itself (Math), but not this one -/
theorem con_ofF {G : Gl} {Y : MD} {av : List Value} {μ : St} {P : Option Value → St → Prop} {X : String → St → Prop} (hp : plainFor Y.1 = true) (hh : Y.2.2.2.2.2 = []) (hn : (lg_sl av).length ≤ Y.2.2.1) (h : V G Y Y.2.2.2.2.1 (QM G Y P X) 0 (lv_args 0 av) [] μ 0 0) : Con G Y av μ P X := by
  intro l hlt
  refine MetFree.of_bodySF (code := Y.2.1) (maxLocals := Y.2.2.1) (ret := Y.2.2.2.1) hp ?_ ?_
  · intro args s m h hn
    obtain ⟨meth, c, h1, h2, h3, h4, h5, h6, -, -⟩ := Cond.code_spec hn (atoms_spec (ws := wsC Y) h _ List.mem_cons_self)
    exact ⟨meth, c, h1, h2, h3, h4, h5, h6⟩
  · intro p e s m args below meth c s₁ B hml hP _
    have hh0 : s₁.heap = s.heap := by rw [B.state]; rfl
    have ht : c.exceptionTable.toList = [] := by
      obtain ⟨meth9, c9, h1, h2, -, -, -, -, h7, -⟩ := Cond.code_spec B.named (atoms_spec (ws := wsC Y) B.pre _ List.mem_cons_self)
      cases Option.some.inj (h1.symm.trans B.method)
      cases Option.some.inj (h2.symm.trans (Stand.of_body B).code)
      rw [Array.isEmpty_iff.mp h7]
    obtain ⟨rfl, hW, hK⟩ := hP
    have hts := atoms_spec (ws := wsC Y) B.pre
    have hl := lv_entry av (n := Y.2.2.1) hn
    have key : W p l e Y.2.2.2.2.1 s m av.toArray below meth c s.heap [] 0 0 (QM G Y P X below av.toArray s) (entryFrame m av.toArray Y.2.2.1) := by
      rw [lg_entry_eq]
      exact h p l e s m av.toArray below meth c ⟨B.exec, B.bytes, B.returns, hml, findClass_of_methodNamed B.named, B.notSynchronized, fun w hw => hts w (List.mem_cons_of_mem _ hw), hK, hlt, by rw [hh]; exact ht⟩ s.heap [] _ hW va_S.rf hl
    obtain ⟨t, a1, o, b1, b2, b3⟩ := key s₁ hh0 (Stand.of_body B)
    exact ⟨t, o, a1, b1, b2, b3⟩
theorem pf_floorMod : plainFor yJ9_floorMod_7cf53 = true := by decide +kernel
theorem pf_abs : plainFor yJ9_abs_0f7a4 = true := by decide +kernel
theorem pf_min : plainFor yJ9_min_7cf53 = true := by decide +kernel
theorem v_pick {G : Gl} {Y : MD} {R : Room} {Qf : List Frame → Array Value → State → State → Prop} {pc : Nat} {L L' : List (Nat × Value)} {st : List Value} {μ : St} {cells slots : Nat} (ks : List Nat) (h : ks.filterMap (fun k => L[k]?) = L') (k : V G Y R Qf pc L' st μ cells slots) : V G Y R Qf pc L st μ cells slots := by
  refine v_less (fun q hq => ?_) k
  subst h
  obtain ⟨i, -, hi⟩ := List.mem_filterMap.mp hq
  exact List.mem_of_getElem? hi
theorem v_ldc_w {G : Gl} {Y : MD} {R : Room} {Qf : List Frame → Array Value → State → State → Prop} {pc n : Nat} {L : List (Nat × Value)} {st : List Value} {μ : St} {cells slots : Nat} {index : Nat} {x : Int32} (hd : decode Y.2.1 pc = .ok (.ldc_w index, 3)) (hn : pc + 3 = n) (hc : Cond.constant Y.1.cls index x ∈ GW) (kk : V G Y R Qf n L (.int x :: st) μ cells slots) : V G Y R Qf pc L st μ cells slots := by
  subst hn; intro p l e s m args below meth c C H locs ls hW hS hl
  exact lv_ldcw C.1 C.2.1 C.2.2.2.2.1 (C.2.2.2.2.2.2.1 _ hc) hd (kk p l e s m args below meth c C H locs ls hW hS hl)
