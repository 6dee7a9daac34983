/-! ===== CONTRACTS OVER THE STORE: a method's start and ends, calls, throws, handlers ===== -/
def QcP (G : Gl) (P : Option Value → St → Prop) : Array Value → State → Outcome → State → Prop := fun _ st oc t => (∃ v μ', oc = .returned v ∧ P v μ' ∧ Wd G μ' t.heap) ∧ va_F (AA G) st t
def XcP (G : Gl) (X : String → St → Prop) : String → State → State → Prop := fun E st t => (∃ μ', X E μ' ∧ Wd G μ' t.heap) ∧ va_F (AA G) st t
/-- what a method owes at its end -/
def QM (G : Gl) (Y : MD) (P : Option Value → St → Prop) (X : String → St → Prop) : List Frame → Array Value → State → State → Prop := fun below args s => vx_MQ below (QcP G P) (XcP G X) args s Y.2.2.2.2.1.cells Y.2.2.2.2.1.slots (AA G)
def wsC (Y : MD) : List Cond := Cond.code Y.1 Y.2.1 Y.2.2.1 Y.2.2.2.1 :: GW
def wsH (Y : MD) : List Cond := Cond.codeWith Y.1 Y.2.1 Y.2.2.1 Y.2.2.2.1 Y.2.2.2.2.2 :: GW
/-- THE CONTRACT of a method at given arguments and store: it returns with P, or throws with X -/
def Con (G : Gl) (Y : MD) (av : List Value) (μ : St) (P : Option Value → St → Prop) (X : String → St → Prop) : Prop := ∀ l : Launch, l.stackTraces = false → vx_Met l Y.1 (wsC Y) Y.2.2.2.2.1 (va_Pc av (fun U => Wd G μ U.heap ∧ kst G U)) (QcP G P) (XcP G X) Y.2.2.2.2.1.cells Y.2.2.2.2.1.slots (AA G)
def ConH (G : Gl) (Y : MD) (av : List Value) (μ : St) (P : Option Value → St → Prop) (X : String → St → Prop) : Prop := ∀ l : Launch, l.stackTraces = false → vx_Met l Y.1 (wsH Y) Y.2.2.2.2.1 (va_Pc av (fun U => Wd G μ U.heap ∧ kst G U)) (QcP G P) (XcP G X) Y.2.2.2.2.1.cells Y.2.2.2.2.1.slots (AA G)
def noX : String → St → Prop := fun _ _ => False
theorem con_of {G : Gl} {Y : MD} {av : List Value} {μ : St} {P : Option Value → St → Prop} {X : String → St → Prop} (hp : plainName Y.1.cls = true) (hh : Y.2.2.2.2.2 = []) (hn : (lg_sl av).length ≤ Y.2.2.1) (h : V G Y Y.2.2.2.2.1 (QM G Y P X) 0 (lv_args 0 av) [] μ 0 0) : Con G Y av μ P X := by
  intro l hlt
  refine vx_ofW (cc := Y.2.1) (maxL := Y.2.2.1) (ret := Y.2.2.2.1) (ws' := GW) hp rfl ?_
  intro p e s m args below meth c s₁ B hml hno hv
  obtain ⟨rfl, hW, hK⟩ := hv
  have hts := atoms_spec (ws := wsC Y) B.pre
  have hl := lv_entry av (n := Y.2.2.1) hn
  rw [lg_entry_eq]
  refine h p l e s m av.toArray below meth c ⟨B.exec, B.bytes, B.returns, hml, findClass_of_methodNamed B.named, B.notSynchronized, fun w hw => hts w (List.mem_cons_of_mem _ hw), hK, hlt, ?_⟩ s.heap [] _ hW va_S.rf hl
  rw [hh]
  exact List.eq_nil_iff_forall_not_mem.mpr (fun x hx => hno x hx)
theorem conH_of {G : Gl} {Y : MD} {av : List Value} {μ : St} {P : Option Value → St → Prop} {X : String → St → Prop} (hp : plainName Y.1.cls = true) (hn : (lg_sl av).length ≤ Y.2.2.1) (h : V G Y Y.2.2.2.2.1 (QM G Y P X) 0 (lv_args 0 av) [] μ 0 0) : ConH G Y av μ P X := by
  intro l hlt
  refine vx_ofWH (cc := Y.2.1) (maxL := Y.2.2.1) (ret := Y.2.2.2.1) (hh := Y.2.2.2.2.2) (ws' := GW) hp rfl ?_
  intro p e s m args below meth c s₁ B hml hv
  obtain ⟨rfl, hW, hK⟩ := hv
  have hts := atoms_spec (ws := wsH Y) B.pre
  have hl := lv_entry av (n := Y.2.2.1) hn
  rw [lg_entry_eq]
  exact h p l e s m av.toArray below meth c ⟨B.exec, B.bytes, B.returns, hml, findClass_of_methodNamed B.named, B.notSynchronized, fun w hw => hts w (List.mem_cons_of_mem _ hw), hK, hlt, vx_table (x := Y.1) B (hts _ List.mem_cons_self)⟩ s.heap [] _ hW va_S.rf hl
section VEnds
variable {G : Gl} {Y : MD} {R : Room} {Qf : List Frame → Array Value → State → State → Prop} {pc n : Nat} {L : List (Nat × Value)} {st : List Value} {μ : St} {cells slots : Nat} {P : Option Value → St → Prop} {X : String → St → Prop}
theorem v_iret {x : Int32} (hd : decode Y.2.1 pc = .ok (.ireturn, 1)) (hr : Y.2.2.2.1 = some .int) (hc : cells ≤ Y.2.2.2.2.1.cells) (hs : slots ≤ Y.2.2.2.2.1.slots) (h : P (some (.int x)) μ) : V G Y R (QM G Y P X) pc L [.int x] μ cells slots := by
  intro p l e s m args below meth c C H locs ls hW hS hl
  have hlocks := C.2.2.2.2.2.1
  exact W.widen hc hs (vx_ret (W.iret C.1 C.2.1 (C.2.2.1.trans hr) (fun t ht hWm => ⟨⟨_, μ, rfl, h, by rw [ht]; exact hW⟩, hS.F ht⟩) hS.2.2 hd))
theorem v_zret {x : Int32} {ft : FieldType} (hd : decode Y.2.1 pc = .ok (.ireturn, 1)) (hr : Y.2.2.2.1 = some ft) (hnw : narrow ft (.int x) = .int x) (hc : cells ≤ Y.2.2.2.2.1.cells) (hs : slots ≤ Y.2.2.2.2.1.slots) (h : P (some (.int x)) μ) : V G Y R (QM G Y P X) pc L [.int x] μ cells slots := by
  intro p l e s m args below meth c C H locs ls hW hS hl
  have hlocks := C.2.2.2.2.2.1
  exact W.widen hc hs (vx_ret (W.zret C.1 C.2.1 (C.2.2.1.trans hr) hnw (fun t ht hWm => ⟨⟨_, μ, rfl, h, by rw [ht]; exact hW⟩, hS.F ht⟩) hS.2.2 hd))
theorem v_vret (hd : decode Y.2.1 pc = .ok (.return_, 1)) (hr : Y.2.2.2.1 = none) (hc : cells ≤ Y.2.2.2.2.1.cells) (hs : slots ≤ Y.2.2.2.2.1.slots) (h : P none μ) : V G Y R (QM G Y P X) pc L [] μ cells slots := by
  intro p l e s m args below meth c C H locs ls hW hS hl
  have hlocks := C.2.2.2.2.2.1
  exact W.widen hc hs (vx_ret (W.vret C.1 C.2.1 (C.2.2.1.trans hr) (fun t ht hWm => ⟨⟨_, μ, rfl, h, by rw [ht]; exact hW⟩, hS.F ht⟩) hS.2.2 hd))
theorem v_dret {x : UInt64} (hd : decode Y.2.1 pc = .ok (.dreturn, 1)) (hr : Y.2.2.2.1 = some .double) (hc : cells ≤ Y.2.2.2.2.1.cells) (hs : slots ≤ Y.2.2.2.2.1.slots) (h : P (some (.double x)) μ) : V G Y R (QM G Y P X) pc L [.double x] μ cells slots := by
  intro p l e s m args below meth c C H locs ls hW hS hl
  have hlocks := C.2.2.2.2.2.1
  exact W.widen hc hs (vx_ret (W.dret C.1 C.2.1 (C.2.2.1.trans hr) (fun t ht hWm => ⟨⟨_, μ, rfl, h, by rw [ht]; exact hW⟩, hS.F ht⟩) hS.2.2 hd))
theorem v_aret {v : Value} {rt : FieldType} (hd : decode Y.2.1 pc = .ok (.areturn, 1)) (hr : Y.2.2.2.1 = some rt) (hrt : (∃ n, rt = .object n) ∨ ∃ t, rt = .array t) (hv : v = .null ∨ ∃ a, v = .ref a) (hc : cells ≤ Y.2.2.2.2.1.cells) (hs : slots ≤ Y.2.2.2.2.1.slots) (h : P (some v) μ) : V G Y R (QM G Y P X) pc L [v] μ cells slots := by
  intro p l e s m args below meth c C H locs ls hW hS hl
  have hlocks := C.2.2.2.2.2.1
  exact W.widen hc hs (vx_ret (W.aret C.1 C.2.1 (C.2.2.1.trans hr) hrt hv (fun t ht hWm => ⟨⟨_, μ, rfl, h, by rw [ht]; exact hW⟩, hS.F ht⟩) hS.2.2 hd))
/-- where a method has thrown, over the store -/
def VX (G : Gl) (Y : MD) (R : Room) (Qf : List Frame → Array Value → State → State → Prop) (pc : Nat) (L : List (Nat × Value)) (st : List Value) (E : String) (μ : St) (cells slots : Nat) : Prop :=
  ∀ (p : Program) (l : Launch) (e : Env) (s : State) (m : MethodId) (args : Array Value) (below : List Frame) (meth : Method) (c : Code), Cx G Y p l s m args meth c → ∀ (H : Heap) (locs : List Loc) (ls : Array Slot) (ce : Cell) (q : Addr), Wd G μ H → va_S (AA G) s.heap H locs → lv_has ls Y.2.2.1 L → H[q]? = some ce → ce.vm = .none → s.vm.findClass E = some ce.cls → vx_W p l e R s m args below meth c H locs cells slots (Qf below args s) (F0 m pc ls st) q
/-- the words and numbers of a call of an instance method: a place in the pool of a class -/
def LKV (own : String) (index : Nat) (Z : MD) (k n : Nat) : Prop := k < 20 ∧ (∃ (T : u_T) (N : Nat), vwCl[k]? = some (Z.1.cls, T, N)) ∧ Cond.methodLink own index Z.1 ∈ GW ∧ Cond.instanceMethod Z.1 ∈ GW ∧ Cond.selects Z.1.cls Z.1 Z.1 ∈ GW ∧ Cond.initialized Z.1.cls ∈ GW ∧ Cond.code Z.1 Z.2.1 Z.2.2.1 Z.2.2.2.1 ∈ GW ∧ Z.1.cls ≠ "java/lang/invoke/MethodHandle" ∧ Z.1.cls ≠ "java/lang/invoke/VarHandle" ∧ (parseMethodDescriptor Z.1.desc).map (fun d => d.parameters.length) = some n
def LKS (own : String) (index : Nat) (Z : MD) (n : Nat) : Prop := Cond.methodLink own index Z.1 ∈ GW ∧ Cond.static Z.1 ∈ GW ∧ Cond.initialized Z.1.cls ∈ GW ∧ Cond.code Z.1 Z.2.1 Z.2.2.1 Z.2.2.2.1 ∈ GW ∧ Z.1.cls ≠ "java/lang/invoke/MethodHandle" ∧ Z.1.cls ≠ "java/lang/invoke/VarHandle" ∧ (parseMethodDescriptor Z.1.desc).map (fun d => d.parameters.length) = some n
def LKH (own : String) (index : Nat) (Z : MD) (n : Nat) : Prop := Cond.methodLink own index Z.1 ∈ GW ∧ Cond.static Z.1 ∈ GW ∧ Cond.initialized Z.1.cls ∈ GW ∧ Cond.codeWith Z.1 Z.2.1 Z.2.2.1 Z.2.2.2.1 Z.2.2.2.2.2 ∈ GW ∧ Z.1.cls ≠ "java/lang/invoke/MethodHandle" ∧ Z.1.cls ≠ "java/lang/invoke/VarHandle" ∧ (parseMethodDescriptor Z.1.desc).map (fun d => d.parameters.length) = some n
def LKN (own : String) (index : Nat) (host : String) (Z : MD) (n : Nat) : Prop := Cond.methodLinkNest own index Z.1 host ∈ lw_tbl ∧ Cond.static Z.1 ∈ GW ∧ Cond.initialized Z.1.cls ∈ GW ∧ Cond.code Z.1 Z.2.1 Z.2.2.1 Z.2.2.2.1 ∈ GW ∧ Z.1.cls ≠ "java/lang/invoke/MethodHandle" ∧ Z.1.cls ≠ "java/lang/invoke/VarHandle" ∧ (parseMethodDescriptor Z.1.desc).map (fun d => d.parameters.length) = some n
/-- the room of a call -/
def RMk (R : Room) (Z : MD) (cells slots : Nat) : Prop := Z.2.2.2.2.1.frames + 1 ≤ R.frames ∧ 8 + (Z.2.2.1 + 11) + Z.2.2.2.2.1.locals ≤ R.locals ∧ cells + Z.2.2.2.2.1.cells ≤ R.cells ∧ slots + Z.2.2.2.2.1.slots ≤ R.slots
theorem GW_pay {args : Array Value} {s : State} (h : ∀ w ∈ GW, w.before args s = true) {w : Cond} (hw : w ∈ GW) (a' : Array Value) (U : State) (hW : s.WarmedH U.vm) : w.before a' U = true := word_at hW (good_of_word (GW_good hw)) (h w hw)
theorem va_Pc_blind {G : Gl} {av : List Value} {μ : St} : FrameBlind (va_Pc av (fun U => Wd G μ U.heap ∧ kst G U)) := fun a U g mk h => ⟨h.1, h.2.1, h.2.2.calling⟩
/-- a call's run, turned to the store -/
theorem v_run {Z : MD} {index mc ms : Nat} {rest st0 : List Value} {Pz : Option Value → St → Prop} {Xz : String → St → Prop} {a : Array Value} {p : Program} {l : Launch} {e : Env} {s : State} {m : MethodId} {args : Array Value} {below : List Frame} {meth : Method} {c : Code} (C : Cx G Y p l s m args meth c) {H : Heap} {locs : List Loc} {ls : Array Slot} (hS : va_S (AA G) s.heap H locs) (hl : lv_has ls Y.2.2.1 L)
    (hr : vx_Run p l e R s m args below meth c H locs cells slots mc ms (F0 m pc ls st0) rest (QcP G Pz a) (XcP G Xz) (AA G))
    (kk : ∀ v μ', Pz v μ' → V G Y R Qf (pc + 3) L (v.toList ++ rest) μ' (cells + mc) (slots + ms))
    (kx : ∀ E μ', Xz E μ' → VX G Y R Qf pc L rest E μ' (cells + mc) (slots + ms)) : W p l e R s m args below meth c H locs cells slots (Qf below args s) (F0 m pc ls st0) := by
  intro T hT X'
  have hA : ∀ q : Nat, q < H.size → (AA G) q → (AA G) q := fun _ _ h => h
  rcases hr T hT X' with ⟨v, st₀, t, T', L', h0, X2, hL, e1, e2, ⟨⟨v', μ', hv, hp, hb⟩, hF⟩, st⟩ | ⟨q, st₀, t, T', L', E, ce, h0, X2, hL, e1, e2, ⟨⟨μ', hp, hb⟩, hF⟩, hce, hcv, hcl, st⟩
  · cases hv
    obtain ⟨k1, k2, k3⟩ := vx_keep h0 e1 hS hA (fun _ h => h) hL hF
    obtain ⟨t2, a1, b1⟩ := kk v μ' hp p l e s m args below meth c C T'.heap (locs ++ L') ls (by rw [e1]; exact hb) k3 hl T' rfl X2
    exact ⟨t2, st t2 a1, b1⟩
  · obtain ⟨k1, k2, k3⟩ := vx_keep h0 e1 hS hA (fun _ h => h) hL hF
    obtain ⟨t2, a1, b1⟩ := kx E μ' hp p l e s m args below meth c C T'.heap (locs ++ L') ls ce q (by rw [e1]; exact hb) k3 hl (by rw [e1]; exact hce) hcv hcl T' rfl X2
    exact ⟨t2, st.trans a1, b1⟩
theorem v_callV {Z : MD} {index k b i nA : Nat} {As rest st0 : List Value} {Pz : Option Value → St → Prop} {Xz : String → St → Prop} (hd : decode Y.2.1 pc = .ok (.invokevirtual index, 3)) (hn : pc + 3 = n) (hL : LKV Y.1.cls index Z k nA) (hlen : As.length = nA) (hst : st0 = As.reverse ++ .ref (zad G.1 k b i) :: rest) (hrest : (rest.map fun v => v.category).sum ≤ 8) (hRm : RMk R Z cells slots) (ho : zok k b i) (hM : Con G Z (.ref (zad G.1 k b i) :: As) μ Pz Xz)
    (kk : ∀ v μ', Pz v μ' → V G Y R Qf n L (v.toList ++ rest) μ' (cells + Z.2.2.2.2.1.cells) (slots + Z.2.2.2.2.1.slots)) (kx : ∀ E μ', Xz E μ' → VX G Y R Qf pc L rest E μ' (cells + Z.2.2.2.2.1.cells) (slots + Z.2.2.2.2.1.slots)) : V G Y R Qf pc L st0 μ cells slots := by
  subst hn
  intro p l e s m args below meth c C H locs ls hW hS hl
  have C1 := C
  obtain ⟨hx, hb, hrt, hml, hown, hlocks, hts, hK, hlt, htab⟩ := C
  obtain ⟨hk20, ⟨T, N, hcl⟩, w1, w2, w3, w4, w5, n1, n2, hnp⟩ := hL
  obtain ⟨r1, r2, r3, r4⟩ := hRm
  have ha := hW k b i ho (fun _ => by omega)
  unfold zat at ha
  rw [if_pos hk20] at ha
  obtain ⟨r, h1, cell, q1, q2, q3, q4⟩ := ha
  have hr : r = (Z.1.cls, T, N) := Option.some.inj (h1.symm.trans hcl)
  subst hr
  obtain ⟨-, hfc, -⟩ := hK.1.1 k _ hcl
  refine v_run (Z := Z) (index := index) C1 hS hl (vx_runV (As := As) (rest := rest) (n := nA) ⟨hx, hb, hml, hown, hts⟩ (hM l hlt) (C := Z.1.cls) ⟨⟨rfl, rfl, r1, r2, fun w hw a' U hWm => ?_, List.mem_cons_self, hts _ w5, hts _ w4, ⟨n1, n2⟩, fun sig h => ?_, hts _ w1⟩, hts _ w2, hts _ w3⟩ ⟨va_Pc_blind, ⟨cell, q1, by rw [q3]; rfl, by rw [q2]; exact hfc⟩, fun U hU hWm => ⟨rfl, by rw [hU]; exact hW, hK.at hWm hU hS⟩⟩ rfl hlen hl.1 hst (lv_room hrest) hd ⟨r3, r4⟩) kk kx
  · rcases List.mem_cons.mp hw with rfl | hw
    · exact GW_pay hts w5 a' U hWm
    · exact GW_pay hts hw a' U hWm
  · rw [h] at hnp
    exact (Option.some.inj hnp).symm
theorem v_callS {Z : MD} {index nA : Nat} {As rest st0 : List Value} {Pz : Option Value → St → Prop} {Xz : String → St → Prop} (hd : decode Y.2.1 pc = .ok (.invokestatic index, 3)) (hn : pc + 3 = n) (hL : LKS Y.1.cls index Z nA) (hlen : As.length = nA) (hst : st0 = As.reverse ++ rest) (hrest : (rest.map fun v => v.category).sum ≤ 8) (hRm : RMk R Z cells slots) (hM : Con G Z As μ Pz Xz)
    (kk : ∀ v μ', Pz v μ' → V G Y R Qf n L (v.toList ++ rest) μ' (cells + Z.2.2.2.2.1.cells) (slots + Z.2.2.2.2.1.slots)) (kx : ∀ E μ', Xz E μ' → VX G Y R Qf pc L rest E μ' (cells + Z.2.2.2.2.1.cells) (slots + Z.2.2.2.2.1.slots)) : V G Y R Qf pc L st0 μ cells slots := by
  subst hn
  intro p l e s m args below meth c C H locs ls hW hS hl
  have C1 := C
  obtain ⟨hx, hb, hrt, hml, hown, hlocks, hts, hK, hlt, htab⟩ := C
  obtain ⟨w1, w2, w4, w5, n1, n2, hnp⟩ := hL
  obtain ⟨r1, r2, r3, r4⟩ := hRm
  refine v_run (Z := Z) (index := index) C1 hS hl (vx_runS (As := As) (rest := rest) (n := nA) ⟨hx, hb, hml, hown, hts⟩ (hM l hlt) ⟨⟨rfl, rfl, r1, r2, fun w hw a' U hWm => ?_, List.mem_cons_self, hts _ w5, hts _ w4, ⟨n1, n2⟩, fun sig h => ?_, hts _ w1⟩, hts _ w2⟩ ⟨va_Pc_blind, fun U hU hWm => ⟨rfl, by rw [hU]; exact hW, hK.at hWm hU hS⟩⟩ rfl hlen hl.1 hst (lv_room hrest) hd ⟨r3, r4⟩) kk kx
  · rcases List.mem_cons.mp hw with rfl | hw
    · exact GW_pay hts w5 a' U hWm
    · exact GW_pay hts hw a' U hWm
  · rw [h] at hnp
    exact (Option.some.inj hnp).symm
theorem v_callH {Z : MD} {index nA : Nat} {As rest st0 : List Value} {Pz : Option Value → St → Prop} {Xz : String → St → Prop} (hd : decode Y.2.1 pc = .ok (.invokestatic index, 3)) (hn : pc + 3 = n) (hL : LKH Y.1.cls index Z nA) (hlen : As.length = nA) (hst : st0 = As.reverse ++ rest) (hrest : (rest.map fun v => v.category).sum ≤ 8) (hRm : RMk R Z cells slots) (hM : ConH G Z As μ Pz Xz)
    (kk : ∀ v μ', Pz v μ' → V G Y R Qf n L (v.toList ++ rest) μ' (cells + Z.2.2.2.2.1.cells) (slots + Z.2.2.2.2.1.slots)) (kx : ∀ E μ', Xz E μ' → VX G Y R Qf pc L rest E μ' (cells + Z.2.2.2.2.1.cells) (slots + Z.2.2.2.2.1.slots)) : V G Y R Qf pc L st0 μ cells slots := by
  subst hn
  intro p l e s m args below meth c C H locs ls hW hS hl
  have C1 := C
  obtain ⟨hx, hb, hrt, hml, hown, hlocks, hts, hK, hlt, htab⟩ := C
  obtain ⟨w1, w2, w4, w5, n1, n2, hnp⟩ := hL
  obtain ⟨r1, r2, r3, r4⟩ := hRm
  refine v_run (Z := Z) (index := index) C1 hS hl (vx_runSX (As := As) (rest := rest) (n := nA) (hh := Z.2.2.2.2.2) ⟨hx, hb, hml, hown, hts⟩ (hM l hlt) ⟨⟨rfl, rfl, r1, r2, fun w hw a' U hWm => ?_, List.mem_cons_self⟩, hts _ w5, hts _ w4, ⟨n1, n2⟩, fun sig h => ?_, hts _ w1, hts _ w2⟩ ⟨va_Pc_blind, fun U hU hWm => ⟨rfl, by rw [hU]; exact hW, hK.at hWm hU hS⟩⟩ rfl hlen hl.1 hst (lv_room hrest) hd ⟨r3, r4⟩) kk kx
  · rcases List.mem_cons.mp hw with rfl | hw
    · exact GW_pay hts w5 a' U hWm
    · exact GW_pay hts hw a' U hWm
  · rw [h] at hnp
    exact (Option.some.inj hnp).symm
/-- caught by the x-th handler of the table; the ones ahead don't take it -/
theorem v_catch {E name : String} {pre suf : List ExceptionTableEntry} {x : ExceptionTableEntry} (hsplit : tableOf Y.2.2.2.2.2 = pre ++ x :: suf) (hpass : ∀ z ∈ pre, z.catchType ≠ 0 ∧ ∃ nm : String, Cond.classLink Y.1.cls z.catchType nm ∈ GW ∧ (E, nm) ∈ zNc) (hx : covers x pc = true) (h0 : x.catchType ≠ 0) (hlink : Cond.classLink Y.1.cls x.catchType name ∈ GW) (hcast : Cond.castable E name ∈ lw_tbl)
    (kk : ∀ q : Nat, V G Y R Qf x.handlerPc L [.ref q] μ cells slots) : VX G Y R Qf pc L st E μ cells slots := by
  intro p l e s m args below meth c C H locs ls ce q hW hS hl hcell hv hcl
  have C1 := C
  obtain ⟨hx0, hb, hrt, hml, hown, hlocks, hts, hK, hlt, htab⟩ := C
  refine vx_catch hown pre x suf (htab.trans hsplit) (fun z hz => ?_) hx h0 (hts _ hlink) (va_Nw.use (w := .castable E name) rfl (hK.2.2.2.2.2.2.1 _ hcast rfl)) hcell hv hcl (kk q p l e s m args below meth c C1 H locs ls hW hS hl)
  obtain ⟨a1, nm, a2, a3⟩ := hpass z hz
  exact Or.inr ⟨a1, nm, hts _ a2, hK.2.2.2.2.2.2.2 _ a3⟩
/-- the words of 'throw new cls(text)' in a class -/
def LT (own cls text : String) (ik is ic : Nat) : Prop := Cond.classLink own ik cls ∈ GW ∧ Cond.initialized cls ∈ GW ∧ Cond.stringRef own is text ∈ lw_tbl ∧ Bundle.fit cls = true ∧ (∀ n ∈ ["java/lang/RuntimeException", "java/lang/Exception"], Bundle.fit n = true) ∧ (∀ w ∈ vx_atS own ic cls ["java/lang/RuntimeException", "java/lang/Exception"], w ∈ lw_tbl ∧ (goodWord w = true ∨ zNw w = true)) ∧ ∀ w ∈ Cond.classLink own ik cls :: Cond.initialized cls :: vx_atS own ic cls ["java/lang/RuntimeException", "java/lang/Exception"], vx_ot w = true
theorem v_throw {cls text : String} {ik is ic : Nat} (hT : LT Y.1.cls cls text ik is ic) (hh : Y.2.2.2.2.2 = []) (d0 : decode Y.2.1 pc = .ok (.new ik, 3)) (d3 : decode Y.2.1 (pc + 3) = .ok (.dup, 1)) (d4 : decode Y.2.1 (pc + 4) = .ok (.ldc is, 2)) (d6 : decode Y.2.1 (pc + 6) = .ok (.invokespecial ic, 3)) (d9 : decode Y.2.1 (pc + 9) = .ok (.athrow, 1))
    (hR : 5 < R.frames ∧ 82 ≤ R.locals ∧ cells + 1 ≤ R.cells ∧ slots + 6 ≤ R.slots) (hc : cells + 1 ≤ Y.2.2.2.2.1.cells) (hs : slots + 6 ≤ Y.2.2.2.2.1.slots) (h : X cls μ) : V G Y R (QM G Y P X) pc L [] μ cells slots := by
  intro p l e s m args below meth c C H locs ls hW hS hl
  obtain ⟨hx, hb, hrt, hml, hown, hlocks, hts, hK, hlt, htab⟩ := C
  obtain ⟨t1, t2, t3, t4, t5, t6, t7⟩ := hT
  obtain ⟨k1, k2, k3, k4, k5, k6, k7, k8⟩ := hK
  obtain ⟨sa, hsa⟩ := k6 _ _ _ t3
  refine vx_throwS (names := ["java/lang/RuntimeException", "java/lang/Exception"]) (text := text) (sa := sa) (A := fun q => G.1 ≤ q) hx hb hlt hown t4 t5 (hts _ t1) (hts _ t2) hsa (fun w hw => ?_) t7 k4 k5 hS.coarse (hl.1.trans hml.symm) d0 d3 d4 d6 d9 (fun x hx => ?_) hR.1 (by simpa using hR.2.1) hR.2.2.1 hR.2.2.2 hlocks (fun t ht hz hq => ?_) hS.2.2 hc hs
  · obtain ⟨w1, w2 | w2⟩ := t6 w hw
    · exact hts _ (List.mem_filter.mpr ⟨w1, w2⟩)
    · have h9 := k7 w w1 w2
      cases w <;> first | exact va_Nw.use rfl h9 | cases w2
  · rw [htab, hh] at hx
    cases hx
  · exact ⟨⟨μ, h, hW.kept hq⟩, Nat.le_trans hS.1 hz, fun q q1 q2 => by rw [hq q (Nat.lt_of_lt_of_le q1 hS.1)]; exact hS.2.1 q q1 q2⟩
theorem v_throwW {cls text : String} {ik is ic : Nat} (hT : LT Y.1.cls cls text ik is ic) (hh : Y.2.2.2.2.2 = []) (d0 : decode Y.2.1 pc = .ok (.new ik, 3)) (d3 : decode Y.2.1 (pc + 3) = .ok (.dup, 1)) (d4 : decode Y.2.1 (pc + 4) = .ok (.ldc_w is, 3)) (d7 : decode Y.2.1 (pc + 7) = .ok (.invokespecial ic, 3)) (d10 : decode Y.2.1 (pc + 10) = .ok (.athrow, 1))
    (hR : 5 < R.frames ∧ 82 ≤ R.locals ∧ cells + 1 ≤ R.cells ∧ slots + 6 ≤ R.slots) (hc : cells + 1 ≤ Y.2.2.2.2.1.cells) (hs : slots + 6 ≤ Y.2.2.2.2.1.slots) (h : X cls μ) : V G Y R (QM G Y P X) pc L [] μ cells slots := by
  intro p l e s m args below meth c C H locs ls hW hS hl
  obtain ⟨hx, hb, hrt, hml, hown, hlocks, hts, hK, hlt, htab⟩ := C
  obtain ⟨t1, t2, t3, t4, t5, t6, t7⟩ := hT
  obtain ⟨k1, k2, k3, k4, k5, k6, k7, k8⟩ := hK
  obtain ⟨sa, hsa⟩ := k6 _ _ _ t3
  refine vx_throwSW (names := ["java/lang/RuntimeException", "java/lang/Exception"]) (text := text) (sa := sa) (A := fun q => G.1 ≤ q) hx hb hlt hown t4 t5 (hts _ t1) (hts _ t2) hsa (fun w hw => ?_) t7 k4 k5 hS.coarse (hl.1.trans hml.symm) d0 d3 d4 d7 d10 (fun x hx => ?_) hR.1 (by simpa using hR.2.1) hR.2.2.1 hR.2.2.2 hlocks (fun t ht hz hq => ?_) hS.2.2 hc hs
  · obtain ⟨w1, w2 | w2⟩ := t6 w hw
    · exact hts _ (List.mem_filter.mpr ⟨w1, w2⟩)
    · have h9 := k7 w w1 w2
      cases w <;> first | exact va_Nw.use rfl h9 | cases w2
  · rw [htab, hh] at hx
    cases hx
  · exact ⟨⟨μ, h, hW.kept hq⟩, Nat.le_trans hS.1 hz, fun q q1 q2 => by rw [hq q (Nat.lt_of_lt_of_le q1 hS.1)]; exact hS.2.1 q q1 q2⟩
theorem Con.mono {Z : MD} {av : List Value} {P' : Option Value → St → Prop} {X' : String → St → Prop} (h : Con G Z av μ P X) (hP : ∀ v μ', P v μ' → P' v μ') (hX : ∀ E μ', X E μ' → X' E μ') : Con G Z av μ P' X' := by
  intro l hl p e ha hc hk s m args below hf happ hp hg
  obtain ⟨n, o, h1, h2, h3, h4⟩ := h l hl p e ha hc hk s m args below hf happ hp hg
  refine ⟨n, o, h1, h2, h3, ?_⟩
  rcases h4 with ⟨⟨⟨v, μ', q1, q2, q3⟩, q4⟩, q5⟩ | ⟨q, q1, E, ce, L, ⟨⟨μ', q2, q3⟩, q4⟩, q5⟩
  · exact Or.inl ⟨⟨⟨v, μ', q1, hP _ _ q2, q3⟩, q4⟩, q5⟩
  · exact Or.inr ⟨q, q1, E, ce, L, ⟨⟨μ', hX _ _ q2, q3⟩, q4⟩, q5⟩
end VEnds
