/-! ===== the constructors: a world that grows, cell by cell behind the law's start ===== -/
abbrev Cs : Type := Nat → Nat × (Nat → Value)
def cat (G : Gl) (a k : Nat) (f : Nat → Value) (H : Heap) : Prop := if k < 20 then ∃ r : vw_C, vwCl[k]? = some r ∧ t_OB a (G.2.1.1 k) r.2.2 (G.2.1.2 k) H f else H[a]? = some (arrV (G.2.2.1 k) (zln k) f)
/-- how many of a cell's places count -/
def cbd (k : Nat) : Nat := if k < 20 then (match vwCl[k]? with | some r => r.2.2 | none => 0) else zln k
theorem cat.kept {G : Gl} {a k : Nat} {f : Nat → Value} {H H1 : Heap} (h : cat G a k f H) (hq : H1[a]? = H[a]?) : cat G a k f H1 := by
  unfold cat at h ⊢
  by_cases hk : k < 20
  · rw [if_pos hk] at h ⊢
    obtain ⟨r, h1, h2⟩ := h
    exact ⟨r, h1, h2.kept hq⟩
  · rw [if_neg hk] at h ⊢
    rw [hq]
    exact h
theorem cat.cg {G : Gl} {a k : Nat} {f f' : Nat → Value} {H : Heap} (h : cat G a k f H) (e : ∀ j, j < cbd k → f j = f' j) : cat G a k f' H := by
  unfold cat at h ⊢
  unfold cbd at e
  by_cases hk : k < 20
  · rw [if_pos hk] at h ⊢
    rw [if_pos hk] at e
    obtain ⟨r, h1, cell, q1, q2, q3, q4⟩ := h
    rw [h1] at e
    exact ⟨r, h1, cell, q1, q2, q3, fun j hj => by rw [q4 j hj, e j hj]⟩
  · rw [if_neg hk] at h ⊢
    rw [if_neg hk] at e
    rw [h, arrV_cg e]
def Wn (G : Gl) (w : Nat × Cs) (H : Heap) : Prop := H.size = G.1 + w.1 ∧ ∀ q, q < w.1 → cat G (G.1 + q) (w.2 q).1 (w.2 q).2 H
/-- two cells alike -/
def Ce (x y : Nat × (Nat → Value)) : Prop := x.1 = y.1 ∧ ∀ j, j < cbd x.1 → x.2 j = y.2 j
theorem Ce.refl (x : Nat × (Nat → Value)) : Ce x x := ⟨rfl, fun _ _ => rfl⟩
theorem Ce.of {x y : Nat × (Nat → Value)} (h : x = y) : Ce x y := h ▸ Ce.refl x
theorem Ce.symm {x y : Nat × (Nat → Value)} (h : Ce x y) : Ce y x := ⟨h.1.symm, fun j hj => (h.2 j (by rw [h.1]; exact hj)).symm⟩
theorem Ce.trans {x y z : Nat × (Nat → Value)} (h : Ce x y) (h' : Ce y z) : Ce x z := ⟨h.1.trans h'.1, fun j hj => (h.2 j hj).trans (h'.2 j (by rw [← h.1]; exact hj))⟩
theorem cat.ce {G : Gl} {a : Nat} {x y : Nat × (Nat → Value)} {H : Heap} (h : cat G a x.1 x.2 H) (e : Ce x y) : cat G a y.1 y.2 H := by
  rw [← e.1]
  exact h.cg e.2
def ACn (k : Nat) : String := match k with | 20 => "SlopeOperator$Lift" | 21 => "SlopeOperator$Piste" | 22 => "SlopeOperator$Guest" | _ => "SlopeOperator$Area"
/-- the array classes by their names -/
def kar (G : Gl) (U : State) : Prop := (∀ k, 20 ≤ k → k < 37 → va_RA U (G.2.2.1 k) (zty k)) ∧ ∀ k, 20 ≤ k → k < 24 → va_AO (ACn k) U
theorem kar.moved {G : Gl} {u U : State} (hv : u.vm.Alike U.vm) (h : kar G u) : kar G U := ⟨fun k a b => (h.1 k a b).moved hv, fun k a b => (h.2 k a b).moved hv⟩
def CxC (G : Gl) (Y : MD) (p : Program) (l : Launch) (s : State) (m : MethodId) (args : Array Value) (meth : Method) (c : Code) : Prop :=
  p.tables.exec = Jvm.exec ∧ c.code = Y.2.1 ∧ meth.sig.returnType = Y.2.2.2.1 ∧ c.maxLocals = Y.2.2.1 ∧ s.vm.findClass Y.1.cls = some m.cls ∧ meth.locks = false ∧ (∀ w ∈ GW, w.before args s = true) ∧ kst G s ∧ l.stackTraces = false ∧ kar G s ∧ (Y.1.name = "<init>" → meth.name = "<init>") ∧ (Y.1.name ≠ "<init>" → c.exceptionTable.toList = tableOf Y.2.2.2.2.2)
def VC (G : Gl) (Y : MD) (R : Room) (Qf : List Frame → Array Value → State → State → Prop) (pc : Nat) (L : List (Nat × Value)) (st : List Value) (w : Nat × Cs) (cells slots : Nat) : Prop :=
  ∀ (p : Program) (l : Launch) (e : Env) (s : State) (m : MethodId) (args : Array Value) (below : List Frame) (meth : Method) (c : Code), CxC G Y p l s m args meth c → ∀ (H : Heap) (locs : List Loc) (ls : Array Slot), Wn G w H → va_S (AA G) s.heap H locs → lv_has ls Y.2.2.1 L → W p l e R s m args below meth c H locs cells slots (Qf below args s) (F0 m pc ls st)
section CRows
variable {G : Gl} {Y : MD} {R : Room} {Qf : List Frame → Array Value → State → State → Prop} {pc n : Nat} {L L' : List (Nat × Value)} {st : List Value} {w : Nat × Cs} {cells slots : Nat}
theorem c_iconst {q : Int} {x : Int32} (hd : decode Y.2.1 pc = .ok (.iconst q, 1)) (hn : pc + 1 = n) (hx : Int32.ofInt q = x) (kk : VC G Y R Qf n L (.int x :: st) w cells slots) : VC G Y R Qf pc L (st) w cells slots := by
  subst hn; intro p l e s m args below meth c C H locs ls hW hS hl
  exact lv_iconst C.1 C.2.1 hd hx (kk p l e s m args below meth c C H locs ls hW hS hl)
theorem c_bipush {q : Int} {x : Int32} (hd : decode Y.2.1 pc = .ok (.bipush q, 2)) (hn : pc + 2 = n) (hx : (Int8.ofInt q).toInt32 = x) (kk : VC G Y R Qf n L (.int x :: st) w cells slots) : VC G Y R Qf pc L (st) w cells slots := by
  subst hn; intro p l e s m args below meth c C H locs ls hW hS hl
  exact lv_bipush C.1 C.2.1 hd hx (kk p l e s m args below meth c C H locs ls hW hS hl)
theorem c_sipush {q : Int} {x : Int32} (hd : decode Y.2.1 pc = .ok (.sipush q, 3)) (hn : pc + 3 = n) (hx : (Int16.ofInt q).toInt32 = x) (kk : VC G Y R Qf n L (.int x :: st) w cells slots) : VC G Y R Qf pc L (st) w cells slots := by
  subst hn; intro p l e s m args below meth c C H locs ls hW hS hl
  exact lv_sipush C.1 C.2.1 hd hx (kk p l e s m args below meth c C H locs ls hW hS hl)
theorem c_iload_n {k : Fin 4} {x : Int32} (hd : decode Y.2.1 pc = .ok (.iload_n k, 1)) (hn : pc + 1 = n) (hg : lget L k = some (.int x)) (kk : VC G Y R Qf n L (.int x :: st) w cells slots) : VC G Y R Qf pc L (st) w cells slots := by
  subst hn; intro p l e s m args below meth c C H locs ls hW hS hl
  exact lv_iload_n C.1 C.2.1 hd rfl (lv_lget hl hg) (kk p l e s m args below meth c C H locs ls hW hS hl)
theorem c_iload {k : Nat} {x : Int32} (hd : decode Y.2.1 pc = .ok (.iload k, 2)) (hn : pc + 2 = n) (hg : lget L k = some (.int x)) (kk : VC G Y R Qf n L (.int x :: st) w cells slots) : VC G Y R Qf pc L (st) w cells slots := by
  subst hn; intro p l e s m args below meth c C H locs ls hW hS hl
  exact lv_iload C.1 C.2.1 hd (lv_lget hl hg) (kk p l e s m args below meth c C H locs ls hW hS hl)
theorem c_aload_n {k : Fin 4} {x : Nat} (hd : decode Y.2.1 pc = .ok (.aload_n k, 1)) (hn : pc + 1 = n) (hg : lget L k = some (.ref x)) (kk : VC G Y R Qf n L (.ref x :: st) w cells slots) : VC G Y R Qf pc L (st) w cells slots := by
  subst hn; intro p l e s m args below meth c C H locs ls hW hS hl
  exact lv_aload_n C.1 C.2.1 hd rfl (lv_lget hl hg) (kk p l e s m args below meth c C H locs ls hW hS hl)
theorem c_istore_n {k : Fin 4} {x : Int32} (hd : decode Y.2.1 pc = .ok (.istore_n k, 1)) (hn : pc + 1 = n) (hk : k < Y.2.2.1) (hL : lset L k (.int x) = L') (kk : VC G Y R Qf n L' (st) w cells slots) : VC G Y R Qf pc L (.int x :: st) w cells slots := by
  subst hn; subst hL; intro p l e s m args below meth c C H locs ls hW hS hl
  exact lv_istore_n C.1 C.2.1 hd rfl hl hk rfl (fun ls hl => kk p l e s m args below meth c C H locs ls hW hS (lv_lset hl))
theorem c_istore {k : Nat} {x : Int32} (hd : decode Y.2.1 pc = .ok (.istore k, 2)) (hn : pc + 2 = n) (hk : k < Y.2.2.1) (hL : lset L k (.int x) = L') (kk : VC G Y R Qf n L' (st) w cells slots) : VC G Y R Qf pc L (.int x :: st) w cells slots := by
  subst hn; subst hL; intro p l e s m args below meth c C H locs ls hW hS hl
  exact lv_istore C.1 C.2.1 hd hl hk rfl (fun ls hl => kk p l e s m args below meth c C H locs ls hW hS (lv_lset hl))
theorem c_astore_n {k : Fin 4} {x : Nat} (hd : decode Y.2.1 pc = .ok (.astore_n k, 1)) (hn : pc + 1 = n) (hk : k < Y.2.2.1) (hL : lset L k (.ref x) = L') (kk : VC G Y R Qf n L' (st) w cells slots) : VC G Y R Qf pc L (.ref x :: st) w cells slots := by
  subst hn; subst hL; intro p l e s m args below meth c C H locs ls hW hS hl
  exact lv_astore_n C.1 C.2.1 hd rfl hl hk rfl (fun ls hl => kk p l e s m args below meth c C H locs ls hW hS (lv_lset hl))
theorem c_astore {k : Nat} {x : Nat} (hd : decode Y.2.1 pc = .ok (.astore k, 2)) (hn : pc + 2 = n) (hk : k < Y.2.2.1) (hL : lset L k (.ref x) = L') (kk : VC G Y R Qf n L' (st) w cells slots) : VC G Y R Qf pc L (.ref x :: st) w cells slots := by
  subst hn; subst hL; intro p l e s m args below meth c C H locs ls hW hS hl
  exact lv_astore C.1 C.2.1 hd hl hk rfl (fun ls hl => kk p l e s m args below meth c C H locs ls hW hS (lv_lset hl))
theorem c_iinc {k : Nat} {q : Int} {x y : Int32} (hd : decode Y.2.1 pc = .ok (.iinc k q, 3)) (hn : pc + 3 = n) (hg : lget L k = some (.int x)) (hy : x + Int32.ofInt q = y) (hk : k < Y.2.2.1) (hL : lset L k (.int y) = L') (kk : VC G Y R Qf n L' (st) w cells slots) : VC G Y R Qf pc L (st) w cells slots := by
  subst hn; subst hL; intro p l e s m args below meth c C H locs ls hW hS hl
  obtain ⟨j, hj⟩ := List.getElem?_of_mem (lget_mem hg)
  exact lv_iinc C.1 C.2.1 hd hl hj hy hk rfl (fun ls hl => kk p l e s m args below meth c C H locs ls hW hS (lv_lset hl))
theorem c_dup {x : Value} (hd : decode Y.2.1 pc = .ok (.dup, 1)) (hn : pc + 1 = n) (h1 : x.category = 1) (kk : VC G Y R Qf n L (x :: x :: st) w cells slots) : VC G Y R Qf pc L (x :: st) w cells slots := by
  subst hn; intro p l e s m args below meth c C H locs ls hW hS hl
  exact lv_dup C.1 C.2.1 hd h1 (kk p l e s m args below meth c C H locs ls hW hS hl)
theorem c_goto {off : Int} (hd : decode Y.2.1 pc = .ok (.goto off, 3)) (ht : (pc : Int) + off = (n : Int)) (kk : VC G Y R Qf n L (st) w cells slots) : VC G Y R Qf pc L (st) w cells slots := by
  intro p l e s m args below meth c C H locs ls hW hS hl
  exact lv_goto C.1 C.2.1 hd ht (kk p l e s m args below meth c C H locs ls hW hS hl)
theorem c_icmp_ge {x y : Int32} {off : Int} {t : Nat} (hd : decode Y.2.1 pc = .ok (.if_icmp .ge off, 3)) (hn : pc + 3 = n) (ht : (pc : Int) + off = (t : Int)) (kt : y ≤ x → VC G Y R Qf t L (st) w cells slots) (kf : ¬ y ≤ x → VC G Y R Qf n L (st) w cells slots) : VC G Y R Qf pc L (.int y :: .int x :: st) w cells slots := by
  subst hn; intro p l e s m args below meth c C H locs ls hW hS hl
  exact lv_icmp_ge C.1 C.2.1 hd ht (fun h => kt h p l e s m args below meth c C H locs ls hW hS hl) (fun h => kf h p l e s m args below meth c C H locs ls hW hS hl)
theorem c_wide {a b : Nat} (h1 : cells ≤ a) (h2 : slots ≤ b) (kk : VC G Y R Qf pc L st w a b) : VC G Y R Qf pc L (st) w cells slots := fun p l e s m args below meth c C H locs ls hW hS hl => W.widen h1 h2 (kk p l e s m args below meth c C H locs ls hW hS hl)
theorem c_less (hL : ∀ q ∈ L', q ∈ L) (kk : VC G Y R Qf pc L' (st) w cells slots) : VC G Y R Qf pc L (st) w cells slots := fun p l e s m args below meth c C H locs ls hW hS hl => kk p l e s m args below meth c C H locs ls hW hS (lv_less hl hL)
theorem c_eq {c' : Cs} (e : ∀ q, q < w.1 → Ce (w.2 q) (c' q)) (kk : VC G Y R Qf pc L st (w.1, c') cells slots) : VC G Y R Qf pc L st w cells slots := fun p l e1 s m args below meth c C H locs ls hW hS hl => kk p l e1 s m args below meth c C H locs ls ⟨hW.1, fun q hq => (hW.2 q hq).ce (e q hq)⟩ hS hl
theorem Wn.grow {H H1 : Heap} (hW : Wn G w H) (z : H1.size = H.size + 1) (o : ∀ q, q < H.size → H1[q]? = H[q]?) (hn : cat G (G.1 + w.1) (w.2 w.1).1 (w.2 w.1).2 H1) : Wn G (w.1 + 1, w.2) H1 := by
  refine ⟨by rw [z, hW.1]; rfl, fun q hq => ?_⟩
  by_cases h : q = w.1
  · subst h; exact hn
  · have hq1 : q < w.1 := by have : q < w.1 + 1 := hq; omega
    exact (hW.2 q hq1).kept (o _ (by rw [hW.1]; omega))
theorem va_S_grow {H0 H H1 : Heap} {locs : List Loc} (hS : va_S (AA G) H0 H locs) (z : H1.size = H.size + 1) (o : ∀ q, q < H.size → H1[q]? = H[q]?) : va_S (AA G) H0 H1 locs := ⟨by rw [z]; exact Nat.le_succ_of_le hS.1, fun x h1 h2 => (o x (Nat.lt_of_lt_of_le h1 hS.1)).trans (hS.2.1 x h1 h2), hS.2.2⟩
theorem c_new {index k N : Nat} {C : String} {T : u_T} {ty : Nat → FieldType} (hd : decode Y.2.1 pc = .ok (.new index, 3)) (hn : pc + 3 = n) (hk : k < 20) (hc : vwCl[k]? = some (C, T, N)) (hcl : Cond.classLink Y.1.cls index C ∈ GW) (hins : Cond.instantiable C N ∈ GW) (hini : Cond.initialized C ∈ GW) (hin : ∀ w ∈ u_ws C T N, w ∈ GW) (hty : ∀ j, j < N → parseFieldDescriptor (T j).2.2.1 = some (ty j)) (hq : Ce (k, fun j => defaultValue (ty j)) (w.2 w.1)) (hcells : cells + 1 ≤ R.cells) (hslots : slots + N ≤ R.slots)
    (kk : VC G Y R Qf n L (.ref (G.1 + w.1) :: st) (w.1 + 1, w.2) (cells + 1) (slots + N)) : VC G Y R Qf pc L st w cells slots := by
  subst hn; intro p l e s m args below meth c C1 H locs ls hW hS hl
  have C2 := C1
  obtain ⟨hx, hb, hrt, hml, hown, hlocks, hts, hK, -⟩ := C1
  have hKn := hK.1.1 k _ hc
  refine W.newcK hx hb hown (hts _ hcl) (hts _ hins) (hts _ hini) rfl hd hcells hslots hKn.2.1 hW.1 fun H1 kC hkC e1 z1 o1 => ?_
  have z2 : H1.size = H.size + 1 := by rw [z1, hW.1]
  have o2 : ∀ q, q < H.size → H1[q]? = H[q]? := fun q h => o1 q (by rw [← hW.1]; exact h)
  refine kk p l e s m args below meth c C2 H1 locs ls (hW.grow z2 o2 ?_) (va_S_grow hS z2 o2) hl
  refine cat.ce (x := (k, fun j => defaultValue (ty j))) ?_ hq
  unfold cat
  rw [if_pos hk]
  exact ⟨_, hc, u_born ty hts hin hKn hkC e1 hty⟩
theorem c_newarr {atype : ArrayType} {k N : Nat} {x : Int32} (hd : decode Y.2.1 pc = .ok (.newarray atype, 2)) (hn : pc + 2 = n) (hk : 20 ≤ k) (hk2 : k < 37) (hty : zty k = newarray.typeOf atype) (hlen : zln k = N) (hx : x = nI N) (harr : Cond.arrayClass (newarray.typeOf atype) ∈ GW) (hb : N * componentBytes (newarray.typeOf atype) ≤ 536870912) (hq : Ce (k, fun _ => defaultValue (newarray.typeOf atype)) (w.2 w.1)) (hcells : cells + 1 ≤ R.cells) (hslots : slots + N ≤ R.slots)
    (kk : VC G Y R Qf n L (.ref (G.1 + w.1) :: st) (w.1 + 1, w.2) (cells + 1) (slots + N)) : VC G Y R Qf pc L (.int x :: st) w cells slots := by
  subst hn; subst hx; intro p l e s m args below meth c C1 H locs ls hW hS hl
  have C2 := C1
  obtain ⟨hx, hbb, hrt, hml, hown, hlocks, hts, hK, hlt, hkar, -⟩ := C1
  have hN : N < 2 ^ 31 := by rw [← hlen]; have := zln_le k; omega
  refine va_newaK hx hbb (hts _ harr) rfl hd rfl (nI_pos hN) (nI_clamp hN) hb hcells hslots hW.1 fun H1 cA e1 z1 o1 hAr hNm => ?_
  have hR := hkar.1 k hk hk2
  rw [hty] at hR
  have hR2 : s.vm.findClass ("[" ++ (newarray.typeOf atype).toString) = some (G.2.2.1 k) := by cases atype <;> exact hR
  have hcA : cA = G.2.2.1 k := Option.some.inj (hNm.symm.trans hR2)
  subst hcA
  have z2 : H1.size = H.size + 1 := by rw [z1, hW.1]
  have o2 : ∀ q, q < H.size → H1[q]? = H[q]? := fun q h => o1 q (by rw [← hW.1]; exact h)
  refine kk p l e s m args below meth c C2 H1 locs ls (hW.grow z2 o2 ?_) (va_S_grow hS z2 o2) hl
  refine cat.ce (x := (k, fun _ => defaultValue (newarray.typeOf atype))) ?_ hq
  unfold cat
  rw [if_neg (by omega), hlen]
  exact e1
theorem c_anew {index k N : Nat} {x : Int32} (hd : decode Y.2.1 pc = .ok (.anewarray index, 3)) (hn : pc + 3 = n) (hk : 20 ≤ k) (hk2 : k < 24) (hty : zty k = .object (ACn k)) (hlen : zln k = N) (hx : x = nI N) (hcl : Cond.classLink Y.1.cls index (ACn k) ∈ GW) (hq : Ce (k, fun _ => Value.null) (w.2 w.1)) (hcells : cells + 1 ≤ R.cells) (hslots : slots + N ≤ R.slots)
    (kk : VC G Y R Qf n L (.ref (G.1 + w.1) :: st) (w.1 + 1, w.2) (cells + 1) (slots + N)) : VC G Y R Qf pc L (.int x :: st) w cells slots := by
  subst hn; subst hx; intro p l e s m args below meth c C1 H locs ls hW hS hl
  have C2 := C1
  obtain ⟨hx, hbb, hrt, hml, hown, hlocks, hts, hK, hlt, hkar, -⟩ := C1
  have hN3 : N ≤ 3000 := by rw [← hlen]; exact zln_le k
  have hN : N < 2 ^ 31 := by omega
  refine W.anew hx hbb hown (hts _ hcl) (va_AO.use (hkar.2 k hk hk2)) rfl hd rfl (nI_pos hN) (by rw [nI_clamp hN]; omega) hcells (by rw [nI_clamp hN]; exact hslots) fun cA kA comp f1 f2 f3 f4 => ?_
  have hR := hkar.1 k hk (by omega)
  rw [hty] at hR
  obtain ⟨kA', comp', g1, g2, g3, g4⟩ := hR
  have hcA : cA = G.2.2.1 k := Option.some.inj (f1.symm.trans g4)
  subst hcA
  rw [nI_clamp hN]
  generalize hH1 : H.push ({ cls := G.2.2.1 k, slots := Array.replicate N .null, vm := .none } : Cell) = H1
  have z1 : H1.size = H.size + 1 := by rw [← hH1, Array.size_push]
  have e1 : H1[H.size]? = some (arrV (G.2.2.1 k) N (fun _ => .null)) := by rw [← hH1, Array.getElem?_push_size, ← arrV_new]
  have o1 : ∀ q : Nat, q < H.size → H1[q]? = H[q]? := fun q hq => by rw [← hH1, Array.getElem?_push, if_neg (Nat.ne_of_lt hq)]
  have hs : H.size = G.1 + w.1 := hW.1
  have k2 := kk p l e s m args below meth c C2 H1 locs ls (hW.grow z1 o1 (cat.ce (x := (k, fun _ => Value.null)) (by unfold cat; rw [if_neg (by omega), hlen, ← hs]; exact e1) hq)) (va_S_grow hS z1 o1) hl
  rw [← hs] at k2
  exact k2
theorem Wn.put {H H' : Heap} {c' : Cs} {q0 : Nat} (hW : Wn G w H) (z : H'.size = H.size) (o : ∀ q, q ≠ G.1 + q0 → H'[q]? = H[q]?) (hq0 : cat G (G.1 + q0) (c' q0).1 (c' q0).2 H') (e : ∀ q, q < w.1 → q ≠ q0 → Ce (w.2 q) (c' q)) : Wn G (w.1, c') H' := by
  refine ⟨by rw [z, hW.1], fun q hq => ?_⟩
  by_cases h : q = q0
  · subst h; exact hq0
  · exact ((hW.2 q hq).kept (o _ (by omega))).ce (e q hq h)
/-- a final field's place -/
def FLf (own : String) (index k s : Nat) (ft : FieldType) : Prop := k < 20 ∧ ∃ (T : u_T) (N : Nat) (ty : Nat → FieldType), vwCl[k]? = some (own, T, N) ∧ s < N ∧ (∀ w ∈ u_ws own T N, w ∈ GW) ∧ (∀ j, j < N → parseFieldDescriptor (T j).2.2.1 = some (ty j)) ∧ (∀ a, a < N → ∀ b, b < N → a ≠ b → (T a).2.1 ≠ (T b).2.1) ∧ (T s).1 = own ∧ Cond.fieldLink own index own (T s).2.1 (T s).2.2.1 ∈ GW ∧ (T s).2.2.2 = true ∧ ty s = ft
theorem c_putr {index k s q0 a : Nat} {c' : Cs} {ft : FieldType} (hd : decode Y.2.1 pc = .ok (.putfield index, 3)) (hn : pc + 3 = n) (hA : G.2.2.2 = true) (hname : Y.1.name = "<init>") (hf : FLf Y.1.cls index k s ft) (hq : q0 < w.1) (hk : (w.2 q0).1 = k) (hx : narrow ft (.ref a) = .ref a) (hx2 : fits ft (.ref a) = true) (hc0 : Ce (k, updV (w.2 q0).2 s (.ref a)) (c' q0)) (e : ∀ q, q < w.1 → q ≠ q0 → Ce (w.2 q) (c' q)) (kk : VC G Y R Qf n L st (w.1, c') cells slots) : VC G Y R Qf pc L (.ref a :: .ref (G.1 + q0) :: st) w cells slots := by
  subst hn; intro p l e1 s_1 m args below meth c C1 H locs ls hW hS hl
  obtain ⟨hk20, T, N, ty, hc, hs, hin, hty, hnm, hT, hlink, hfin, hft⟩ := hf
  have ha := hW.2 q0 hq
  unfold cat at ha
  rw [hk, if_pos hk20] at ha
  obtain ⟨r, h1, cell, q1, q2, q3, q4⟩ := ha
  have hr : r = (Y.1.cls, T, N) := Option.some.inj (h1.symm.trans hc)
  subst hr
  have C2 := C1
  obtain ⟨hx0, hb, hrt, hml, hown, hlocks, hts, hK, hlt, hkar, hin2, -⟩ := C1
  have hap := va_apart (own := Y.1.cls) hts hin ty hty hnm hK.1 hc
  obtain ⟨hSl, hfc, kC, hkC, hkind⟩ := hK.1.1 k _ hc
  obtain ⟨cf, kf, fi, f, hi, hsl⟩ := hSl s hs
  have hi2 : s_1.fieldFound? Y.1.cls (T s).2.1 (T s).2.2.1 = some (cf, kf, fi, f) := by rw [← hT]; exact hi
  have hlay := hts _ (hin _ (u_in_lay hs))
  unfold u_lay at hlay
  rw [if_pos hfin] at hlay
  have hst := (u_facts hfc hkC (u_lays hts hin hs) hi).1
  have hcf : m.cls = cf := by
    obtain ⟨_, _, c9, _, _, _, -, -, hf', -, -, -, hown2, -⟩ := Cond.laysFinal_spec hlay
    have e1 : c9 = cf := by have := hi.symm.trans hf'; simp at this; exact this.1.symm
    rw [hT] at hown2
    rw [← e1]; exact Option.some.inj (hown.symm.trans hown2)
  have h6 := u_fits hfc hkC hkind (Or.inr hlay) hi (by rw [hty s hs, hft]) hx hx2
  refine W.putFinK hx0 hb hown (hts _ hlink) hi2 hst hcf (hin2 hname) (by rw [q2]; exact h6) q1 q3 (by rw [hsl]; exact k2_hasslot (q4 s hs)) rfl rfl hd fun H' e1 e2 e3 => ?_
  rw [hsl] at e1 ⊢
  refine kk p l _ s_1 m args below meth c C2 H' _ ls (hW.put e2 e3 (cat.ce (x := (k, updV (w.2 q0).2 s (.ref a))) ?_ hc0) e) (hS.put e2 e3 ⟨Nat.le_add_right _ _, Or.inl hA⟩) hl
  unfold cat
  rw [if_pos hk20]
  exact ⟨_, hc, ⟨_, e1, q2, q3, t_set q4 hap hs (.ref a)⟩⟩
theorem c_puti {index k s q0 : Nat} {x : Int32} {c' : Cs} {ft : FieldType} (hd : decode Y.2.1 pc = .ok (.putfield index, 3)) (hn : pc + 3 = n) (hA : G.2.2.2 = true) (hf : FLw Y.1.cls index k s ft) (hq : q0 < w.1) (hk : (w.2 q0).1 = k) (hx : narrow ft (.int x) = .int x) (hx2 : fits ft (.int x) = true) (hc0 : Ce (k, updV (w.2 q0).2 s (.int x)) (c' q0)) (e : ∀ q, q < w.1 → q ≠ q0 → Ce (w.2 q) (c' q)) (kk : VC G Y R Qf n L st (w.1, c') cells slots) : VC G Y R Qf pc L (.int x :: .ref (G.1 + q0) :: st) w cells slots := by
  subst hn; intro p l e1 s_1 m args below meth c C1 H locs ls hW hS hl
  obtain ⟨hk20, C0, T, N, ty, hc, hs, hin, hty, hnm, hT, hlink, hfin, hft⟩ := hf
  have ha := hW.2 q0 hq
  unfold cat at ha
  rw [hk, if_pos hk20] at ha
  obtain ⟨r, h1, cell, q1, q2, q3, q4⟩ := ha
  have hr : r = (C0, T, N) := Option.some.inj (h1.symm.trans hc)
  subst hr
  have C2 := C1
  obtain ⟨hx0, hb, hrt, hml, hown, hlocks, hts, hK, -⟩ := C1
  have hap := va_apart (own := Y.1.cls) hts hin ty hty hnm hK.1 hc
  obtain ⟨hSl, hfc, kC, hkC, hkind⟩ := hK.1.1 k _ hc
  obtain ⟨cf, kf, fi, f, hi, hsl⟩ := hSl s hs
  have hi2 : s_1.fieldFound? C0 (T s).2.1 (T s).2.2.1 = some (cf, kf, fi, f) := by rw [← hT]; exact hi
  have hlay := hts _ (hin _ (u_in_lay hs))
  unfold u_lay at hlay
  rw [if_neg (by rw [hfin]; decide)] at hlay
  have hst := (u_facts hfc hkC (u_lays hts hin hs) hi).1
  have h6 := u_store hfc hkC hkind hlay hi (by rw [hty s hs, hft]) hx hx2
  refine W.putK hx0 hb (f := f) ⟨hown, hts _ hlink, ⟨_, _, _, hi2⟩, hst⟩ (by rw [q2]; exact h6) q1 q3 (by rw [hsl]; exact k2_hasslot (q4 s hs)) rfl rfl hd fun H' e1 e2 e3 => ?_
  rw [hsl] at e1 ⊢
  refine kk p l _ s_1 m args below meth c C2 H' _ ls (hW.put e2 e3 (cat.ce (x := (k, updV (w.2 q0).2 s (.int x))) ?_ hc0) e) (hS.put e2 e3 ⟨Nat.le_add_right _ _, Or.inl hA⟩) hl
  unfold cat
  rw [if_pos hk20]
  exact ⟨_, hc, ⟨_, e1, q2, q3, t_set q4 hap hs (.int x)⟩⟩
theorem c_getf {index k s q0 : Nat} {v : Value} (hd : decode Y.2.1 pc = .ok (.getfield index, 3)) (hn : pc + 3 = n) (hf : FL Y.1.cls index k s) (hq : q0 < w.1) (hk : (w.2 q0).1 = k) (hv : (w.2 q0).2 s = v) (kk : VC G Y R Qf n L (v :: st) w cells slots) : VC G Y R Qf pc L (.ref (G.1 + q0) :: st) w cells slots := by
  subst hn; intro p l e s_1 m args below meth c C1 H locs ls hW hS hl
  obtain ⟨hk20, C0, T, N, ty, hc, hs, hin, -, -, hT, hlink⟩ := hf
  have ha := hW.2 q0 hq
  unfold cat at ha
  rw [hk, if_pos hk20] at ha
  obtain ⟨r, h1, cell, q1, q2, q3, q4⟩ := ha
  have hr : r = (C0, T, N) := Option.some.inj (h1.symm.trans hc)
  subst hr
  have C2 := C1
  obtain ⟨hx, hb, hrt, hml, hown, hlocks, hts, hK, -⟩ := C1
  obtain ⟨hSl, hfc, kC, hkC, hkind⟩ := hK.1.1 k _ hc
  obtain ⟨cf, kf, fi, f, hi, hsl⟩ := hSl s hs
  have hi2 : s_1.fieldFound? C0 (T s).2.1 (T s).2.2.1 = some (cf, kf, fi, f) := by rw [← hT]; exact hi
  refine W.getf hx hb hown (hts _ hlink) hi2 (u_facts hfc hkC (u_lays hts hin hs) hi).1 q1 (by rw [q3]; exact fun h => by cases h) (v := v) ?_ rfl rfl hd (kk p l e s_1 m args below meth c C2 H locs ls hW hS hl)
  rw [hsl, q4 s hs, hv]
theorem c_aast {q0 qv k kv j N : Nat} {x : Int32} {c' : Cs} {r : vw_C} (hd : decode Y.2.1 pc = .ok (.aastore, 1)) (hn : pc + 1 = n) (hA : G.2.2.2 = true) (hq : q0 < w.1) (hk : (w.2 q0).1 = k) (hk2 : 20 ≤ k) (hk3 : k < 24) (hty : zty k = .object r.1) (hlen : zln k = N) (hqv : qv < w.1) (hkv : (w.2 qv).1 = kv) (hkv2 : kv < 20) (hr : vwCl[kv]? = some r) (hx : x = nI j) (hj : j < N) (hc0 : Ce (k, updV (w.2 q0).2 j (.ref (G.1 + qv))) (c' q0)) (e : ∀ q, q < w.1 → q ≠ q0 → Ce (w.2 q) (c' q)) (kk : VC G Y R Qf n L st (w.1, c') cells slots) : VC G Y R Qf pc L (.ref (G.1 + qv) :: .int x :: .ref (G.1 + q0) :: st) w cells slots := by
  subst hn; subst hx; intro p l e1 s_1 m args below meth c C1 H locs ls hW hS hl
  have C2 := C1
  obtain ⟨hx, hb, hrt, hml, hown, hlocks, hts, hK, hlt, hkar, -⟩ := C1
  have ha := hW.2 q0 hq
  unfold cat at ha
  rw [hk, if_neg (by omega), hlen] at ha
  have hv := hW.2 qv hqv
  unfold cat at hv
  rw [hkv, if_pos hkv2] at hv
  obtain ⟨r', h1, cellV, g1, g2, g3, -⟩ := hv
  have hcls := (hK.1.1 kv r hr).2
  have hR := hkar.1 k hk2 (by omega)
  rw [hty] at hR
  obtain ⟨kA, comp, k1, k2, k3, -⟩ := hR
  have hcomp : comp = G.2.1.1 kv := Option.some.inj (k3.symm.trans hcls.1)
  subst hcomp
  obtain ⟨kC, hkC, -⟩ := hcls.2
  have hN : N ≤ 3000 := by rw [← hlen]; exact zln_le k
  have hj31 : j < 2 ^ 31 := by omega
  refine W.aast hx hb ha (fun q h => by cases h) (fun h => by cases h) k1 k2 rfl hkC ⟨nI_pos hj31, by show _ < (arrV _ _ _).slots.size; rw [arrV_size, nI_clamp hj31]; exact hj⟩ g1 (fun q h => by rw [g3] at h; cases h) (by rw [g2]; exact hkC) (by rw [g2]; exact va_assign hcls) rfl rfl hd fun H' e4 e2 e3 => ?_
  rw [nI_clamp hj31] at e4 ⊢
  refine kk p l _ s_1 m args below meth c C2 H' _ ls (hW.put e2 e3 (cat.ce (x := (k, updV (w.2 q0).2 j (.ref (G.1 + qv)))) ?_ hc0) e) (hS.put e2 e3 ⟨Nat.le_add_right _ _, Or.inl hA⟩) hl
  unfold cat
  rw [if_neg (by omega), e4, arrV_store, hlen]
theorem c_obj {index a : Nat} (hd : decode Y.2.1 pc = .ok (.invokespecial index, 3)) (hn : pc + 3 = n) (h1 : Cond.methodLink Y.1.cls index Lib.objectInit ∈ GW) (h2 : Cond.instanceMethod Lib.objectInit ∈ GW) (h3 : Cond.code Lib.objectInit ⟨#[0xb1]⟩ 1 none ∈ GW) (hR : 1 ≤ R.frames ∧ 12 ≤ R.locals) (kk : VC G Y R Qf n L [] w cells slots) : VC G Y R Qf pc L [.ref a] w cells slots := by
  subst hn; intro p l e s m args below meth c C1 H locs ls hW hS hl
  have C2 := C1
  obtain ⟨hx, hb, hrt, hml, hown, hlocks, hts, hK, -⟩ := C1
  exact W.objInit hx hb hown (hts _ h1) (hts _ h2) (hts _ h3) rfl (hl.1.trans hml.symm) rfl hd hR.1 (by simpa using hR.2) (kk p l e s m args below meth c C2 H locs ls hW hS hl)
def QcC (G : Gl) (w' : Nat × Cs) : Array Value → State → Outcome → State → Prop := fun _ st oc t => (oc = .returned none ∧ Wn G w' t.heap) ∧ va_F (AA G) st t
def ConC (G : Gl) (Y : MD) (av : List Value) (w w' : Nat × Cs) : Prop := ∀ l : Launch, l.stackTraces = false → Met l Y.1 (wsC Y) Y.2.2.2.2.1 (va_Pc av (fun U => Wn G w U.heap ∧ kst G U ∧ kar G U)) (QcC G w') Y.2.2.2.2.1.cells Y.2.2.2.2.1.slots (AA G)
def QMC (G : Gl) (Y : MD) (w' : Nat × Cs) : List Frame → Array Value → State → State → Prop := fun below args s => MQ below (QcC G w') args s Y.2.2.2.2.1.cells Y.2.2.2.2.1.slots (AA G)
theorem conC_of {av : List Value} {w' : Nat × Cs} (hp : plainName Y.1.cls = true) (hname : Y.1.name = "<init>") (hn : (lg_sl av).length ≤ Y.2.2.1) (h : VC G Y Y.2.2.2.2.1 (QMC G Y w') 0 (lv_args 0 av) [] w 0 0) : ConC G Y av w w' := by
  intro l hlt
  refine Met.ofW (cc := Y.2.1) (maxL := Y.2.2.1) (ret := Y.2.2.2.1) (ws' := GW) hp rfl ?_
  intro p e s m args below meth c s₁ B hml hv
  obtain ⟨rfl, hW, hK, hkar⟩ := hv
  have hts := atoms_spec (ws := wsC Y) B.pre
  have hl := lv_entry av (n := Y.2.2.1) hn
  rw [lg_entry_eq]
  exact h p l e s m av.toArray below meth c ⟨B.exec, B.bytes, B.returns, hml, findClass_of_methodNamed B.named, B.notSynchronized, fun w hw => hts w (List.mem_cons_of_mem _ hw), hK, hlt, hkar, fun _ => (name_of_methodNamed B.named B.method).1.trans hname, fun z => absurd hname z⟩ s.heap [] _ hW va_S.rf hl
theorem c_ret (hd : decode Y.2.1 pc = .ok (.return_, 1)) (hr : Y.2.2.2.1 = none) (hc : cells = Y.2.2.2.2.1.cells) (hs : slots = Y.2.2.2.2.1.slots) : VC G Y R (QMC G Y w) pc L [] w cells slots := by
  subst hc; subst hs
  intro p l e s m args below meth c C1 H locs ls hW hS hl
  have hlocks := C1.2.2.2.2.2.1
  exact W.vret C1.1 C1.2.1 (C1.2.2.1.trans hr) (fun t ht hWm => ⟨⟨rfl, by rw [ht]; exact hW⟩, hS.F ht⟩) hS.2.2 hd
/-- the words of a constructor's call -/
def LKI (own : String) (index : Nat) (Z : MD) : Prop := Z.1.name = "<init>" ∧ Z.2.2.2.1 = none ∧ Cond.methodLink own index Z.1 ∈ GW ∧ Cond.instanceMethod Z.1 ∈ GW ∧ Cond.initialized Z.1.cls ∈ GW ∧ Cond.code Z.1 Z.2.1 Z.2.2.1 Z.2.2.2.1 ∈ GW ∧ Z.1.cls ≠ "java/lang/invoke/MethodHandle" ∧ Z.1.cls ≠ "java/lang/invoke/VarHandle" ∧ (parseMethodDescriptor Z.1.desc).map (fun d => d.parameters.length) = some 0
theorem kar_blind {av : List Value} {w : Nat × Cs} : FrameBlind (va_Pc av (fun U => Wn G w U.heap ∧ kst G U ∧ kar G U)) := fun a U g mk h => ⟨h.1, h.2.1, h.2.2.1.calling, kar.moved (u := U) (Vm.Alike.refl U.vm) h.2.2.2⟩
theorem c_ctor {Z : MD} {index a : Nat} {rest : List Value} {w' : Nat × Cs} (hd : decode Y.2.1 pc = .ok (.invokespecial index, 3)) (hn : pc + 3 = n) (hL : LKI Y.1.cls index Z) (hrest : (rest.map fun v => v.category).sum ≤ 8) (hRm : RMk R Z cells slots) (hM : ConC G Z [.ref a] w w')
    (kk : VC G Y R Qf n L rest w' (cells + Z.2.2.2.2.1.cells) (slots + Z.2.2.2.2.1.slots)) : VC G Y R Qf pc L (.ref a :: rest) w cells slots := by
  subst hn
  intro p l e s m args below meth c C1 H locs ls hW hS hl
  have C2 := C1
  obtain ⟨hx, hb, hrt, hml, hown, hlocks, hts, hK, hlt, hkar, -⟩ := C1
  obtain ⟨hnm, hret, w1, w2, w4, w5, n1, n2, hnp⟩ := hL
  obtain ⟨r1, r2, r3, r4⟩ := hRm
  have hM1 := hM l hlt
  have hws : wsC Z = Cond.code Z.1 Z.2.1 Z.2.2.1 none :: GW := by unfold wsC; rw [hret]
  rw [hws] at hM1
  rw [hret] at w5
  have hr := va_runI (p := p) (l := l) (e := e) (R := R) (s := s) (m := m) (args := args) (below := below) (meth := meth) (c := c) (H := H) (locs := locs) (cells := cells) (slots := slots) (cc := Y.2.1) (nL := Y.2.2.1) (Ts := GW) (own := Y.1.cls) (As := []) (rest := rest) (n := 0) (index := index) (b := a) (bytes := Z.2.1) (maxL := Z.2.2.1) (g := F0 m pc ls (.ref a :: rest)) ⟨hx, hb, hml, hown, hts⟩ hM1 ⟨⟨rfl, rfl, r1, r2, fun w hw a' U hWm => ?_, List.mem_cons_self, hts _ w5, hts _ w4, ⟨n1, n2⟩, fun sig h => ?_, hts _ w1⟩, hnm, hts _ w2⟩ ⟨kar_blind, fun U hU hWm => ⟨rfl, by rw [hU]; exact hW, hK.at hWm hU hS, hkar.moved hWm.alike⟩⟩ rfl rfl hl.1 rfl (lv_room hrest) hd ⟨r3, r4⟩
  · intro T hT X'
    obtain ⟨v, st₀, t, T', L', h0, X2, hL, e1, e2, ⟨⟨hv, hb2⟩, hF⟩, st⟩ := hr T hT X'
    cases hv
    obtain ⟨k1, k2, k3⟩ := vx_keep h0 e1 hS (fun q _ h => h) (fun _ h => h) hL hF
    obtain ⟨t2, a1, b1⟩ := kk p l e s m args below meth c C2 T'.heap (locs ++ L') ls (by rw [e1]; exact hb2) k3 hl T' rfl X2
    exact ⟨t2, st t2 a1, b1⟩
  · rcases List.mem_cons.mp hw with rfl | hw
    · exact GW_pay hts w5 a' U hWm
    · exact GW_pay hts hw a' U hWm
  · rw [h] at hnp
    exact (Option.some.inj hnp).symm
def LKIN (own : String) (index : Nat) (host : String) (Z : MD) : Prop := Z.1.name = "<init>" ∧ Z.2.2.2.1 = none ∧ Cond.methodLinkNest own index Z.1 host ∈ lw_tbl ∧ Cond.instanceMethod Z.1 ∈ GW ∧ Cond.initialized Z.1.cls ∈ GW ∧ Cond.code Z.1 Z.2.1 Z.2.2.1 Z.2.2.2.1 ∈ GW ∧ Z.1.cls ≠ "java/lang/invoke/MethodHandle" ∧ Z.1.cls ≠ "java/lang/invoke/VarHandle" ∧ (parseMethodDescriptor Z.1.desc).map (fun d => d.parameters.length) = some 0
theorem c_ctorN {Z : MD} {index a : Nat} {host : String} {rest : List Value} {w' : Nat × Cs} (hd : decode Y.2.1 pc = .ok (.invokespecial index, 3)) (hn : pc + 3 = n) (hL : LKIN Y.1.cls index host Z) (hrest : (rest.map fun v => v.category).sum ≤ 8) (hRm : RMk R Z cells slots) (hM : ConC G Z [.ref a] w w')
    (kk : VC G Y R Qf n L rest w' (cells + Z.2.2.2.2.1.cells) (slots + Z.2.2.2.2.1.slots)) : VC G Y R Qf pc L (.ref a :: rest) w cells slots := by
  subst hn
  intro p l e s m args below meth c C1 H locs ls hW hS hl
  have C2 := C1
  obtain ⟨hx, hb, hrt, hml, hown, hlocks, hts, hK, hlt, hkar, -⟩ := C1
  obtain ⟨hnm, hret, w1, w2, w4, w5, n1, n2, hnp⟩ := hL
  obtain ⟨r1, r2, r3, r4⟩ := hRm
  have hM1 := hM l hlt
  have hws : wsC Z = Cond.code Z.1 Z.2.1 Z.2.2.1 none :: GW := by unfold wsC; rw [hret]
  rw [hws] at hM1
  rw [hret] at w5
  have hr := va_runIN (p := p) (l := l) (e := e) (R := R) (s := s) (m := m) (args := args) (below := below) (meth := meth) (c := c) (H := H) (locs := locs) (cells := cells) (slots := slots) (cc := Y.2.1) (nL := Y.2.2.1) (Ts := GW) (own := Y.1.cls) (As := []) (rest := rest) (n := 0) (index := index) (b := a) (bytes := Z.2.1) (maxL := Z.2.2.1) (host := host) (g := F0 m pc ls (.ref a :: rest)) ⟨hx, hb, hml, hown, hts⟩ hM1 ⟨⟨⟨rfl, rfl, r1, r2, fun w hw a' U hWm => ?_, List.mem_cons_self⟩, hts _ w5, hts _ w4, ⟨n1, n2⟩, fun sig h => ?_, va_Nw.use (w := .methodLinkNest Y.1.cls index Z.1 host) rfl (hK.2.2.2.2.2.2.1 _ w1 rfl)⟩, hnm, hts _ w2⟩ ⟨kar_blind, fun U hU hWm => ⟨rfl, by rw [hU]; exact hW, hK.at hWm hU hS, hkar.moved hWm.alike⟩⟩ rfl rfl hl.1 rfl (lv_room hrest) hd ⟨r3, r4⟩
  · intro T hT X'
    obtain ⟨v, st₀, t, T', L', h0, X2, hL, e1, e2, ⟨⟨hv, hb2⟩, hF⟩, st⟩ := hr T hT X'
    cases hv
    obtain ⟨k1, k2, k3⟩ := vx_keep h0 e1 hS (fun q _ h => h) (fun _ h => h) hL hF
    obtain ⟨t2, a1, b1⟩ := kk p l e s m args below meth c C2 T'.heap (locs ++ L') ls (by rw [e1]; exact hb2) k3 hl T' rfl X2
    exact ⟨t2, st t2 a1, b1⟩
  · rcases List.mem_cons.mp hw with rfl | hw
    · exact GW_pay hts w5 a' U hWm
    · exact GW_pay hts hw a' U hWm
  · rw [h] at hnp
    exact (Option.some.inj hnp).symm
end CRows
