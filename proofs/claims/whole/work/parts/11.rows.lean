/-! ===== THE JUDGEMENT V: the machine at a place of a method, over the store ===== -/
/-- the tables' words that any method may be handed -/
def GW : List Cond := lw_tbl.filter goodWord
theorem GW_tbl {w : Cond} (h : w ∈ GW) : w ∈ lw_tbl := (List.mem_filter.mp h).1
theorem GW_good {w : Cond} (h : w ∈ GW) : goodWord w = true := (List.mem_filter.mp h).2
theorem GW_of {w : Cond} (i : Nat) (h : tables_1[i]? = some w) (hg : goodWord w = true) : w ∈ GW := List.mem_filter.mpr ⟨List.mem_append_right _ (List.mem_of_getElem? h), hg⟩
theorem GW_sel {w : Cond} (i : Nat) (h : (k2_sels lw_privs)[i]? = some w) (hg : goodWord w = true) : w ∈ GW := List.mem_filter.mpr ⟨List.mem_append_left _ (List.mem_of_getElem? h), hg⟩
/-- a method: name, code, locals, answer, room, handlers -/
abbrev MD : Type := MethodName × ByteArray × Nat × Option FieldType × Room × List (Nat × Nat × Nat × Nat)
/-- words that the tables alone decide, moved by their own laws -/
def zNw : Cond → Bool
  | .castable .. => true
  | .methodLinkNest .. => true
  | .declares .. => true
  | _ => false
theorem zNw_moved {w : Cond} {s U : State} (hW : s.WarmedH U.vm) (hw : zNw w = true) (h : va_Nw w s) : va_Nw w U := by
  cases w <;> first | exact va_Nw.warmC hW h | exact va_Nw.warmM hW h | exact va_Nw.warmD hW h | cases hw
theorem zNw_same {w : Cond} {s U : State} (hv : s.vm = U.vm) (hw : zNw w = true) (h : va_Nw w s) : va_Nw w U := by
  cases w <;> first | exact va_Nw.same rfl hv h | cases hw
/-- classes of exceptions that a handler passes over -/
def zNc : List (String × String) := [("java/lang/IllegalArgumentException", "java/lang/IndexOutOfBoundsException"), ("java/lang/IllegalStateException", "java/lang/IndexOutOfBoundsException"), ("java/lang/IllegalStateException", "java/lang/IllegalArgumentException"), ("java/lang/UnsupportedOperationException", "java/lang/IndexOutOfBoundsException"), ("java/util/NoSuchElementException", "java/lang/IndexOutOfBoundsException"), ("java/lang/ArithmeticException", "java/lang/IndexOutOfBoundsException")]
/-- what holds of the machine at every state of the run, but for the ints -/
theorem va_S.coarse {G : Gl} {H0 H : Heap} {locs : List Loc} (h : va_S (AA G) H0 H locs) : va_S (fun q => G.1 ≤ q) H0 H locs := ⟨h.1, fun q a b => h.2.1 q a (fun z => b z.1), fun z hz => (h.2.2 z hz).1⟩
def kst (G : Gl) (U : State) : Prop := va_K G.2.1 vwCl [] U ∧ (∀ k, 20 ≤ k → k < 37 → ArrOfT U (G.2.2.1 k) (zty k)) ∧ G.1 ≤ U.heap.size ∧ vx_Zq Bundle.tN "UNASSIGNED_STACK" Bundle.steD (fun q => G.1 ≤ q) U U.heap ∧ vx_Zq Bundle.tN "SUPPRESSED_SENTINEL" Bundle.listD (fun q => G.1 ≤ q) U U.heap ∧ (∀ own k tx, Cond.stringRef own k tx ∈ lw_tbl → ∃ a, vk_R own k tx a U) ∧ (∀ w ∈ lw_tbl, zNw w = true → va_Nw w U) ∧ ∀ q ∈ zNc, va_Nc q.1 q.2 U
theorem kst.at {G : Gl} {s U : State} {H : Heap} {locs : List Loc} (h : kst G s) (hW : s.WarmedH U.vm) (hU : U.heap = H) (hS : va_S (AA G) s.heap H locs) : kst G U := by
  obtain ⟨h1, h2, h3, h4, h5, h6, h7, h8⟩ := h
  subst hU
  refine ⟨va_K.moved hW.alike h1, fun k a b => arrOfT_moved hW.alike (h2 k a b), Nat.le_trans h3 hS.1, (vx_Zq.moved hW.alike h4).kept (fun a x y => hS.2.1 a x (fun z => y z.1)), (vx_Zq.moved hW.alike h5).kept (fun a x y => hS.2.1 a x (fun z => y z.1)), fun own k tx hm => ?_, fun w hw hn => zNw_moved hW hn (h7 w hw hn), fun q hq => (h8 q hq).moved hW.alike⟩
  obtain ⟨a, ha⟩ := h6 own k tx hm
  exact ⟨a, ha.warm hW⟩
theorem kst.calling {G : Gl} {U : State} {g : JFrame} {mk : MethodId} {a : Array Value} (h : kst G U) : kst G (U.calling g mk a) := by
  obtain ⟨h1, h2, h3, h4, h5, h6, h7, h8⟩ := h
  refine ⟨va_K.moved (u := U) (Vm.Alike.refl U.vm) h1, fun k x y => arrOfT_moved (u := U) (Vm.Alike.refl U.vm) (h2 k x y), h3, vx_Zq.moved (u := U) (Vm.Alike.refl U.vm) h4, vx_Zq.moved (u := U) (Vm.Alike.refl U.vm) h5, fun own k tx hm => ?_, fun w hw hn => zNw_same (s := U) rfl hn (h7 w hw hn), fun q hq => va_Nc.moved (u := U) (Vm.Alike.refl U.vm) (h8 q hq)⟩
  obtain ⟨x, hx⟩ := h6 own k tx hm
  exact ⟨x, vk_R.same (u := U) rfl hx⟩
def Cx (G : Gl) (Y : MD) (p : Program) (l : Launch) (s : State) (m : MethodId) (args : Array Value) (meth : Method) (c : Code) : Prop :=
  p.tables.exec = Jvm.exec ∧ c.code = Y.2.1 ∧ meth.sig.returnType = Y.2.2.2.1 ∧ c.maxLocals = Y.2.2.1 ∧ s.vm.findClass Y.1.cls = some m.cls ∧ meth.locks = false ∧ (∀ w ∈ GW, w.before args s = true) ∧ kst G s ∧ l.stackTraces = false ∧ c.exceptionTable.toList = tableOf Y.2.2.2.2.2
def V (G : Gl) (Y : MD) (R : Room) (Qf : List Frame → Array Value → State → State → Prop) (pc : Nat) (L : List (Nat × Value)) (st : List Value) (μ : St) (cells slots : Nat) : Prop :=
  ∀ (p : Program) (l : Launch) (e : Env) (s : State) (m : MethodId) (args : Array Value) (below : List Frame) (meth : Method) (c : Code), Cx G Y p l s m args meth c → ∀ (H : Heap) (locs : List Loc) (ls : Array Slot), Wd G μ H → va_S (AA G) s.heap H locs → lv_has ls Y.2.2.1 L → W p l e R s m args below meth c H locs cells slots (Qf below args s) (F0 m pc ls st)
def lget : List (Nat × Value) → Nat → Option Value
  | [], _ => none
  | (j, v) :: t, k => match Nat.beq j k with
    | true => some v
    | false => lget t k
theorem lget_mem {L : List (Nat × Value)} {k : Nat} {v : Value} (h : lget L k = some v) : (k, v) ∈ L := by
  induction L with
  | nil => cases h
  | cons q t ih =>
    obtain ⟨j, w⟩ := q
    unfold lget at h
    split at h
    next e =>
      have e1 : j = k := Nat.eq_of_beq_eq_true e
      cases h
      rw [e1]
      exact List.mem_cons_self
    next e => exact List.mem_cons_of_mem _ (ih h)
theorem lv_lget {ls : Array Slot} {nL : Nat} {L : List (Nat × Value)} (h : lv_has ls nL L) {k : Nat} {v : Value} (hk : lget L k = some v) : ls[k]? = some (.val v) := h.2.2 (k, v) (lget_mem hk)
def lins : List (Nat × Value) → Nat → Value → List (Nat × Value)
  | [], k, v => [(k, v)]
  | (j, x) :: t, k, v => match Nat.blt j k with
    | true => (j, x) :: lins t k v
    | false => (k, v) :: (j, x) :: t
theorem lins_mem {L : List (Nat × Value)} {k : Nat} {v : Value} {q : Nat × Value} (h : q ∈ lins L k v) : q ∈ (k, v) :: L := by
  induction L with
  | nil => exact h
  | cons x t ih =>
    obtain ⟨j, y⟩ := x
    unfold lins at h
    split at h
    next e =>
      rcases List.mem_cons.mp h with h1 | h1
      · rw [h1]
        exact List.mem_cons_of_mem _ List.mem_cons_self
      · rcases List.mem_cons.mp (ih h1) with h2 | h2
        · rw [h2]
          exact List.mem_cons_self
        · exact List.mem_cons_of_mem _ (List.mem_cons_of_mem _ h2)
    next e => exact h
/-- the locals behind a store: in the order of their numbers -/
def lset (L : List (Nat × Value)) (k : Nat) (v : Value) : List (Nat × Value) := lins (L.filter (fun q => !(q.1 == k) && !(q.1 + 1 == k && q.2.category == 2))) k v
theorem lv_lset {ls : Array Slot} {nL : Nat} {L : List (Nat × Value)} {k : Nat} {v : Value} (h : lv_has ls nL ((k, v) :: L.filter (fun q => !(q.1 == k) && !(q.1 + 1 == k && q.2.category == 2)))) : lv_has ls nL (lset L k v) := ⟨h.1, h.2.1, fun q hq => h.2.2 q (lins_mem hq)⟩
def lsetD (L : List (Nat × Value)) (k : Nat) (v : Value) : List (Nat × Value) := lins (L.filter (fun q => !(q.1 == k) && (!(q.1 == k + 1) && !(q.1 + 1 == k && q.2.category == 2)))) k v
theorem lv_lsetD {ls : Array Slot} {nL : Nat} {L : List (Nat × Value)} {k : Nat} {v : Value} (h : lv_has ls nL ((k, v) :: L.filter (fun q => !(q.1 == k) && (!(q.1 == k + 1) && !(q.1 + 1 == k && q.2.category == 2))))) : lv_has ls nL (lsetD L k v) := ⟨h.1, h.2.1, fun q hq => h.2.2 q (lins_mem hq)⟩
theorem lv_less {ls : Array Slot} {nL : Nat} {L L' : List (Nat × Value)} (h : lv_has ls nL L) (hL : ∀ q ∈ L', q ∈ L) : lv_has ls nL L' := ⟨h.1, h.2.1, fun q hq => h.2.2 q (hL q hq)⟩
section VRows
variable {G : Gl} {Y : MD} {R : Room} {Qf : List Frame → Array Value → State → State → Prop} {pc n : Nat} {L L' : List (Nat × Value)} {st : List Value} {μ : St} {cells slots : Nat}
theorem v_iconst {q : Int} {x : Int32} (hd : decode Y.2.1 pc = .ok (.iconst q, 1)) (hn : pc + 1 = n) (hx : Int32.ofInt q = x) (kk : V G Y R Qf n L (.int x :: st) μ cells slots) : V G Y R Qf pc L (st) μ cells slots := by
  subst hn; intro p l e s m args below meth c C H locs ls hW hS hl
  exact lv_iconst C.1 C.2.1 hd hx (kk p l e s m args below meth c C H locs ls hW hS hl)
theorem v_bipush {q : Int} {x : Int32} (hd : decode Y.2.1 pc = .ok (.bipush q, 2)) (hn : pc + 2 = n) (hx : (Int8.ofInt q).toInt32 = x) (kk : V G Y R Qf n L (.int x :: st) μ cells slots) : V G Y R Qf pc L (st) μ cells slots := by
  subst hn; intro p l e s m args below meth c C H locs ls hW hS hl
  exact lv_bipush C.1 C.2.1 hd hx (kk p l e s m args below meth c C H locs ls hW hS hl)
theorem v_sipush {q : Int} {x : Int32} (hd : decode Y.2.1 pc = .ok (.sipush q, 3)) (hn : pc + 3 = n) (hx : (Int16.ofInt q).toInt32 = x) (kk : V G Y R Qf n L (.int x :: st) μ cells slots) : V G Y R Qf pc L (st) μ cells slots := by
  subst hn; intro p l e s m args below meth c C H locs ls hW hS hl
  exact lv_sipush C.1 C.2.1 hd hx (kk p l e s m args below meth c C H locs ls hW hS hl)
theorem v_iload_n {k : Fin 4} {x : Int32} (hd : decode Y.2.1 pc = .ok (.iload_n k, 1)) (hn : pc + 1 = n) (hg : lget L k = some (.int x)) (kk : V G Y R Qf n L (.int x :: st) μ cells slots) : V G Y R Qf pc L (st) μ cells slots := by
  subst hn; intro p l e s m args below meth c C H locs ls hW hS hl
  exact lv_iload_n C.1 C.2.1 hd rfl (lv_lget hl hg) (kk p l e s m args below meth c C H locs ls hW hS hl)
theorem v_iload {k : Nat} {x : Int32} (hd : decode Y.2.1 pc = .ok (.iload k, 2)) (hn : pc + 2 = n) (hg : lget L k = some (.int x)) (kk : V G Y R Qf n L (.int x :: st) μ cells slots) : V G Y R Qf pc L (st) μ cells slots := by
  subst hn; intro p l e s m args below meth c C H locs ls hW hS hl
  exact lv_iload C.1 C.2.1 hd (lv_lget hl hg) (kk p l e s m args below meth c C H locs ls hW hS hl)
theorem v_aload_n {k : Fin 4} {x : Nat} (hd : decode Y.2.1 pc = .ok (.aload_n k, 1)) (hn : pc + 1 = n) (hg : lget L k = some (.ref x)) (kk : V G Y R Qf n L (.ref x :: st) μ cells slots) : V G Y R Qf pc L (st) μ cells slots := by
  subst hn; intro p l e s m args below meth c C H locs ls hW hS hl
  exact lv_aload_n C.1 C.2.1 hd rfl (lv_lget hl hg) (kk p l e s m args below meth c C H locs ls hW hS hl)
theorem v_aload {k : Nat} {x : Nat} (hd : decode Y.2.1 pc = .ok (.aload k, 2)) (hn : pc + 2 = n) (hg : lget L k = some (.ref x)) (kk : V G Y R Qf n L (.ref x :: st) μ cells slots) : V G Y R Qf pc L (st) μ cells slots := by
  subst hn; intro p l e s m args below meth c C H locs ls hW hS hl
  exact lv_aload C.1 C.2.1 hd (lv_lget hl hg) (kk p l e s m args below meth c C H locs ls hW hS hl)
theorem v_aload_nN {k : Fin 4} (hd : decode Y.2.1 pc = .ok (.aload_n k, 1)) (hn : pc + 1 = n) (hg : lget L k = some .null) (kk : V G Y R Qf n L (.null :: st) μ cells slots) : V G Y R Qf pc L (st) μ cells slots := by
  subst hn; intro p l e s m args below meth c C H locs ls hW hS hl
  exact lv_aload_nN C.1 C.2.1 hd rfl (lv_lget hl hg) (kk p l e s m args below meth c C H locs ls hW hS hl)
theorem v_aloadN {k : Nat} (hd : decode Y.2.1 pc = .ok (.aload k, 2)) (hn : pc + 2 = n) (hg : lget L k = some .null) (kk : V G Y R Qf n L (.null :: st) μ cells slots) : V G Y R Qf pc L (st) μ cells slots := by
  subst hn; intro p l e s m args below meth c C H locs ls hW hS hl
  exact lv_aloadN C.1 C.2.1 hd (lv_lget hl hg) (kk p l e s m args below meth c C H locs ls hW hS hl)
theorem v_dload {k : Nat} {x : UInt64} (hd : decode Y.2.1 pc = .ok (.dload k, 2)) (hn : pc + 2 = n) (hg : lget L k = some (.double x)) (kk : V G Y R Qf n L (.double x :: st) μ cells slots) : V G Y R Qf pc L (st) μ cells slots := by
  subst hn; intro p l e s m args below meth c C H locs ls hW hS hl
  exact lv_dload C.1 C.2.1 hd (lv_lget hl hg) (kk p l e s m args below meth c C H locs ls hW hS hl)
theorem v_null (hd : decode Y.2.1 pc = .ok (.aconst_null, 1)) (hn : pc + 1 = n) (kk : V G Y R Qf n L (.null :: st) μ cells slots) : V G Y R Qf pc L (st) μ cells slots := by
  subst hn; intro p l e s m args below meth c C H locs ls hW hS hl
  exact lv_null C.1 C.2.1 hd (kk p l e s m args below meth c C H locs ls hW hS hl)
theorem v_istore_n {k : Fin 4} {x : Int32} (hd : decode Y.2.1 pc = .ok (.istore_n k, 1)) (hn : pc + 1 = n) (hk : k < Y.2.2.1) (hL : lset L k (.int x) = L') (kk : V G Y R Qf n L' (st) μ cells slots) : V G Y R Qf pc L (.int x :: st) μ cells slots := by
  subst hn; subst hL; intro p l e s m args below meth c C H locs ls hW hS hl
  exact lv_istore_n C.1 C.2.1 hd rfl hl hk rfl (fun ls hl => kk p l e s m args below meth c C H locs ls hW hS (lv_lset hl))
theorem v_istore {k : Nat} {x : Int32} (hd : decode Y.2.1 pc = .ok (.istore k, 2)) (hn : pc + 2 = n) (hk : k < Y.2.2.1) (hL : lset L k (.int x) = L') (kk : V G Y R Qf n L' (st) μ cells slots) : V G Y R Qf pc L (.int x :: st) μ cells slots := by
  subst hn; subst hL; intro p l e s m args below meth c C H locs ls hW hS hl
  exact lv_istore C.1 C.2.1 hd hl hk rfl (fun ls hl => kk p l e s m args below meth c C H locs ls hW hS (lv_lset hl))
theorem v_astore_n {k : Fin 4} {x : Nat} (hd : decode Y.2.1 pc = .ok (.astore_n k, 1)) (hn : pc + 1 = n) (hk : k < Y.2.2.1) (hL : lset L k (.ref x) = L') (kk : V G Y R Qf n L' (st) μ cells slots) : V G Y R Qf pc L (.ref x :: st) μ cells slots := by
  subst hn; subst hL; intro p l e s m args below meth c C H locs ls hW hS hl
  exact lv_astore_n C.1 C.2.1 hd rfl hl hk rfl (fun ls hl => kk p l e s m args below meth c C H locs ls hW hS (lv_lset hl))
theorem v_astore {k : Nat} {x : Nat} (hd : decode Y.2.1 pc = .ok (.astore k, 2)) (hn : pc + 2 = n) (hk : k < Y.2.2.1) (hL : lset L k (.ref x) = L') (kk : V G Y R Qf n L' (st) μ cells slots) : V G Y R Qf pc L (.ref x :: st) μ cells slots := by
  subst hn; subst hL; intro p l e s m args below meth c C H locs ls hW hS hl
  exact lv_astore C.1 C.2.1 hd hl hk rfl (fun ls hl => kk p l e s m args below meth c C H locs ls hW hS (lv_lset hl))
theorem v_astore_nN {k : Fin 4} (hd : decode Y.2.1 pc = .ok (.astore_n k, 1)) (hn : pc + 1 = n) (hk : k < Y.2.2.1) (hL : lset L k (.null) = L') (kk : V G Y R Qf n L' (st) μ cells slots) : V G Y R Qf pc L (.null :: st) μ cells slots := by
  subst hn; subst hL; intro p l e s m args below meth c C H locs ls hW hS hl
  exact lv_astore_nN C.1 C.2.1 hd rfl hl hk rfl (fun ls hl => kk p l e s m args below meth c C H locs ls hW hS (lv_lset hl))
theorem v_astoreN {k : Nat} (hd : decode Y.2.1 pc = .ok (.astore k, 2)) (hn : pc + 2 = n) (hk : k < Y.2.2.1) (hL : lset L k (.null) = L') (kk : V G Y R Qf n L' (st) μ cells slots) : V G Y R Qf pc L (.null :: st) μ cells slots := by
  subst hn; subst hL; intro p l e s m args below meth c C H locs ls hW hS hl
  exact lv_astoreN C.1 C.2.1 hd hl hk rfl (fun ls hl => kk p l e s m args below meth c C H locs ls hW hS (lv_lset hl))
theorem v_dstore {k : Nat} {x : UInt64} (hd : decode Y.2.1 pc = .ok (.dstore k, 2)) (hn : pc + 2 = n) (hk : k + 1 < Y.2.2.1) (hL : lsetD L k (.double x) = L') (kk : V G Y R Qf n L' (st) μ cells slots) : V G Y R Qf pc L (.double x :: st) μ cells slots := by
  subst hn; subst hL; intro p l e s m args below meth c C H locs ls hW hS hl
  exact lv_dstore C.1 C.2.1 hd hl hk rfl (fun ls hl => kk p l e s m args below meth c C H locs ls hW hS (lv_lsetD hl))
theorem v_iinc {k : Nat} {q : Int} {x y : Int32} (hd : decode Y.2.1 pc = .ok (.iinc k q, 3)) (hn : pc + 3 = n) (hg : lget L k = some (.int x)) (hy : x + Int32.ofInt q = y) (hk : k < Y.2.2.1) (hL : lset L k (.int y) = L') (kk : V G Y R Qf n L' (st) μ cells slots) : V G Y R Qf pc L (st) μ cells slots := by
  subst hn; subst hL; intro p l e s m args below meth c C H locs ls hW hS hl
  obtain ⟨j, hj⟩ := List.getElem?_of_mem (lget_mem hg)
  exact lv_iinc C.1 C.2.1 hd hl hj hy hk rfl (fun ls hl => kk p l e s m args below meth c C H locs ls hW hS (lv_lset hl))
theorem v_iadd {x y : Int32} (hd : decode Y.2.1 pc = .ok (.iadd, 1)) (hn : pc + 1 = n) (kk : V G Y R Qf n L (.int (x + y) :: st) μ cells slots) : V G Y R Qf pc L (.int y :: .int x :: st) μ cells slots := by
  subst hn; intro p l e s m args below meth c C H locs ls hW hS hl
  exact lv_iadd C.1 C.2.1 hd (kk p l e s m args below meth c C H locs ls hW hS hl)
theorem v_isub {x y : Int32} (hd : decode Y.2.1 pc = .ok (.isub, 1)) (hn : pc + 1 = n) (kk : V G Y R Qf n L (.int (x - y) :: st) μ cells slots) : V G Y R Qf pc L (.int y :: .int x :: st) μ cells slots := by
  subst hn; intro p l e s m args below meth c C H locs ls hW hS hl
  exact lv_isub C.1 C.2.1 hd (kk p l e s m args below meth c C H locs ls hW hS hl)
theorem v_imul {x y : Int32} (hd : decode Y.2.1 pc = .ok (.imul, 1)) (hn : pc + 1 = n) (kk : V G Y R Qf n L (.int (x * y) :: st) μ cells slots) : V G Y R Qf pc L (.int y :: .int x :: st) μ cells slots := by
  subst hn; intro p l e s m args below meth c C H locs ls hW hS hl
  exact lv_imul C.1 C.2.1 hd (kk p l e s m args below meth c C H locs ls hW hS hl)
theorem v_iand {x y : Int32} (hd : decode Y.2.1 pc = .ok (.iand, 1)) (hn : pc + 1 = n) (kk : V G Y R Qf n L (.int (x &&& y) :: st) μ cells slots) : V G Y R Qf pc L (.int y :: .int x :: st) μ cells slots := by
  subst hn; intro p l e s m args below meth c C H locs ls hW hS hl
  exact lv_iand C.1 C.2.1 hd (kk p l e s m args below meth c C H locs ls hW hS hl)
theorem v_ior {x y : Int32} (hd : decode Y.2.1 pc = .ok (.ior, 1)) (hn : pc + 1 = n) (kk : V G Y R Qf n L (.int (x ||| y) :: st) μ cells slots) : V G Y R Qf pc L (.int y :: .int x :: st) μ cells slots := by
  subst hn; intro p l e s m args below meth c C H locs ls hW hS hl
  exact lv_ior C.1 C.2.1 hd (kk p l e s m args below meth c C H locs ls hW hS hl)
theorem v_ixor {x y : Int32} (hd : decode Y.2.1 pc = .ok (.ixor, 1)) (hn : pc + 1 = n) (kk : V G Y R Qf n L (.int (x ^^^ y) :: st) μ cells slots) : V G Y R Qf pc L (.int y :: .int x :: st) μ cells slots := by
  subst hn; intro p l e s m args below meth c C H locs ls hW hS hl
  exact lv_ixor C.1 C.2.1 hd (kk p l e s m args below meth c C H locs ls hW hS hl)
theorem v_ishl {x y : Int32} (hd : decode Y.2.1 pc = .ok (.ishl, 1)) (hn : pc + 1 = n) (kk : V G Y R Qf n L (.int (x <<< (y &&& 31)) :: st) μ cells slots) : V G Y R Qf pc L (.int y :: .int x :: st) μ cells slots := by
  subst hn; intro p l e s m args below meth c C H locs ls hW hS hl
  exact lv_ishl C.1 C.2.1 hd (kk p l e s m args below meth c C H locs ls hW hS hl)
theorem v_ishr {x y : Int32} (hd : decode Y.2.1 pc = .ok (.ishr, 1)) (hn : pc + 1 = n) (kk : V G Y R Qf n L (.int (x >>> (y &&& 31)) :: st) μ cells slots) : V G Y R Qf pc L (.int y :: .int x :: st) μ cells slots := by
  subst hn; intro p l e s m args below meth c C H locs ls hW hS hl
  exact lv_ishr C.1 C.2.1 hd (kk p l e s m args below meth c C H locs ls hW hS hl)
theorem v_idiv {x y : Int32} (hd : decode Y.2.1 pc = .ok (.idiv, 1)) (hn : pc + 1 = n) (hne : ¬ y = 0) (kk : V G Y R Qf n L (.int (x / y) :: st) μ cells slots) : V G Y R Qf pc L (.int y :: .int x :: st) μ cells slots := by
  subst hn; intro p l e s m args below meth c C H locs ls hW hS hl
  exact lv_idiv C.1 C.2.1 hd hne (kk p l e s m args below meth c C H locs ls hW hS hl)
theorem v_irem {x y : Int32} (hd : decode Y.2.1 pc = .ok (.irem, 1)) (hn : pc + 1 = n) (hne : ¬ y = 0) (kk : V G Y R Qf n L (.int (x - x / y * y) :: st) μ cells slots) : V G Y R Qf pc L (.int y :: .int x :: st) μ cells slots := by
  subst hn; intro p l e s m args below meth c C H locs ls hW hS hl
  exact lv_irem C.1 C.2.1 hd hne (kk p l e s m args below meth c C H locs ls hW hS hl)
theorem v_ineg {x : Int32} (hd : decode Y.2.1 pc = .ok (.ineg, 1)) (hn : pc + 1 = n) (kk : V G Y R Qf n L (.int (-x) :: st) μ cells slots) : V G Y R Qf pc L (.int x :: st) μ cells slots := by
  subst hn; intro p l e s m args below meth c C H locs ls hW hS hl
  exact lv_ineg C.1 C.2.1 hd (kk p l e s m args below meth c C H locs ls hW hS hl)
theorem v_i2l {x : Int32} (hd : decode Y.2.1 pc = .ok (.i2l, 1)) (hn : pc + 1 = n) (kk : V G Y R Qf n L (.long x.toInt64 :: st) μ cells slots) : V G Y R Qf pc L (.int x :: st) μ cells slots := by
  subst hn; intro p l e s m args below meth c C H locs ls hW hS hl
  exact lv_i2l C.1 C.2.1 hd rfl (kk p l e s m args below meth c C H locs ls hW hS hl)
theorem v_i2d {x : Int32} (hd : decode Y.2.1 pc = .ok (.i2d, 1)) (hn : pc + 1 = n) (kk : V G Y R Qf n L (.double (FP.i2d x) :: st) μ cells slots) : V G Y R Qf pc L (.int x :: st) μ cells slots := by
  subst hn; intro p l e s m args below meth c C H locs ls hW hS hl
  exact lv_i2d C.1 C.2.1 hd (kk p l e s m args below meth c C H locs ls hW hS hl)
theorem v_i2c {x : Int32} (hd : decode Y.2.1 pc = .ok (.i2c, 1)) (hn : pc + 1 = n) (kk : V G Y R Qf n L (.int (x.toUInt32 % 65536).toInt32 :: st) μ cells slots) : V G Y R Qf pc L (.int x :: st) μ cells slots := by
  subst hn; intro p l e s m args below meth c C H locs ls hW hS hl
  exact lv_i2c C.1 C.2.1 hd rfl (kk p l e s m args below meth c C H locs ls hW hS hl)
theorem v_ddiv {x y : UInt64} (hd : decode Y.2.1 pc = .ok (.ddiv, 1)) (hn : pc + 1 = n) (hne : vf_n64 (FP.ddiv x y)) (kk : V G Y R Qf n L (.double (FP.ddiv x y) :: st) μ cells slots) : V G Y R Qf pc L (.double y :: .double x :: st) μ cells slots := by
  subst hn; intro p l e s m args below meth c C H locs ls hW hS hl
  exact lv_ddiv C.1 C.2.1 hd hne (kk p l e s m args below meth c C H locs ls hW hS hl)
theorem v_dcmp {x y : UInt64} {op : CmpOp} (hd : decode Y.2.1 pc = .ok (.dcmp op, 1)) (hn : pc + 1 = n) (kk : V G Y R Qf n L (.int (Op.cmpValue (FP.dcmp x y) op) :: st) μ cells slots) : V G Y R Qf pc L (.double y :: .double x :: st) μ cells slots := by
  subst hn; intro p l e s m args below meth c C H locs ls hW hS hl
  exact lv_dcmp C.1 C.2.1 hd (kk p l e s m args below meth c C H locs ls hW hS hl)
theorem v_dconst0 (hd : decode Y.2.1 pc = .ok (.dconst 0, 1)) (hn : pc + 1 = n) (kk : V G Y R Qf n L (.double FP.dconst0 :: st) μ cells slots) : V G Y R Qf pc L (st) μ cells slots := by
  subst hn; intro p l e s m args below meth c C H locs ls hW hS hl
  exact lv_dconst0 C.1 C.2.1 hd (kk p l e s m args below meth c C H locs ls hW hS hl)
theorem v_lcmp {x y : Int64} (hd : decode Y.2.1 pc = .ok (.lcmp, 1)) (hn : pc + 1 = n) (kk : V G Y R Qf n L (.int (lg_cmp x y) :: st) μ cells slots) : V G Y R Qf pc L (.long y :: .long x :: st) μ cells slots := by
  subst hn; intro p l e s m args below meth c C H locs ls hW hS hl
  exact W.lcmp C.1 C.2.1 hd (kk p l e s m args below meth c C H locs ls hW hS hl)
theorem v_dup {x : Value} (hd : decode Y.2.1 pc = .ok (.dup, 1)) (hn : pc + 1 = n) (h1 : x.category = 1) (kk : V G Y R Qf n L (x :: x :: st) μ cells slots) : V G Y R Qf pc L (x :: st) μ cells slots := by
  subst hn; intro p l e s m args below meth c C H locs ls hW hS hl
  exact lv_dup C.1 C.2.1 hd h1 (kk p l e s m args below meth c C H locs ls hW hS hl)
theorem v_dup2 {x y : Value} (hd : decode Y.2.1 pc = .ok (.dup2, 1)) (hn : pc + 1 = n) (h1 : x.category = 1) (h2 : y.category = 1) (kk : V G Y R Qf n L (x :: y :: x :: y :: st) μ cells slots) : V G Y R Qf pc L (x :: y :: st) μ cells slots := by
  subst hn; intro p l e s m args below meth c C H locs ls hW hS hl
  exact lv_dup2_11 C.1 C.2.1 hd h1 h2 (kk p l e s m args below meth c C H locs ls hW hS hl)
theorem v_pop {x : Value} (hd : decode Y.2.1 pc = .ok (.pop, 1)) (hn : pc + 1 = n) (h1 : x.category = 1) (kk : V G Y R Qf n L (st) μ cells slots) : V G Y R Qf pc L (x :: st) μ cells slots := by
  subst hn; intro p l e s m args below meth c C H locs ls hW hS hl
  exact lv_pop C.1 C.2.1 hd h1 (kk p l e s m args below meth c C H locs ls hW hS hl)
theorem v_goto {off : Int} (hd : decode Y.2.1 pc = .ok (.goto off, 3)) (ht : (pc : Int) + off = (n : Int)) (kk : V G Y R Qf n L (st) μ cells slots) : V G Y R Qf pc L (st) μ cells slots := by
  intro p l e s m args below meth c C H locs ls hW hS hl
  exact lv_goto C.1 C.2.1 hd ht (kk p l e s m args below meth c C H locs ls hW hS hl)
theorem v_icmp_ge {x y : Int32} {off : Int} {t : Nat} (hd : decode Y.2.1 pc = .ok (.if_icmp .ge off, 3)) (hn : pc + 3 = n) (ht : (pc : Int) + off = (t : Int)) (kt : y ≤ x → V G Y R Qf t L (st) μ cells slots) (kf : ¬ y ≤ x → V G Y R Qf n L (st) μ cells slots) : V G Y R Qf pc L (.int y :: .int x :: st) μ cells slots := by
  subst hn; intro p l e s m args below meth c C H locs ls hW hS hl
  exact lv_icmp_ge C.1 C.2.1 hd ht (fun h => kt h p l e s m args below meth c C H locs ls hW hS hl) (fun h => kf h p l e s m args below meth c C H locs ls hW hS hl)
theorem v_icmp_lt {x y : Int32} {off : Int} {t : Nat} (hd : decode Y.2.1 pc = .ok (.if_icmp .lt off, 3)) (hn : pc + 3 = n) (ht : (pc : Int) + off = (t : Int)) (kt : x < y → V G Y R Qf t L (st) μ cells slots) (kf : ¬ x < y → V G Y R Qf n L (st) μ cells slots) : V G Y R Qf pc L (.int y :: .int x :: st) μ cells slots := by
  subst hn; intro p l e s m args below meth c C H locs ls hW hS hl
  exact lv_icmp_lt C.1 C.2.1 hd ht (fun h => kt h p l e s m args below meth c C H locs ls hW hS hl) (fun h => kf h p l e s m args below meth c C H locs ls hW hS hl)
theorem v_icmp_le {x y : Int32} {off : Int} {t : Nat} (hd : decode Y.2.1 pc = .ok (.if_icmp .le off, 3)) (hn : pc + 3 = n) (ht : (pc : Int) + off = (t : Int)) (kt : x ≤ y → V G Y R Qf t L (st) μ cells slots) (kf : ¬ x ≤ y → V G Y R Qf n L (st) μ cells slots) : V G Y R Qf pc L (.int y :: .int x :: st) μ cells slots := by
  subst hn; intro p l e s m args below meth c C H locs ls hW hS hl
  exact lv_icmp_le C.1 C.2.1 hd ht (fun h => kt h p l e s m args below meth c C H locs ls hW hS hl) (fun h => kf h p l e s m args below meth c C H locs ls hW hS hl)
theorem v_icmp_gt {x y : Int32} {off : Int} {t : Nat} (hd : decode Y.2.1 pc = .ok (.if_icmp .gt off, 3)) (hn : pc + 3 = n) (ht : (pc : Int) + off = (t : Int)) (kt : y < x → V G Y R Qf t L (st) μ cells slots) (kf : ¬ y < x → V G Y R Qf n L (st) μ cells slots) : V G Y R Qf pc L (.int y :: .int x :: st) μ cells slots := by
  subst hn; intro p l e s m args below meth c C H locs ls hW hS hl
  exact lv_icmp_gt C.1 C.2.1 hd ht (fun h => kt h p l e s m args below meth c C H locs ls hW hS hl) (fun h => kf h p l e s m args below meth c C H locs ls hW hS hl)
theorem v_icmp_eq {x y : Int32} {off : Int} {t : Nat} (hd : decode Y.2.1 pc = .ok (.if_icmp .eq off, 3)) (hn : pc + 3 = n) (ht : (pc : Int) + off = (t : Int)) (kt : x = y → V G Y R Qf t L (st) μ cells slots) (kf : ¬ x = y → V G Y R Qf n L (st) μ cells slots) : V G Y R Qf pc L (.int y :: .int x :: st) μ cells slots := by
  subst hn; intro p l e s m args below meth c C H locs ls hW hS hl
  exact lv_icmp_eq C.1 C.2.1 hd ht (fun h => kt h p l e s m args below meth c C H locs ls hW hS hl) (fun h => kf h p l e s m args below meth c C H locs ls hW hS hl)
theorem v_icmp_ne {x y : Int32} {off : Int} {t : Nat} (hd : decode Y.2.1 pc = .ok (.if_icmp .ne off, 3)) (hn : pc + 3 = n) (ht : (pc : Int) + off = (t : Int)) (kt : ¬ x = y → V G Y R Qf t L (st) μ cells slots) (kf : x = y → V G Y R Qf n L (st) μ cells slots) : V G Y R Qf pc L (.int y :: .int x :: st) μ cells slots := by
  subst hn; intro p l e s m args below meth c C H locs ls hW hS hl
  exact lv_icmp_ne C.1 C.2.1 hd ht (fun h => kt h p l e s m args below meth c C H locs ls hW hS hl) (fun h => kf h p l e s m args below meth c C H locs ls hW hS hl)
theorem v_if_ge {x : Int32} {off : Int} {t : Nat} (hd : decode Y.2.1 pc = .ok (.ifCond .ge off, 3)) (hn : pc + 3 = n) (ht : (pc : Int) + off = (t : Int)) (kt : 0 ≤ x → V G Y R Qf t L (st) μ cells slots) (kf : ¬ 0 ≤ x → V G Y R Qf n L (st) μ cells slots) : V G Y R Qf pc L (.int x :: st) μ cells slots := by
  subst hn; intro p l e s m args below meth c C H locs ls hW hS hl
  exact lv_if_ge C.1 C.2.1 hd ht (fun h => kt h p l e s m args below meth c C H locs ls hW hS hl) (fun h => kf h p l e s m args below meth c C H locs ls hW hS hl)
theorem v_if_lt {x : Int32} {off : Int} {t : Nat} (hd : decode Y.2.1 pc = .ok (.ifCond .lt off, 3)) (hn : pc + 3 = n) (ht : (pc : Int) + off = (t : Int)) (kt : x < 0 → V G Y R Qf t L (st) μ cells slots) (kf : ¬ x < 0 → V G Y R Qf n L (st) μ cells slots) : V G Y R Qf pc L (.int x :: st) μ cells slots := by
  subst hn; intro p l e s m args below meth c C H locs ls hW hS hl
  exact lv_if_lt C.1 C.2.1 hd ht (fun h => kt h p l e s m args below meth c C H locs ls hW hS hl) (fun h => kf h p l e s m args below meth c C H locs ls hW hS hl)
theorem v_if_le {x : Int32} {off : Int} {t : Nat} (hd : decode Y.2.1 pc = .ok (.ifCond .le off, 3)) (hn : pc + 3 = n) (ht : (pc : Int) + off = (t : Int)) (kt : x ≤ 0 → V G Y R Qf t L (st) μ cells slots) (kf : ¬ x ≤ 0 → V G Y R Qf n L (st) μ cells slots) : V G Y R Qf pc L (.int x :: st) μ cells slots := by
  subst hn; intro p l e s m args below meth c C H locs ls hW hS hl
  exact lv_if_le C.1 C.2.1 hd ht (fun h => kt h p l e s m args below meth c C H locs ls hW hS hl) (fun h => kf h p l e s m args below meth c C H locs ls hW hS hl)
theorem v_if_gt {x : Int32} {off : Int} {t : Nat} (hd : decode Y.2.1 pc = .ok (.ifCond .gt off, 3)) (hn : pc + 3 = n) (ht : (pc : Int) + off = (t : Int)) (kt : 0 < x → V G Y R Qf t L (st) μ cells slots) (kf : ¬ 0 < x → V G Y R Qf n L (st) μ cells slots) : V G Y R Qf pc L (.int x :: st) μ cells slots := by
  subst hn; intro p l e s m args below meth c C H locs ls hW hS hl
  exact lv_if_gt C.1 C.2.1 hd ht (fun h => kt h p l e s m args below meth c C H locs ls hW hS hl) (fun h => kf h p l e s m args below meth c C H locs ls hW hS hl)
theorem v_if_eq {x : Int32} {off : Int} {t : Nat} (hd : decode Y.2.1 pc = .ok (.ifCond .eq off, 3)) (hn : pc + 3 = n) (ht : (pc : Int) + off = (t : Int)) (kt : x = 0 → V G Y R Qf t L (st) μ cells slots) (kf : ¬ x = 0 → V G Y R Qf n L (st) μ cells slots) : V G Y R Qf pc L (.int x :: st) μ cells slots := by
  subst hn; intro p l e s m args below meth c C H locs ls hW hS hl
  exact lv_if_eq C.1 C.2.1 hd ht (fun h => kt h p l e s m args below meth c C H locs ls hW hS hl) (fun h => kf h p l e s m args below meth c C H locs ls hW hS hl)
theorem v_if_ne {x : Int32} {off : Int} {t : Nat} (hd : decode Y.2.1 pc = .ok (.ifCond .ne off, 3)) (hn : pc + 3 = n) (ht : (pc : Int) + off = (t : Int)) (kt : ¬ x = 0 → V G Y R Qf t L (st) μ cells slots) (kf : x = 0 → V G Y R Qf n L (st) μ cells slots) : V G Y R Qf pc L (.int x :: st) μ cells slots := by
  subst hn; intro p l e s m args below meth c C H locs ls hW hS hl
  exact lv_if_ne C.1 C.2.1 hd ht (fun h => kt h p l e s m args below meth c C H locs ls hW hS hl) (fun h => kf h p l e s m args below meth c C H locs ls hW hS hl)
theorem v_ifnonnull {x : Nat} {off : Int} (hd : decode Y.2.1 pc = .ok (.ifnonnull off, 3)) (ht : (pc : Int) + off = (n : Int)) (kk : V G Y R Qf n L (st) μ cells slots) : V G Y R Qf pc L (.ref x :: st) μ cells slots := by
  intro p l e s m args below meth c C H locs ls hW hS hl
  exact lv_ifnonnull C.1 C.2.1 hd ht (kk p l e s m args below meth c C H locs ls hW hS hl)
theorem v_ifnonnullN {off : Int} (hd : decode Y.2.1 pc = .ok (.ifnonnull off, 3)) (hn : pc + 3 = n) (kk : V G Y R Qf n L (st) μ cells slots) : V G Y R Qf pc L (.null :: st) μ cells slots := by
  subst hn; intro p l e s m args below meth c C H locs ls hW hS hl
  exact lv_ifnonnullN C.1 C.2.1 hd (kk p l e s m args below meth c C H locs ls hW hS hl)
theorem v_ifnull {x : Nat} {off : Int} (hd : decode Y.2.1 pc = .ok (.ifnull off, 3)) (hn : pc + 3 = n) (kk : V G Y R Qf n L (st) μ cells slots) : V G Y R Qf pc L (.ref x :: st) μ cells slots := by
  subst hn; intro p l e s m args below meth c C H locs ls hW hS hl
  exact lv_ifnull C.1 C.2.1 hd (kk p l e s m args below meth c C H locs ls hW hS hl)
theorem v_ifnullN {off : Int} (hd : decode Y.2.1 pc = .ok (.ifnull off, 3)) (ht : (pc : Int) + off = (n : Int)) (kk : V G Y R Qf n L (st) μ cells slots) : V G Y R Qf pc L (.null :: st) μ cells slots := by
  intro p l e s m args below meth c C H locs ls hW hS hl
  exact lv_ifnullN C.1 C.2.1 hd ht (kk p l e s m args below meth c C H locs ls hW hS hl)
theorem v_ldc {index : Nat} {x : Int32} (hd : decode Y.2.1 pc = .ok (.ldc index, 2)) (hn : pc + 2 = n) (hc : Cond.constant Y.1.cls index x ∈ GW) (kk : V G Y R Qf n L (.int x :: st) μ cells slots) : V G Y R Qf pc L (st) μ cells slots := by
  subst hn; intro p l e s m args below meth c C H locs ls hW hS hl
  exact lv_ldc C.1 C.2.1 C.2.2.2.2.1 (C.2.2.2.2.2.2.1 _ hc) hd (kk p l e s m args below meth c C H locs ls hW hS hl)
theorem v_tableIn {dflt lo hi : Int} {offs : Array Int} {len : Nat} {x : Int32} {off : Int} (hd : decode Y.2.1 pc = .ok (.tableswitch dflt lo hi offs, len)) (h1 : ¬ x.toInt < lo) (h2 : ¬ hi < x.toInt) (ho : offs[(x.toInt - lo).toNat]? = some off) (ht : (pc : Int) + off = (n : Int)) (kk : V G Y R Qf n L (st) μ cells slots) : V G Y R Qf pc L (.int x :: st) μ cells slots := by
  intro p l e s m args below meth c C H locs ls hW hS hl
  exact lv_tableIn C.1 C.2.1 hd h1 h2 ho ht (kk p l e s m args below meth c C H locs ls hW hS hl)
theorem v_tableOut {dflt lo hi : Int} {offs : Array Int} {len : Nat} {x : Int32} (hd : decode Y.2.1 pc = .ok (.tableswitch dflt lo hi offs, len)) (h : x.toInt < lo ∨ hi < x.toInt) (ht : (pc : Int) + dflt = (n : Int)) (kk : V G Y R Qf n L (st) μ cells slots) : V G Y R Qf pc L (.int x :: st) μ cells slots := by
  intro p l e s m args below meth c C H locs ls hW hS hl
  exact lv_tableOut C.1 C.2.1 hd h ht (kk p l e s m args below meth c C H locs ls hW hS hl)
theorem v_lookup {dflt : Int} {ps : Array (Int × Int)} {len : Nat} {x : Int32} {off : Int} (hd : decode Y.2.1 pc = .ok (.lookupswitch dflt ps, len)) (hp : (ps.toList.zip (ps.toList.drop 1)).all (fun (a, next) => a.1 < next.1) = true) (ho : Op.lookupswitch.offset ps.toList dflt x.toInt = off) (ht : (pc : Int) + off = (n : Int)) (kk : V G Y R Qf n L (st) μ cells slots) : V G Y R Qf pc L (.int x :: st) μ cells slots := by
  intro p l e s m args below meth c C H locs ls hW hS hl
  exact lv_lookup C.1 C.2.1 hd hp ho ht (kk p l e s m args below meth c C H locs ls hW hS hl)
/-- a computed number by another of its names -/
theorem v_top {x y : Int32} (hx : x = y) (kk : V G Y R Qf pc L (.int y :: st) μ cells slots) : V G Y R Qf pc L (.int x :: st) μ cells slots := hx ▸ kk
theorem v_wide {a b : Nat} (h1 : cells ≤ a) (h2 : slots ≤ b) (kk : V G Y R Qf pc L st μ a b) : V G Y R Qf pc L (st) μ cells slots := fun p l e s m args below meth c C H locs ls hW hS hl => W.widen h1 h2 (kk p l e s m args below meth c C H locs ls hW hS hl)
theorem v_less (hL : ∀ q ∈ L', q ∈ L) (kk : V G Y R Qf pc L' (st) μ cells slots) : V G Y R Qf pc L (st) μ cells slots := fun p l e s m args below meth c C H locs ls hW hS hl => kk p l e s m args below meth c C H locs ls hW hS (lv_less hl hL)
/-- a field's place in the pool of a class: kind, slot -/
def FL (own : String) (index k s : Nat) : Prop := k < 20 ∧ ∃ (C : String) (T : u_T) (N : Nat) (ty : Nat → FieldType), vwCl[k]? = some (C, T, N) ∧ s < N ∧ (∀ w ∈ u_ws C T N, w ∈ GW) ∧ (∀ j, j < N → parseFieldDescriptor (T j).2.2.1 = some (ty j)) ∧ (∀ a, a < N → ∀ b, b < N → a ≠ b → (T a).2.1 ≠ (T b).2.1) ∧ (T s).1 = C ∧ Cond.fieldLink own index C (T s).2.1 (T s).2.2.1 ∈ GW
def FLw (own : String) (index k s : Nat) (ft : FieldType) : Prop := k < 20 ∧ ∃ (C : String) (T : u_T) (N : Nat) (ty : Nat → FieldType), vwCl[k]? = some (C, T, N) ∧ s < N ∧ (∀ w ∈ u_ws C T N, w ∈ GW) ∧ (∀ j, j < N → parseFieldDescriptor (T j).2.2.1 = some (ty j)) ∧ (∀ a, a < N → ∀ b, b < N → a ≠ b → (T a).2.1 ≠ (T b).2.1) ∧ (T s).1 = C ∧ Cond.fieldLink own index C (T s).2.1 (T s).2.2.1 ∈ GW ∧ (T s).2.2.2 = false ∧ ty s = ft
theorem v_getf {index k b i s : Nat} {v : Value} (hd : decode Y.2.1 pc = .ok (.getfield index, 3)) (hn : pc + 3 = n) (hf : FL Y.1.cls index k s) (ho : zok k b i) (hv : zvl G.1 μ k b i s = v) (kk : V G Y R Qf n L (v :: st) μ cells slots) : V G Y R Qf pc L (.ref (zad G.1 k b i) :: st) μ cells slots := by
  subst hn; intro p l e s_1 m args below meth c C H locs ls hW hS hl
  obtain ⟨hk20, C0, T, N, ty, hc, hs, hin, -, -, hT, hlink⟩ := hf
  have ha := hW k b i ho (fun _ => by omega)
  unfold zat at ha
  rw [if_pos hk20] at ha
  obtain ⟨r, h1, cell, q1, q2, q3, q4⟩ := ha
  have hr : r = (C0, T, N) := Option.some.inj (h1.symm.trans hc)
  subst hr
  have C1 := C
  obtain ⟨hx, hb, hrt, hml, hown, hlocks, hts, hK, -⟩ := C
  obtain ⟨hSl, hfc, kC, hkC, hkind⟩ := hK.1.1 k _ hc
  obtain ⟨cf, kf, fi, f, hi, hsl⟩ := hSl s hs
  have hi2 : s_1.fieldFound? C0 (T s).2.1 (T s).2.2.1 = some (cf, kf, fi, f) := by rw [← hT]; exact hi
  refine W.getf hx hb hown (hts _ hlink) hi2 (u_facts hfc hkC (u_lays hts hin hs) hi).1 q1 (by rw [q3]; exact fun h => by cases h) (v := v) ?_ rfl rfl hd (kk p l e s_1 m args below meth c C1 H locs ls hW hS hl)
  rw [hsl, q4 s hs, hv]
theorem Wd.put {H H' : Heap} {k b i s : Nat} {x : Int32} (hW : Wd G μ H) (ho : zok k b i) (h36 : k ≠ 36) (hq : ∀ q, q ≠ zad G.1 k b i → H'[q]? = H[q]?) (h : zat G (up μ k b i s x) k b i H') : Wd G (up μ k b i s x) H' := by
  intro k' b' i' ho' hf'
  by_cases he : k' = k ∧ b' = b ∧ i' = i
  · obtain ⟨rfl, rfl, rfl⟩ := he
    exact h
  · have ha : zad G.1 k' b' i' ≠ zad G.1 k b i := fun z => he (zad_inj ho' ho z)
    have h2 := (hW k' b' i' ho' hf').kept (hq _ ha)
    unfold zat at h2 ⊢
    have e : zvl G.1 (up μ k b i s x) k' b' i' = zvl G.1 μ k' b' i' := funext fun s' => zvl_up_ne he h36
    rw [e]
    exact h2
theorem v_putf {index k b i s : Nat} {x : Int32} {ft : FieldType} (hd : decode Y.2.1 pc = .ok (.putfield index, 3)) (hn : pc + 3 = n) (hf : FLw Y.1.cls index k s ft) (ho : zok k b i) (hv : ∀ μ' : St, zvl G.1 μ' k b i s = .int (μ' k b i s)) (hx : narrow ft (.int x) = .int x) (hx2 : fits ft (.int x) = true) (kk : V G Y R Qf n L st (up μ k b i s x) cells slots) : V G Y R Qf pc L (.int x :: .ref (zad G.1 k b i) :: st) μ cells slots := by
  subst hn; intro p l e s_1 m args below meth c C H locs ls hW hS hl
  obtain ⟨hk20, C0, T, N, ty, hc, hs, hin, hty, hnm, hT, hlink, hfin, hft⟩ := hf
  have ha := hW k b i ho (fun _ => by omega)
  unfold zat at ha
  rw [if_pos hk20] at ha
  obtain ⟨r, h1, cell, q1, q2, q3, q4⟩ := ha
  have hr : r = (C0, T, N) := Option.some.inj (h1.symm.trans hc)
  subst hr
  have C1 := C
  obtain ⟨hx0, hb, hrt, hml, hown, hlocks, hts, hK, -⟩ := C
  have hap := va_apart (own := Y.1.cls) hts hin ty hty hnm hK.1 hc
  obtain ⟨hSl, hfc, kC, hkC, hkind⟩ := hK.1.1 k _ hc
  obtain ⟨cf, kf, fi, f, hi, hsl⟩ := hSl s hs
  have hi2 : s_1.fieldFound? C0 (T s).2.1 (T s).2.2.1 = some (cf, kf, fi, f) := by rw [← hT]; exact hi
  have hlay := hts _ (hin _ (u_in_lay hs))
  unfold u_lay at hlay
  rw [if_neg (by rw [hfin]; decide)] at hlay
  have hst := (u_facts hfc hkC (u_lays hts hin hs) hi).1
  have h6 := u_store hfc hkC hkind hlay hi (by rw [hty s hs, hft]) hx hx2
  refine W.putK hx0 hb (f := f) ⟨hown, hts _ hlink, ⟨_, _, _, hi2⟩, hst⟩ (by rw [q2]; exact h6) q1 q3 (by rw [hsl]; exact k2_hasslot (q4 s hs)) rfl rfl hd fun H' e1 e2 e3 => ?_
  rw [hsl] at e1 ⊢
  refine kk p l e s_1 m args below meth c C1 H' _ ls (hW.put ho (by omega) e3 ?_) (hS.put e2 e3 (zad_AA ho (by omega))) hl
  unfold zat
  rw [if_pos hk20]
  refine ⟨_, hc, t_OB.to (V := updV (zvl G.1 μ k b i) s (.int x)) ⟨_, e1, q2, q3, t_set q4 hap hs (.int x)⟩ (fun j hj => ?_)⟩
  by_cases hjs : j = s
  · subst hjs
    rw [hv, up_self]
    simp [updV]
  · rw [zvl_up_s hjs (by omega)]
    simp [updV, hjs]
theorem zln_le (k : Nat) : zln k ≤ 3000 := by
  unfold zln
  split <;> omega
theorem v_iald {k b i j : Nat} {x : Int32} {v : Value} (hd : decode Y.2.1 pc = .ok (.iaload, 1)) (hn : pc + 1 = n) (ho : zok k b i) (hk : 20 ≤ k) (hty : zty k = .int) (hx : x = nI j) (hj : j < zln k) (hv : zvl G.1 μ k b i j = v) (kk : V G Y R Qf n L (v :: st) μ cells slots) : V G Y R Qf pc L (.int x :: .ref (zad G.1 k b i) :: st) μ cells slots := by
  subst hn; subst hx; intro p l e s m args below meth c C H locs ls hW hS hl
  have ha := hW k b i ho (fun _ => zty_int (zok_lt ho).1 hty)
  unfold zat at ha
  rw [if_neg (by omega)] at ha
  have hj31 : j < 2 ^ 31 := by have := zln_le k; omega
  have hin : ¬ (nI j < 0 ∨ (arrV (G.2.2.1 k) (zln k) (zvl G.1 μ k b i)).slots.size ≤ (nI j).toNatClampNeg) := by
    rw [arrV_size, nI_clamp hj31]
    exact fun h => h.elim (nI_pos hj31) (fun h => by omega)
  have hA : ArrOfT s (G.2.2.1 k) (zty k) := C.2.2.2.2.2.2.2.1.2.1 k hk (zok_lt ho).1
  exact W.iald (v := v) C.1 C.2.1 ha (hty ▸ hA _ _) (fun q => by cases q) hin (by rw [nI_clamp hj31, arrV_read _ _ hj, hv]) rfl rfl hd (kk p l e s m args below meth c C H locs ls hW hS hl)
theorem v_cald {k b i j : Nat} {x : Int32} {v : Value} (hd : decode Y.2.1 pc = .ok (.caload, 1)) (hn : pc + 1 = n) (ho : zok k b i) (hk : 20 ≤ k) (hty : zty k = .char) (hx : x = nI j) (hj : j < zln k) (hv : zvl G.1 μ k b i j = v) (kk : V G Y R Qf n L (v :: st) μ cells slots) : V G Y R Qf pc L (.int x :: .ref (zad G.1 k b i) :: st) μ cells slots := by
  subst hn; subst hx; intro p l e s m args below meth c C H locs ls hW hS hl
  have ha := hW k b i ho (fun _ => zty_char (zok_lt ho).1 hty)
  unfold zat at ha
  rw [if_neg (by omega)] at ha
  have hj31 : j < 2 ^ 31 := by have := zln_le k; omega
  have hin : ¬ (nI j < 0 ∨ (arrV (G.2.2.1 k) (zln k) (zvl G.1 μ k b i)).slots.size ≤ (nI j).toNatClampNeg) := by
    rw [arrV_size, nI_clamp hj31]
    exact fun h => h.elim (nI_pos hj31) (fun h => by omega)
  have hA : ArrOfT s (G.2.2.1 k) (zty k) := C.2.2.2.2.2.2.2.1.2.1 k hk (zok_lt ho).1
  exact W.cald (v := v) C.1 C.2.1 ha (hty ▸ hA _ _) (fun q => by cases q) hin (by rw [nI_clamp hj31, arrV_read _ _ hj, hv]) rfl rfl hd (kk p l e s m args below meth c C H locs ls hW hS hl)
theorem v_aald {k b i j : Nat} {x : Int32} {v : Value} (hd : decode Y.2.1 pc = .ok (.aaload, 1)) (hn : pc + 1 = n) (ho : zok k b i) (hk : 20 ≤ k) (hty : (zty k).isReference = true) (hx : x = nI j) (hj : j < zln k) (hv : zvl G.1 μ k b i j = v) (kk : V G Y R Qf n L (v :: st) μ cells slots) : V G Y R Qf pc L (.int x :: .ref (zad G.1 k b i) :: st) μ cells slots := by
  subst hn; subst hx; intro p l e s m args below meth c C H locs ls hW hS hl
  have ha := hW k b i ho (fun _ => zty_ref (zok_lt ho).1 hty)
  unfold zat at ha
  rw [if_neg (by omega)] at ha
  have hj31 : j < 2 ^ 31 := by have := zln_le k; omega
  have hin : ¬ (nI j < 0 ∨ (arrV (G.2.2.1 k) (zln k) (zvl G.1 μ k b i)).slots.size ≤ (nI j).toNatClampNeg) := by
    rw [arrV_size, nI_clamp hj31]
    exact fun h => h.elim (nI_pos hj31) (fun h => by omega)
  have hA : ArrOfT s (G.2.2.1 k) (zty k) := C.2.2.2.2.2.2.2.1.2.1 k hk (zok_lt ho).1
  exact W.aald (v := v) C.1 C.2.1 ha (hA _ _) hty (fun q => by cases q) hin (by rw [nI_clamp hj31, arrV_read _ _ hj, hv]) rfl rfl hd (kk p l e s m args below meth c C H locs ls hW hS hl)
theorem v_lald {k b i j : Nat} {x : Int32} {v : Value} (hd : decode Y.2.1 pc = .ok (.laload, 1)) (hn : pc + 1 = n) (hG : G.2.2.2 = true) (ho : zok k b i) (hk : 20 ≤ k) (hty : zty k = .long) (hx : x = nI j) (hj : j < zln k) (hv : zvl G.1 μ k b i j = v) (kk : V G Y R Qf n L (v :: st) μ cells slots) : V G Y R Qf pc L (.int x :: .ref (zad G.1 k b i) :: st) μ cells slots := by
  subst hn; subst hx; intro p l e s m args below meth c C H locs ls hW hS hl
  have ha := hW k b i ho (fun z => by rw [hG] at z; cases z)
  unfold zat at ha
  rw [if_neg (by omega)] at ha
  have hj31 : j < 2 ^ 31 := by have := zln_le k; omega
  have hin : ¬ (nI j < 0 ∨ (arrV (G.2.2.1 k) (zln k) (zvl G.1 μ k b i)).slots.size ≤ (nI j).toNatClampNeg) := by
    rw [arrV_size, nI_clamp hj31]
    exact fun h => h.elim (nI_pos hj31) (fun h => by omega)
  have hA : ArrOfT s (G.2.2.1 k) (zty k) := C.2.2.2.2.2.2.2.1.2.1 k hk (zok_lt ho).1
  exact W.lald (v := v) C.1 C.2.1 ha (hty ▸ hA _ _) (fun q => by cases q) hin (by rw [nI_clamp hj31, arrV_read _ _ hj, hv]) rfl rfl hd (kk p l e s m args below meth c C H locs ls hW hS hl)
theorem v_dald {k b i j : Nat} {x : Int32} {v : Value} (hd : decode Y.2.1 pc = .ok (.daload, 1)) (hn : pc + 1 = n) (hG : G.2.2.2 = true) (ho : zok k b i) (hk : 20 ≤ k) (hty : zty k = .double) (hx : x = nI j) (hj : j < zln k) (hv : zvl G.1 μ k b i j = v) (kk : V G Y R Qf n L (v :: st) μ cells slots) : V G Y R Qf pc L (.int x :: .ref (zad G.1 k b i) :: st) μ cells slots := by
  subst hn; subst hx; intro p l e s m args below meth c C H locs ls hW hS hl
  have ha := hW k b i ho (fun z => by rw [hG] at z; cases z)
  unfold zat at ha
  rw [if_neg (by omega)] at ha
  have hj31 : j < 2 ^ 31 := by have := zln_le k; omega
  have hin : ¬ (nI j < 0 ∨ (arrV (G.2.2.1 k) (zln k) (zvl G.1 μ k b i)).slots.size ≤ (nI j).toNatClampNeg) := by
    rw [arrV_size, nI_clamp hj31]
    exact fun h => h.elim (nI_pos hj31) (fun h => by omega)
  have hA : ArrOfT s (G.2.2.1 k) (zty k) := C.2.2.2.2.2.2.2.1.2.1 k hk (zok_lt ho).1
  exact W.dald (v := v) C.1 C.2.1 ha (hty ▸ hA _ _) (fun q => by cases q) hin (by rw [nI_clamp hj31, arrV_read _ _ hj, hv]) rfl rfl hd (kk p l e s m args below meth c C H locs ls hW hS hl)
theorem v_iast {k b i j : Nat} {x : Int32} {y : Int32} (hd : decode Y.2.1 pc = .ok (.iastore, 1)) (hn : pc + 1 = n) (ho : zok k b i) (hk : 20 ≤ k) (h36 : k ≠ 36) (hty : zty k = .int) (hx : x = nI j) (hj : j < zln k) (hv : ∀ μ' : St, zvl G.1 μ' k b i j = .int (μ' k b i j)) (kk : V G Y R Qf n L st (up μ k b i j y) cells slots) : V G Y R Qf pc L (.int y :: .int x :: .ref (zad G.1 k b i) :: st) μ cells slots := by
  subst hn; subst hx; intro p l e s m args below meth c C H locs ls hW hS hl
  have ha := hW k b i ho (fun _ => zty_int (zok_lt ho).1 hty)
  unfold zat at ha
  rw [if_neg (by omega)] at ha
  have hj31 : j < 2 ^ 31 := by have := zln_le k; omega
  have hin : ¬ (nI j < 0 ∨ (arrV (G.2.2.1 k) (zln k) (zvl G.1 μ k b i)).slots.size ≤ (nI j).toNatClampNeg) := by
    rw [arrV_size, nI_clamp hj31]
    exact fun h => h.elim (nI_pos hj31) (fun h => by omega)
  have hA : ArrOfT s (G.2.2.1 k) (zty k) := C.2.2.2.2.2.2.2.1.2.1 k hk (zok_lt ho).1
  refine W.iast C.1 C.2.1 ha (hty ▸ hA _ _) (fun q => by cases q) hin rfl rfl hd fun H' e1 e2 e3 => ?_
  skip
  refine kk p l e s m args below meth c C H' _ ls (hW.put ho h36 e3 ?_) (hS.put e2 e3 (zad_AA ho (zty_int (zok_lt ho).1 hty))) hl
  unfold zat
  rw [if_neg (by omega), e1, nI_clamp hj31, arrV_store]
  congr 2
  funext q
  by_cases hq : q = j
  · subst hq
    rw [hv, up_self]
    simp [updV]
  · rw [zvl_up_s hq h36]
    simp [updV, hq]
theorem v_cast {k b i j : Nat} {x : Int32} {y : Int32} (hd : decode Y.2.1 pc = .ok (.castore, 1)) (hn : pc + 1 = n) (ho : zok k b i) (hk : 20 ≤ k) (h36 : k ≠ 36) (hty : zty k = .char) (hx : x = nI j) (hj : j < zln k) (hv : ∀ μ' : St, zvl G.1 μ' k b i j = .int (μ' k b i j)) (hna : narrow .char (.int y) = .int y) (kk : V G Y R Qf n L st (up μ k b i j y) cells slots) : V G Y R Qf pc L (.int y :: .int x :: .ref (zad G.1 k b i) :: st) μ cells slots := by
  subst hn; subst hx; intro p l e s m args below meth c C H locs ls hW hS hl
  have ha := hW k b i ho (fun _ => zty_char (zok_lt ho).1 hty)
  unfold zat at ha
  rw [if_neg (by omega)] at ha
  have hj31 : j < 2 ^ 31 := by have := zln_le k; omega
  have hin : ¬ (nI j < 0 ∨ (arrV (G.2.2.1 k) (zln k) (zvl G.1 μ k b i)).slots.size ≤ (nI j).toNatClampNeg) := by
    rw [arrV_size, nI_clamp hj31]
    exact fun h => h.elim (nI_pos hj31) (fun h => by omega)
  have hA : ArrOfT s (G.2.2.1 k) (zty k) := C.2.2.2.2.2.2.2.1.2.1 k hk (zok_lt ho).1
  refine W.cast C.1 C.2.1 ha (hty ▸ hA _ _) (fun q => by cases q) hin rfl rfl hd fun H' e1 e2 e3 => ?_
  rw [hna] at e1
  refine kk p l e s m args below meth c C H' _ ls (hW.put ho h36 e3 ?_) (hS.put e2 e3 (zad_AA ho (zty_char (zok_lt ho).1 hty))) hl
  unfold zat
  rw [if_neg (by omega), e1, nI_clamp hj31, arrV_store]
  congr 2
  funext q
  by_cases hq : q = j
  · subst hq
    rw [hv, up_self]
    simp [updV]
  · rw [zvl_up_s hq h36]
    simp [updV, hq]
theorem v_last {k b i j : Nat} {x : Int32} {y : Int32} (hd : decode Y.2.1 pc = .ok (.lastore, 1)) (hn : pc + 1 = n) (hG : G.2.2.2 = true) (ho : zok k b i) (hk : 20 ≤ k) (h36 : k ≠ 36) (hty : zty k = .long) (hx : x = nI j) (hj : j < zln k) (hv : ∀ μ' : St, zvl G.1 μ' k b i j = .long ((μ' k b i j)).toInt64) (kk : V G Y R Qf n L st (up μ k b i j y) cells slots) : V G Y R Qf pc L (.long y.toInt64 :: .int x :: .ref (zad G.1 k b i) :: st) μ cells slots := by
  subst hn; subst hx; intro p l e s m args below meth c C H locs ls hW hS hl
  have ha := hW k b i ho (fun z => by rw [hG] at z; cases z)
  unfold zat at ha
  rw [if_neg (by omega)] at ha
  have hj31 : j < 2 ^ 31 := by have := zln_le k; omega
  have hin : ¬ (nI j < 0 ∨ (arrV (G.2.2.1 k) (zln k) (zvl G.1 μ k b i)).slots.size ≤ (nI j).toNatClampNeg) := by
    rw [arrV_size, nI_clamp hj31]
    exact fun h => h.elim (nI_pos hj31) (fun h => by omega)
  have hA : ArrOfT s (G.2.2.1 k) (zty k) := C.2.2.2.2.2.2.2.1.2.1 k hk (zok_lt ho).1
  refine W.last C.1 C.2.1 ha (hty ▸ hA _ _) (fun q => by cases q) hin rfl rfl hd fun H' e1 e2 e3 => ?_
  skip
  refine kk p l e s m args below meth c C H' _ ls (hW.put ho h36 e3 ?_) (hS.put e2 e3 (zad_A1 hG _ _ _)) hl
  unfold zat
  rw [if_neg (by omega), e1, nI_clamp hj31, arrV_store]
  congr 2
  funext q
  by_cases hq : q = j
  · subst hq
    rw [hv, up_self]
    simp [updV]
  · rw [zvl_up_s hq h36]
    simp [updV, hq]
end VRows
