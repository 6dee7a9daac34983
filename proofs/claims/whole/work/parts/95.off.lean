/-! ===== the law's side: calls made in a world without the law's own rows ===== -/
def offG (G : Gl) : Gl := (G.1, G.2.1, G.2.2.1, false)
def ov (μ μ' : St) : St := fun k b i s => if k = 35 ∨ k = 36 then μ k b i s else μ' k b i s
theorem ov_lt {μ μ' : St} {k b i s : Nat} (h : ¬ (k = 35 ∨ k = 36)) : ov μ μ' k b i s = μ' k b i s := if_neg h
theorem ov_ge {μ μ' : St} {k b i s : Nat} (h : k = 35 ∨ k = 36) : ov μ μ' k b i s = μ k b i s := if_pos h
/-- two stores alike but for the law's rows -/
def Lk (μ μ' : St) : Prop := ∀ k b i s, ¬ (k = 35 ∨ k = 36) → μ k b i s = μ' k b i s
theorem Lk.refl (μ : St) : Lk μ μ := fun _ _ _ _ _ => rfl
theorem Lk.ovr {μ μ' : St} : Lk μ' (ov μ μ') := fun _ _ _ _ h => (ov_lt h).symm
theorem Lk.upd {μ μ' : St} (h : Lk μ μ') {k b i s : Nat} {x : Int32} (hk : k = 35 ∨ k = 36) : Lk μ (up μ' k b i s x) := fun k' b' i' s' h' => (h k' b' i' s' h').trans (up_k (fun e => h' (by rw [e]; exact hk))).symm
theorem zvl_lk {B : Nat} {μ μ' : St} (e : Lk μ μ') {k b i : Nat} (hk : k < 35) : zvl B μ k b i = zvl B μ' k b i := by
  funext s
  have e1 := fun b i s => e k b i s (by omega)
  unfold zvl
  split <;> (try split) <;> first | rfl | omega | (rw [e1])
theorem zvl_hk {B : Nat} {μ μ' : St} (e : ∀ k b i s, k = 35 ∨ k = 36 → μ k b i s = μ' k b i s) {k b i : Nat} (hk : k = 35 ∨ k = 36) : zvl B μ k b i = zvl B μ' k b i := by
  funext s
  have e35 := e 35 b i s (Or.inl rfl)
  have e36 := fun b i s => e 36 b i s (Or.inr rfl)
  rcases hk with rfl | rfl
  · show Value.long (μ 35 b i s).toInt64 = Value.long (μ' 35 b i s).toInt64
    rw [e35]
  · show Value.double (FP.ddiv (FP.i2d (μ 36 0 0 0)) (FP.i2d (μ 36 0 0 1))) = Value.double (FP.ddiv (FP.i2d (μ' 36 0 0 0)) (FP.i2d (μ' 36 0 0 1)))
    rw [e36, e36]
theorem zad_nA {G : Gl} {k b i : Nat} (ho : zok k b i) (hk : ¬ k < 35) : ¬ AA (offG G) (zad G.1 k b i) := by
  have h1 : k = 35 ∨ k = 36 := by have := (zok_lt ho).1; omega
  rintro ⟨-, h2 | ⟨h3, h4⟩⟩
  · cases h2
  · rcases h1 with rfl | rfl
    · exact h3 rfl
    · exact h4 rfl
theorem Wd.to0 {G : Gl} {μ μ' : St} {H : Heap} (h : Wd G μ H) (e : Lk μ' μ) : Wd (offG G) μ' H := by
  intro k b i ho hf
  have hk := hf rfl
  have h2 := h k b i ho (fun _ => hk)
  unfold zat at h2 ⊢
  rw [show zvl (offG G).1 μ' k b i = zvl G.1 μ k b i from zvl_lk e hk]
  exact h2
theorem Wd.ovr {G : Gl} {μ μ' : St} {H H' : Heap} (h : Wd G μ H) (h' : Wd (offG G) μ' H') (hq : ∀ q : Nat, q < H.size → ¬ AA (offG G) q → H'[q]? = H[q]?) : Wd G (ov μ μ') H' := by
  intro k b i ho hf
  by_cases hk : k < 35
  · have h2 := h' k b i ho (fun _ => hk)
    unfold zat at h2 ⊢
    rw [show zvl G.1 (ov μ μ') k b i = zvl (offG G).1 μ' k b i from zvl_lk (fun _ _ _ _ h => ov_lt h) hk]
    exact h2
  · have h3 := h k b i ho hf
    have h2 := h3.kept (hq _ h3.lt (zad_nA ho hk))
    unfold zat at h2 ⊢
    rw [show zvl G.1 (ov μ μ') k b i = zvl G.1 μ k b i from zvl_hk (fun _ _ _ _ h => ov_ge h) (by have := (zok_lt ho).1; omega)]
    exact h2
theorem arrV_cg {c : ClassId} {N : Nat} {f g : Nat → Value} (h : ∀ j, j < N → f j = g j) : arrV c N f = arrV c N g := by
  unfold arrV
  congr 1
  exact congrArg Array.ofFn (funext fun j => h j.val j.isLt)
section VOff
variable {G : Gl} {Y : MD} {R : Room} {Qf : List Frame → Array Value → State → State → Prop} {pc n : Nat} {L : List (Nat × Value)} {st : List Value} {μ μc : St} {cells slots : Nat} {P : Option Value → St → Prop} {X : String → St → Prop}
theorem v_run0 {Z : MD} {index mc ms : Nat} {rest st0 : List Value} {Pz : Option Value → St → Prop} {Xz : String → St → Prop} {a : Array Value} {p : Program} {l : Launch} {e : Env} {s : State} {m : MethodId} {args : Array Value} {below : List Frame} {meth : Method} {c : Code} (C : Cx G Y p l s m args meth c) {H : Heap} {locs : List Loc} {ls : Array Slot} (hW : Wd G μ H) (hS : va_S (AA G) s.heap H locs) (hl : lv_has ls Y.2.2.1 L)
    (hr : vx_Run p l e R s m args below meth c H locs cells slots mc ms (F0 m pc ls st0) rest (QcP (offG G) Pz a) (XcP (offG G) Xz) (AA (offG G)))
    (kk : ∀ v μ', Pz v μ' → V G Y R Qf (pc + 3) L (v.toList ++ rest) (ov μ μ') (cells + mc) (slots + ms))
    (kx : ∀ E μ', Xz E μ' → VX G Y R Qf pc L rest E (ov μ μ') (cells + mc) (slots + ms)) : W p l e R s m args below meth c H locs cells slots (Qf below args s) (F0 m pc ls st0) := by
  intro T hT X'
  have hA0 : ∀ q : Nat, AA (offG G) q → AA G q := fun q h => ⟨h.1, h.2.elim (fun z => by cases z) Or.inr⟩
  have hA : ∀ q : Nat, q < H.size → (AA (offG G)) q → (AA G) q := fun q _ h => hA0 q h
  rcases hr T hT X' with ⟨v, st₀, t, T', L', h0, X2, hL, e1, e2, ⟨⟨v', μ', hv, hp, hb⟩, hF⟩, st⟩ | ⟨q, st₀, t, T', L', E, ce, h0, X2, hL, e1, e2, ⟨⟨μ', hp, hb⟩, hF⟩, hce, hcv, hcl, st⟩
  · cases hv
    obtain ⟨k1, k2, k3⟩ := vx_keep h0 e1 hS hA hA0 hL hF
    obtain ⟨t2, a1, b1⟩ := kk v μ' hp p l e s m args below meth c C T'.heap (locs ++ L') ls (hW.ovr (by rw [e1]; exact hb) (fun q q1 q2 => by rw [e1, hF.2 q (by rw [h0]; exact q1) q2, h0])) k3 hl T' rfl X2
    exact ⟨t2, st t2 a1, b1⟩
  · obtain ⟨k1, k2, k3⟩ := vx_keep h0 e1 hS hA hA0 hL hF
    obtain ⟨t2, a1, b1⟩ := kx E μ' hp p l e s m args below meth c C T'.heap (locs ++ L') ls ce q (hW.ovr (by rw [e1]; exact hb) (fun q q1 q2 => by rw [e1, hF.2 q (by rw [h0]; exact q1) q2, h0])) k3 hl (by rw [e1]; exact hce) hcv hcl T' rfl X2
    exact ⟨t2, st.trans a1, b1⟩
theorem v_callV0 {Z : MD} {index k b i nA : Nat} {As rest st0 : List Value} {Pz : Option Value → St → Prop} {Xz : String → St → Prop} (hd : decode Y.2.1 pc = .ok (.invokevirtual index, 3)) (hn : pc + 3 = n) (hL : LKV Y.1.cls index Z k nA) (hlen : As.length = nA) (hst : st0 = As.reverse ++ .ref (zad G.1 k b i) :: rest) (hrest : (rest.map fun v => v.category).sum ≤ 8) (hRm : RMk R Z cells slots) (ho : zok k b i) (hc : Lk μc μ) (hM : Con (offG G) Z (.ref (zad G.1 k b i) :: As) μc Pz Xz)
    (kk : ∀ v μ', Pz v μ' → V G Y R Qf n L (v.toList ++ rest) (ov μ μ') (cells + Z.2.2.2.2.1.cells) (slots + Z.2.2.2.2.1.slots)) (kx : ∀ E μ', Xz E μ' → VX G Y R Qf pc L rest E (ov μ μ') (cells + Z.2.2.2.2.1.cells) (slots + Z.2.2.2.2.1.slots)) : V G Y R Qf pc L st0 μ cells slots := by
  subst hn
  intro p l e s m args below meth c C H locs ls hW hS hl
  have C1 := C
  obtain ⟨hx, hb, hrt, hml, hown, hlocks, hts, hK, hlt, htab⟩ := C
  obtain ⟨hk20, ⟨T, N, hcl⟩, w1, w2, w3, w4, w5, n1, n2, hnp⟩ := hL
  obtain ⟨r1, r2, r3, r4⟩ := hRm
  have ha := hW k b i ho (fun _ => by omega)
  unfold zat at ha
  rw [if_pos hk20] at ha
  obtain ⟨r, h1, cell, q1, q2, q3, q4⟩ := ha
  have hr : r = (Z.1.cls, T, N) := Option.some.inj (h1.symm.trans hcl)
  subst hr
  obtain ⟨-, hfc, -⟩ := hK.1.1 k _ hcl
  refine v_run0 (Z := Z) (index := index) C1 hW hS hl (vx_runV (As := As) (rest := rest) (n := nA) ⟨hx, hb, hml, hown, hts⟩ (hM l hlt) (C := Z.1.cls) ⟨⟨rfl, rfl, r1, r2, fun w hw a' U hWm => ?_, List.mem_cons_self, hts _ w5, hts _ w4, ⟨n1, n2⟩, fun sig h => ?_, hts _ w1⟩, hts _ w2, hts _ w3⟩ ⟨va_Pc_blind (G := offG G), ⟨cell, q1, by rw [q3]; rfl, by rw [q2]; exact hfc⟩, fun U hU hWm => ⟨rfl, by rw [hU]; exact hW.to0 hc, hK.at hWm hU hS⟩⟩ rfl hlen hl.1 hst (lv_room hrest) hd ⟨r3, r4⟩) kk kx
  · rcases List.mem_cons.mp hw with rfl | hw
    · exact GW_pay hts w5 a' U hWm
    · exact GW_pay hts hw a' U hWm
  · rw [h] at hnp
    exact (Option.some.inj hnp).symm
theorem v_dast {x a b : Int32} {v : UInt64} (hd : decode Y.2.1 pc = .ok (.dastore, 1)) (hn : pc + 1 = n) (hG : G.2.2.2 = true) (hx : x = nI 0) (hv : v = FP.ddiv (FP.i2d a) (FP.i2d b)) (kk : V G Y R Qf n L st (up (up μ 36 0 0 0 a) 36 0 0 1 b) cells slots) : V G Y R Qf pc L (.double v :: .int x :: .ref (zad G.1 36 0 0) :: st) μ cells slots := by
  subst hn; subst hx; subst hv; intro p l e s m args below meth c C H locs ls hW hS hl
  have ha := hW 36 0 0 rfl (fun z => by rw [hG] at z; cases z)
  unfold zat at ha
  rw [if_neg (by decide)] at ha
  have hin : ¬ (nI 0 < 0 ∨ (arrV (G.2.2.1 36) (zln 36) (zvl G.1 μ 36 0 0)).slots.size ≤ (nI 0).toNatClampNeg) := by
    rw [arrV_size, nI_clamp (by decide)]
    exact fun h => h.elim (nI_pos (by decide)) (fun h => by cases h)
  have hA : ArrOfT s (G.2.2.1 36) (zty 36) := C.2.2.2.2.2.2.2.1.2.1 36 (by decide) (by decide)
  refine W.dast C.1 C.2.1 ha (hA _ _) (fun q => by cases q) hin rfl rfl hd fun H' e1 e2 e3 => ?_
  refine kk p l e s m args below meth c C H' _ ls (fun k' b' i' ho' hf' => ?_) (hS.put e2 e3 (zad_A1 hG _ _ _)) hl
  by_cases he : k' = 36
  · subst he
    have hb' : b' = 0 ∧ i' = 0 := by
      have h := ho'
      unfold zok zokb at h
      simp only [Bool.and_eq_true, beq_iff_eq] at h
      exact ⟨h.2.1.1, h.2.1.2⟩
    obtain ⟨rfl, rfl⟩ := hb'
    unfold zat
    rw [if_neg (by decide), e1, nI_clamp (by decide), arrV_store]
    refine congrArg some (arrV_cg fun q hq => ?_)
    have hq0 : q = 0 := by have h1 : zln 36 = 1 := rfl; omega
    subst hq0
    show updV _ 0 _ 0 = Value.double (FP.ddiv (FP.i2d (up (up μ 36 0 0 0 a) 36 0 0 1 b 36 0 0 0)) (FP.i2d (up (up μ 36 0 0 0 a) 36 0 0 1 b 36 0 0 1)))
    rw [up_self, up_sl (by decide), up_self]
    simp [updV]
  · have hne : zad G.1 k' b' i' ≠ zad G.1 36 0 0 := fun z => he (zad_inj ho' zokc_36 z).1
    have h2 := (hW k' b' i' ho' hf').kept (e3 _ hne)
    unfold zat at h2 ⊢
    have e9 : zvl G.1 (up (up μ 36 0 0 0 a) 36 0 0 1 b) k' b' i' = zvl G.1 μ k' b' i' := by
      funext s'
      have u : ∀ k3 b3 i3 s3, k3 ≠ 36 → up (up μ 36 0 0 0 a) 36 0 0 1 b k3 b3 i3 s3 = μ k3 b3 i3 s3 := fun k3 b3 i3 s3 h => (up_k h).trans (up_k h)
      have u1 := fun b3 i3 s3 => u k' b3 i3 s3 he
      unfold zvl
      split <;> (try split) <;> first | rfl | (exact absurd rfl he) | (rw [u1]) | omega
    rw [e9]
    exact h2
end VOff
