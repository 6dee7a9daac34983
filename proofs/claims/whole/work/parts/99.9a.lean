/-! ===== the law from its start to its loop ===== -/
section LStart
variable {G : Gl}
theorem zof_cmp : ((List.range 37).all fun k => (List.range 11).all fun b => (List.range 16).all fun i => !zokb k b i || decide (zof k b i < 415)) = true := by decide +kernel
theorem zof_lt {k b i : Nat} (h : zok k b i) : zof k b i < 415 := by
  obtain ⟨hk, hb, hi⟩ := zok_lt h
  have h1 := List.all_eq_true.mp zof_cmp k (List.mem_range.mpr hk)
  have h2 := List.all_eq_true.mp h1 b (List.mem_range.mpr hb)
  have h3 := List.all_eq_true.mp h2 i (List.mem_range.mpr hi)
  rw [show zokb k b i = true from h] at h3
  simpa using h3
theorem Wn.whole {H : Heap} (h : Wn G (415, fc G) H) : Wd G μ0 H := by
  intro k b i ho hf
  have h1 := h.2 (zof k b i) (zof_lt ho)
  have e := fc_at G ho
  rw [show ((415, fc G) : Nat × Cs).2 = fc G from rfl, e] at h1
  exact h1
theorem c_V {hh : List (Nat × Nat × Nat × Nat)} {R : Room} {Qf : List Frame → Array Value → State → State → Prop} {pc : Nat} {L : List (Nat × Value)} {st : List Value} {cells slots : Nat} (kk : V G (mLaw hh) R Qf pc L st μ0 cells slots) : VC G (mLaw hh) R Qf pc L st (415, fc G) cells slots := by
  intro p l e s m args below meth c C H locs ls hW hS hl
  obtain ⟨h1, h2, h3, h4, h5, h6, h7, h8, h9, -, -, h12⟩ := C
  exact kk p l e s m args below meth c ⟨h1, h2, h3, h4, h5, h6, h7, h8, h9, h12 (show "law" ≠ "<init>" by decide)⟩ H locs ls hW.whole hS hl
theorem fc_413 : Ce (35, fun _ => Value.long 0) (fc G 413) := by
  have e : fc G 413 = (35, zvl G.1 μ0 35 0 0) := fc_at G zokc_35
  rw [e]
  exact ⟨rfl, fun j hj => rfl⟩
theorem dd_01 : FP.ddiv (FP.i2d 0) (FP.i2d 1) = 0 := by decide +kernel
theorem fc_414 : Ce (36, fun _ => Value.double 0) (fc G 414) := by
  have e : fc G 414 = (36, zvl G.1 μ0 36 0 0) := fc_at G zokc_36
  rw [e]
  refine ⟨rfl, fun j hj => ?_⟩
  show Value.double 0 = Value.double (FP.ddiv (FP.i2d 0) (FP.i2d 1))
  rw [dd_01]
set_option maxRecDepth 4000 in
theorem l_start {hh : List (Nat × Nat × Nat × Nat)} {b L : Nat} {xs : Nat → Int32} (hA : G.2.2.2 = true) (K : V G (mLaw hh) room_1 (QL G b L xs) 28 (LB G b (nI 0)) [] μ0 415 8385) : VC G (mLaw hh) room_1 (QL G b L xs) 0 [(0, .ref b)] [] (0, sc G 0) 0 0 := by
  refine c_new (n := 3) (N := 9) dL_law_0 rfl (k := 9) (by decide) rfl ki_L_8 in_X7 ini_RX7 iw_X7 tyX7_ok (by show Ce _ (9, sF G 0); refine ⟨rfl, fun j hj => ?_⟩; have hj3 : j < 9 := hj; match j, hj3 with | 0, _ => rfl | 1, _ => rfl | 2, _ => rfl | 3, _ => rfl | 4, _ => rfl | 5, _ => rfl | 6, _ => rfl | 7, _ => rfl | 8, _ => rfl) (Nat.le_of_ble_eq_true rfl) (Nat.le_of_ble_eq_true rfl) ?_
  refine c_dup (n := 4) dL_law_3 rfl rfl ?_
  refine c_ctor (n := 7) dL_law_4 rfl li_L_139 (Nat.le_of_ble_eq_true rfl) ⟨Nat.le_of_ble_eq_true rfl, Nat.le_of_ble_eq_true rfl, Nat.le_of_ble_eq_true rfl, Nat.le_of_ble_eq_true rfl⟩ (k_X7 hA) ?_
  refine c_astore_n (n := 8) (L' := [(0, .ref b), (1, .ref (zad G.1 9 0 0))]) dL_law_7 rfl (show 2 ≤ 9 by decide) rfl ?_
  refine c_eq (c' := mc G 0) (fun q hq => ?_) ?_
  · show Ce (sc G 7 q) (mc G 0 q)
    have hq2 : q < 403 := hq
    rw [mc_ne (by omega)]
    by_cases h : q = 0
    · subst h
      exact fc_0
    · exact Ce.of (sc_ne h)
  refine c_new (n := 11) (N := 20) dL_law_8 rfl (k := 10) (by decide) rfl ki_L_140 in_X8 ini_RX8 iw_X8 tyX8_ok (by show Ce _ (10, mF G 0); refine ⟨rfl, fun j hj => ?_⟩; have hj3 : j < 20 := hj; match j, hj3 with | 0, _ => rfl | 1, _ => rfl | 2, _ => rfl | 3, _ => rfl | 4, _ => rfl | 5, _ => rfl | 6, _ => rfl | 7, _ => rfl | 8, _ => rfl | 9, _ => rfl | 10, _ => rfl | 11, _ => rfl | 12, _ => rfl | 13, _ => rfl | 14, _ => rfl | 15, _ => rfl | 16, _ => rfl | 17, _ => rfl | 18, _ => rfl | 19, _ => rfl | j + 20, h => exact absurd h (by omega)) (Nat.le_of_ble_eq_true rfl) (Nat.le_of_ble_eq_true rfl) ?_
  refine c_dup (n := 12) dL_law_11 rfl rfl ?_
  refine c_ctor (n := 15) dL_law_12 rfl li_L_142 (Nat.le_of_ble_eq_true rfl) ⟨Nat.le_of_ble_eq_true rfl, Nat.le_of_ble_eq_true rfl, Nat.le_of_ble_eq_true rfl, Nat.le_of_ble_eq_true rfl⟩ (k_X8 hA) ?_
  refine c_astore_n (n := 16) (L' := [(0, .ref b), (1, .ref (zad G.1 9 0 0)), (2, .ref (zad G.1 10 0 0))]) dL_law_15 rfl (show 3 ≤ 9 by decide) rfl ?_
  refine c_eq (c' := fc G) (fun q hq => ?_) ?_
  · show Ce (mc G 9 q) (fc G q)
    by_cases h : q = 403
    · subst h
      exact fc_403
    · exact Ce.of (mc_ne h)
  refine c_iconst (n := 17) (x := nI 1) dL_law_16 rfl rfl ?_
  refine c_newarr (n := 19) (k := 35) (N := 1) dL_law_17 rfl (by decide) (by decide) rfl rfl rfl ar_long (by decide) fc_413 (Nat.le_of_ble_eq_true rfl) (Nat.le_of_ble_eq_true rfl) ?_
  refine c_astore_n (n := 20) (L' := [(0, .ref b), (1, .ref (zad G.1 9 0 0)), (2, .ref (zad G.1 10 0 0)), (3, .ref (zad G.1 35 0 0))]) dL_law_19 rfl (show 4 ≤ 9 by decide) rfl ?_
  refine c_iconst (n := 21) (x := nI 1) dL_law_20 rfl rfl ?_
  refine c_newarr (n := 23) (k := 36) (N := 1) dL_law_21 rfl (by decide) (by decide) rfl rfl rfl ar_double (by decide) fc_414 (Nat.le_of_ble_eq_true rfl) (Nat.le_of_ble_eq_true rfl) ?_
  refine c_astore (n := 25) (L' := [(0, .ref b), (1, .ref (zad G.1 9 0 0)), (2, .ref (zad G.1 10 0 0)), (3, .ref (zad G.1 35 0 0)), (4, .ref (zad G.1 36 0 0))]) dL_law_23 rfl (show 5 ≤ 9 by decide) rfl ?_
  refine c_iconst (n := 26) (x := nI 0) dL_law_25 rfl rfl ?_
  refine c_istore (n := 28) (L' := LB G b (nI 0)) dL_law_26 rfl (show 6 ≤ 9 by decide) rfl ?_
  exact c_V K
end LStart
