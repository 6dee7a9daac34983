section Rest
variable {G : Gl}
theorem c_norm {Y : MD} {R : Room} {Qf : List Frame → Array Value → State → State → Prop} {pc n1 n2 cells cells' slots slots' : Nat} {L : List (Nat × Value)} {st : List Value} {c : Cs} (h1 : n1 = n2) (h2 : cells = cells') (h3 : slots = slots') (k : VC G Y R Qf pc L st (n2, c) cells' slots') : VC G Y R Qf pc L st (n1, c) cells slots := by
  subst h1; subst h2; subst h3; exact k
def cu (c : Cs) (q0 k : Nat) (f : Nat → Value) : Cs := fun q => if q = q0 then (k, f) else c q
theorem cu_at (c : Cs) (q0 k : Nat) (f : Nat → Value) : cu c q0 k f q0 = (k, f) := if_pos rfl
theorem cu_ne {c : Cs} {q0 k q : Nat} {f : Nat → Value} (h : q ≠ q0) : cu c q0 k f q = c q := if_neg h
theorem μ0_z {k b i s : Nat} (h : k ≠ 9) (h2 : k ≠ 36) : μ0 k b i s = 0 := by
  unfold μ0
  rw [if_neg (fun z => h z.1), if_neg (fun z => h2 z.1)]
/-- an area as its constructor leaves it is the world's -/
theorem ac_fc {b q : Nat} {c : Cs} (hb : b < 11) (h1 : zab b ≤ q) (h2 : q < zab b + 36) : Ce (ac G (zab b) c 3 16 q) (fc G q) := by
  have zv : ∀ {k b i s : Nat}, k ≠ 9 → k ≠ 36 → Value.int 0 = Value.int (μ0 k b i s) := fun h h2 => by rw [μ0_z h h2]
  rcases Nat.lt_or_ge q (zab b + 1) with h | h
  · obtain rfl : q = zab b := by omega
    have e : fc G (zab b) = (2, zvl G.1 μ0 2 b 0) := fc_at G (zok_2 hb)
    rw [ac_0, e]
    refine ⟨rfl, fun j hj => ?_⟩
    match j with
    | 0 => rfl
    | 1 => rfl
    | 2 => rfl
    | j + 3 => exact zv (by decide) (by decide)
  rcases Nat.lt_or_ge q (zab b + 2) with h3 | h3
  · obtain rfl : q = zab b + 1 := by omega
    have e : fc G (zab b + 1) = (20, zvl G.1 μ0 20 b 0) := fc_at G (zok_20 hb)
    rw [ac_1, e]
    refine ⟨rfl, fun j hj => ?_⟩
    have hj6 : j < 6 := hj
    show rwf G (zab b + 2) 6 j = Value.ref (zad G.1 6 b j)
    unfold rwf
    rw [if_pos hj6]
    rfl
  rcases Nat.lt_or_ge q (zab b + 8) with h4 | h4
  · obtain ⟨i, rfl⟩ : ∃ i, q = zab b + 2 + i := ⟨q - (zab b + 2), by omega⟩
    have e : fc G (zab b + 2 + i) = (6, zvl G.1 μ0 6 b i) := fc_at G (zok_6 hb (by omega))
    rw [ac_l h3 h4, e]
    exact ⟨rfl, fun j hj => zv (by decide) (by decide)⟩
  rcases Nat.lt_or_ge q (zab b + 9) with h5 | h5
  · obtain rfl : q = zab b + 8 := by omega
    have e : fc G (zab b + 8) = (21, zvl G.1 μ0 21 b 0) := fc_at G (zok_21 hb)
    rw [ac_8, e]
    refine ⟨rfl, fun j hj => ?_⟩
    have hj6 : j < 10 := hj
    show rwf G (zab b + 9) 10 j = Value.ref (zad G.1 7 b j)
    unfold rwf
    rw [if_pos hj6]
    rfl
  rcases Nat.lt_or_ge q (zab b + 19) with h6 | h6
  · obtain ⟨i, rfl⟩ : ∃ i, q = zab b + 9 + i := ⟨q - (zab b + 9), by omega⟩
    have e : fc G (zab b + 9 + i) = (7, zvl G.1 μ0 7 b i) := fc_at G (zok_7 hb (by omega))
    rw [ac_p h5 h6, e]
    exact ⟨rfl, fun j hj => zv (by decide) (by decide)⟩
  rcases Nat.lt_or_ge q (zab b + 20) with h7 | h7
  · obtain rfl : q = zab b + 19 := by omega
    have e : fc G (zab b + 19) = (22, zvl G.1 μ0 22 b 0) := fc_at G (zok_22 hb)
    rw [ac_19, e]
    refine ⟨rfl, fun j hj => ?_⟩
    have hj6 : j < 16 := hj
    show rwf G (zab b + 20) 16 j = Value.ref (zad G.1 3 b j)
    unfold rwf
    rw [if_pos hj6]
    rfl
  · obtain ⟨i, rfl⟩ : ∃ i, q = zab b + 20 + i := ⟨q - (zab b + 20), by omega⟩
    have e : fc G (zab b + 20 + i) = (3, zvl G.1 μ0 3 b i) := fc_at G (zok_3 hb (by omega))
    rw [ac_g h7, e]
    exact ⟨rfl, fun j hj => zv (by decide) (by decide)⟩
theorem k_X3 (hA : G.2.2.2 = true) (q0 : Nat) (c : Cs) (h0 : (c q0).1 = 5) (h1 : Ce (24, zi) (c (q0 + 1))) : ConC G nX3 [.ref (G.1 + q0)] (q0 + 1, c) (q0 + 2, cu c q0 5 (updV (c q0).2 0 (.ref (G.1 + (q0 + 1))))) := by
  refine conC_of pn_X3 rfl (Nat.le_of_ble_eq_true rfl) ?_
  show VC G nX3 nX3.2.2.2.2.1 _ 0 [(0, .ref (G.1 + q0))] [] _ 0 0
  refine c_aload_n (n := 1) dX3_init_0 rfl rfl ?_
  refine c_obj (n := 4) dX3_init_1 rfl oi_X3_3 oi_inst oi_code ⟨Nat.le_of_ble_eq_true rfl, Nat.le_of_ble_eq_true rfl⟩ ?_
  refine c_aload_n (n := 5) dX3_init_4 rfl rfl ?_
  refine c_bipush (n := 7) (x := nI 60) dX3_init_5 rfl rfl ?_
  refine c_newarr (n := 9) (k := 24) (N := 60) dX3_init_7 rfl (by decide) (by decide) rfl rfl rfl ar_char (by decide) h1 (Nat.le_of_ble_eq_true rfl) (Nat.le_of_ble_eq_true rfl) ?_
  refine c_putr (n := 12) (q0 := q0) (c' := cu c q0 5 (updV (c q0).2 0 (.ref (G.1 + (q0 + 1))))) dX3_init_9 rfl hA rfl ff_X3_9 (show q0 < q0 + 1 + 1 by omega) h0 rfl rfl (Ce.of (cu_at _ _ _ _).symm) (fun q hq hne => Ce.of (cu_ne hne).symm) ?_
  exact c_ret dX3_init_12 rfl rfl rfl
theorem k_X6 (hA : G.2.2.2 = true) (q0 : Nat) (c : Cs) (h0 : (c q0).1 = 8) (h1 : Ce (25, zi) (c (q0 + 1))) : ConC G nX6 [.ref (G.1 + q0)] (q0 + 1, c) (q0 + 2, cu c q0 8 (updV (c q0).2 0 (.ref (G.1 + (q0 + 1))))) := by
  refine conC_of pn_X6 rfl (Nat.le_of_ble_eq_true rfl) ?_
  show VC G nX6 nX6.2.2.2.2.1 _ 0 [(0, .ref (G.1 + q0))] [] _ 0 0
  refine c_aload_n (n := 1) dX6_init_0 rfl rfl ?_
  refine c_obj (n := 4) dX6_init_1 rfl oi_X6_3 oi_inst oi_code ⟨Nat.le_of_ble_eq_true rfl, Nat.le_of_ble_eq_true rfl⟩ ?_
  refine c_aload_n (n := 5) dX6_init_4 rfl rfl ?_
  refine c_bipush (n := 7) (x := nI 8) dX6_init_5 rfl rfl ?_
  refine c_newarr (n := 9) (k := 25) (N := 8) dX6_init_7 rfl (by decide) (by decide) rfl rfl rfl ar_int (by decide) h1 (Nat.le_of_ble_eq_true rfl) (Nat.le_of_ble_eq_true rfl) ?_
  refine c_putr (n := 12) (q0 := q0) (c' := cu c q0 8 (updV (c q0).2 0 (.ref (G.1 + (q0 + 1))))) dX6_init_9 rfl hA rfl ff_X6_9 (show q0 < q0 + 1 + 1 by omega) h0 rfl rfl (Ce.of (cu_at _ _ _ _).symm) (fun q hq hne => Ce.of (cu_ne hne).symm) ?_
  exact c_ret dX6_init_12 rfl rfl rfl
/-- a history under construction -/
def hF (G : Gl) (ph : Nat) : Nat → Value := fun s => match s with
  | 0 => if 1 ≤ ph then .ref (G.1 + 110) else .null
  | _ => .int 0
def rwh (G : Gl) (i : Nat) : Nat → Value := fun s => if s < i then .ref (G.1 + zab (s + 3)) else .null
def hc (G : Gl) (c : Cs) (ph i : Nat) : Cs := fun q => if q < 109 then c q else if q = 109 then (4, hF G ph) else if q = 110 then (23, rwh G i) else fc G q
theorem hc_lo {c : Cs} {ph i q : Nat} (h : q < 109) : hc G c ph i q = c q := if_pos h
theorem hc_109 {c : Cs} {ph i : Nat} : hc G c ph i 109 = (4, hF G ph) := rfl
theorem hc_110 {c : Cs} {ph i : Nat} : hc G c ph i 110 = (23, rwh G i) := rfl
theorem hc_hi {c : Cs} {ph i q : Nat} (h : 111 ≤ q) : hc G c ph i q = fc G q := by unfold hc; rw [if_neg (by omega), if_neg (by omega), if_neg (by omega)]
theorem zab_3 (i : Nat) : zab (i + 3) = 111 + 36 * i := by unfold zab; rw [if_neg (by omega)]; omega
theorem aFl_0 (z j : Nat) (hj : j < 9) : defaultValue (tyX0 j) = aFl G z 0 j := by
  match j, hj with
  | 0, _ => rfl
  | 1, _ => rfl
  | 2, _ => rfl
  | 3, _ => rfl
  | 4, _ => rfl
  | 5, _ => rfl
  | 6, _ => rfl
  | 7, _ => rfl
  | 8, _ => rfl
theorem k_X2_1 (hA : G.2.2.2 = true) {c : Cs} {w' : Nat × Cs} (K : VC G nX2 nX2.2.2.2.2.1 (QMC G nX2 w') 40 [(0, .ref (G.1 + 109)), (1, .int (nI 8))] [] (399, hc G c 1 8) 289 2864) : ∀ k i : Nat, i + k = 8 → VC G nX2 nX2.2.2.2.2.1 (QMC G nX2 w') 15 [(0, .ref (G.1 + 109)), (1, .int (nI i))] [] (111 + 36 * i, hc G c 1 i) (1 + 36 * i) (8 + 357 * i) := by
  intro k
  induction k with
  | zero =>
    intro i hi
    obtain rfl : i = 8 := by omega
    refine c_iload_n (n := 16) dX2_init_15 rfl rfl ?_
    refine c_bipush (n := 18) (x := nI 8) dX2_init_16 rfl rfl ?_
    exact c_icmp_ge (n := 21) (t := 40) dX2_init_18 rfl (by decide) (fun _ => K) (fun q => absurd (by decide) q)
  | succ k ih =>
    intro i hi
    have hi2 : i < 8 := by omega
    have hz : zab (i + 3) = 111 + 36 * i := zab_3 i
    refine c_iload_n (n := 16) dX2_init_15 rfl rfl ?_
    refine c_bipush (n := 18) (x := nI 8) dX2_init_16 rfl rfl ?_
    refine c_icmp_ge (n := 21) (t := 40) dX2_init_18 rfl (by decide) (fun q => absurd q (by rw [nI_leI (by decide) (by omega)]; omega)) (fun _ => ?_)
    refine c_aload_n (n := 22) dX2_init_21 rfl rfl ?_
    refine c_getf (n := 25) (v := .ref (G.1 + 110)) dX2_init_22 rfl fl_X2_11 (show 109 < 111 + 36 * i by omega) rfl rfl ?_
    refine c_iload_n (n := 26) dX2_init_25 rfl rfl ?_
    refine c_eq (c' := ac G (111 + 36 * i) (hc G c 1 i) 0 0) (fun q hq => Ce.of (ac_lo hq).symm) ?_
    refine c_new (n := 29) (N := 9) dX2_init_26 rfl (k := 2) (by decide) rfl ki_X2_9 in_X0 ini_RX0 iw_X0 tyX0_ok (by show Ce _ (ac G (111 + 36 * i) (hc G c 1 i) 0 0 (111 + 36 * i)); rw [ac_0]; exact ⟨rfl, fun j hj => aFl_0 _ j hj⟩) (show 1 + 36 * i + 1 ≤ 289 by omega) (show 8 + 357 * i + 9 ≤ 2864 by omega) ?_
    refine c_dup (n := 30) dX2_init_29 rfl rfl ?_
    refine c_ctor (n := 33) dX2_init_30 rfl li_X2_17 (Nat.le_of_ble_eq_true rfl) ⟨Nat.le_of_ble_eq_true rfl, Nat.le_of_ble_eq_true rfl, (show 1 + 36 * i + 1 + 35 ≤ 289 by omega), (show 8 + 357 * i + 9 + 348 ≤ 2864 by omega)⟩ (k_X0 hA (111 + 36 * i) (hc G c 1 i)) ?_
    refine c_eq (c' := hc G c 1 i) (fun q hq => ?_) ?_
    · show Ce (ac G (111 + 36 * i) (hc G c 1 i) 3 16 q) (hc G c 1 i q)
      rcases Nat.lt_or_ge q (111 + 36 * i) with h | h
      · exact Ce.of (ac_lo h)
      · rw [hc_hi (by omega)]
        have hq2 : q < 111 + 36 * i + 36 := hq
        have h9 := ac_fc (G := G) (c := hc G c 1 i) (b := i + 3) (q := q) (by omega) (by omega) (by omega)
        rw [hz] at h9
        exact h9
    · refine c_aast (n := 34) (q0 := 110) (qv := 111 + 36 * i) (k := 23) (kv := 2) (j := i) (N := 8) (c' := hc G c 1 (i + 1)) dX2_init_33 rfl hA (show 110 < 111 + 36 * i + 36 by omega) rfl (by decide) (by decide) rfl rfl (show 111 + 36 * i < 111 + 36 * i + 36 by omega) ?_ (by decide) rfl rfl hi2 ?_ (fun q hq hne => ?_) ?_
      · show (hc G c 1 i (111 + 36 * i)).1 = 2
        rw [hc_hi (by omega), ← hz]
        have e : fc G (zab (i + 3)) = (2, zvl G.1 μ0 2 (i + 3) 0) := fc_at G (zok_2 (by omega))
        rw [e]
      · show Ce (23, updV (rwh G i) i (.ref (G.1 + (111 + 36 * i)))) (23, rwh G (i + 1))
        refine Ce.of (congrArg (Prod.mk 23) ?_)
        funext s
        unfold updV rwh
        by_cases h : s = i
        · subst h
          rw [if_pos rfl, if_pos (by omega), hz]
        · rw [if_neg h]
          by_cases h2 : s < i
          · rw [if_pos h2, if_pos (by omega)]
          · rw [if_neg h2, if_neg (by omega)]
      · show Ce (hc G c 1 i q) (hc G c 1 (i + 1) q)
        unfold hc
        exact Ce.of (by rw [if_neg hne, if_neg hne])
      · refine c_iinc (n := 37) (L' := [(0, .ref (G.1 + 109)), (1, .int (nI (i + 1)))]) dX2_init_34 rfl rfl (show nI i + Int32.ofInt 1 = nI (i + 1) by rw [show Int32.ofInt 1 = nI 1 by decide, nI_add]) (by decide) rfl ?_
        refine c_goto (n := 15) dX2_init_37 (by decide) ?_
        refine c_norm (n2 := 111 + 36 * (i + 1)) (cells' := 1 + 36 * (i + 1)) (slots' := 8 + 357 * (i + 1)) ?_ ?_ ?_ (ih (i + 1) (by omega))
        · omega
        · show 1 + 36 * i + 1 + 35 = _
          omega
        · show 8 + 357 * i + 9 + 348 = _
          omega
theorem k_X2 (hA : G.2.2.2 = true) (c : Cs) : ConC G nX2 [.ref (G.1 + 109)] (110, hc G c 0 0) (399, hc G c 1 8) := by
  refine conC_of pn_X2 rfl (Nat.le_of_ble_eq_true rfl) ?_
  show VC G nX2 nX2.2.2.2.2.1 _ 0 [(0, .ref (G.1 + 109))] [] _ 0 0
  refine c_aload_n (n := 1) dX2_init_0 rfl rfl ?_
  refine c_obj (n := 4) dX2_init_1 rfl oi_X2_3 oi_inst oi_code ⟨Nat.le_of_ble_eq_true rfl, Nat.le_of_ble_eq_true rfl⟩ ?_
  refine c_aload_n (n := 5) dX2_init_4 rfl rfl ?_
  refine c_bipush (n := 7) (x := nI 8) dX2_init_5 rfl rfl ?_
  refine c_anew (n := 10) (k := 23) (N := 8) dX2_init_7 rfl (by decide) (by decide) rfl rfl rfl ki_X2_9 (by show Ce _ (23, rwh G 0); exact ⟨rfl, fun j hj => by show Value.null = rwh G 0 j; unfold rwh; rw [if_neg (by omega)]⟩) (Nat.le_of_ble_eq_true rfl) (Nat.le_of_ble_eq_true rfl) ?_
  refine c_putr (n := 13) (q0 := 109) (c' := hc G c 1 0) dX2_init_10 rfl hA rfl ff_X2_11 (show 109 < 111 by decide) rfl rfl rfl ?_ (fun q hq hne => ?_) ?_
  · show Ce (4, updV (hF G 0) 0 (.ref (G.1 + 110))) (4, hF G 1)
    refine Ce.of (congrArg (Prod.mk 4) ?_)
    funext s
    match s with
    | 0 => rfl
    | n + 1 => rfl
  · show Ce (hc G c 0 0 q) (hc G c 1 0 q)
    unfold hc
    exact Ce.of (by rw [if_neg hne, if_neg hne])
  refine c_iconst (n := 14) (x := nI 0) dX2_init_13 rfl rfl ?_
  refine c_istore_n (n := 15) (L' := [(0, .ref (G.1 + 109)), (1, .int (nI 0))]) dX2_init_14 rfl (by decide) rfl ?_
  refine k_X2_1 hA ?_ 8 0 rfl
  exact c_ret dX2_init_40 rfl rfl rfl
end Rest
