section Main0
variable {G : Gl}
def sF (G : Gl) (p : Nat) : Nat → Value := fun s => match s with
  | 0 => if 1 ≤ p then .ref (G.1 + 1) else .null
  | 1 => if 2 ≤ p then .ref (G.1 + 37) else .null
  | 2 => if 3 ≤ p then .ref (G.1 + 73) else .null
  | 3 => if 4 ≤ p then .ref (G.1 + 109) else .null
  | 4 => if 5 ≤ p then .ref (G.1 + 399) else .null
  | 5 => if 6 ≤ p then .ref (G.1 + 401) else .null
  | 8 => .int (if 7 ≤ p then -1 else 0)
  | _ => .int 0
def sc (G : Gl) (p : Nat) : Cs := fun q => if q = 0 then (9, sF G p) else fc G q
theorem sc_0 (p : Nat) : sc G p 0 = (9, sF G p) := rfl
theorem sc_ne {p q : Nat} (h : q ≠ 0) : sc G p q = fc G q := if_neg h
theorem sc_sc {p p' q : Nat} (h : q ≠ 0) : Ce (sc G p q) (sc G p' q) := Ce.of (by rw [sc_ne h, sc_ne h])
def iF0 : Nat → Value := fun s => match s with
  | 0 => .null
  | _ => .int 0
def wF0 : Nat → Value := fun _ => .null
theorem fc_24 : Ce (24, zi) (fc G 400) := by
  have e : fc G 400 = (24, zvl G.1 μ0 24 0 0) := fc_at G zokc_24
  rw [e]
  exact ⟨rfl, fun j hj => rfl⟩
theorem fc_25 : Ce (25, zi) (fc G 402) := by
  have e : fc G 402 = (25, zvl G.1 μ0 25 0 0) := fc_at G zokc_25
  rw [e]
  exact ⟨rfl, fun j hj => rfl⟩
theorem fc_109 : Ce (4, hF G 1) (fc G 109) := by
  have e : fc G 109 = (4, zvl G.1 μ0 4 0 0) := fc_at G zokc_4
  rw [e]
  refine ⟨rfl, fun j hj => ?_⟩
  match j with
  | 0 => rfl
  | j + 1 => rfl
theorem fc_110 : Ce (23, rwh G 8) (fc G 110) := by
  have e : fc G 110 = (23, zvl G.1 μ0 23 0 0) := fc_at G zokc_23
  rw [e]
  refine ⟨rfl, fun j hj => ?_⟩
  have hj8 : j < 8 := hj
  show rwh G 8 j = Value.ref (zad G.1 2 (j + 3) 0)
  unfold rwh
  rw [if_pos hj8]
  rfl
theorem fc_399 : Ce (5, updV iF0 0 (.ref (G.1 + 400))) (fc G 399) := by
  have e : fc G 399 = (5, zvl G.1 μ0 5 0 0) := fc_at G zokc_5
  rw [e]
  refine ⟨rfl, fun j hj => ?_⟩
  match j with
  | 0 => rfl
  | j + 1 => rfl
theorem fc_401 : Ce (8, updV wF0 0 (.ref (G.1 + 402))) (fc G 401) := by
  have e : fc G 401 = (8, zvl G.1 μ0 8 0 0) := fc_at G zokc_8
  rw [e]
  refine ⟨rfl, fun j hj => ?_⟩
  have hj1 : j < 1 := hj
  obtain rfl : j = 0 := by omega
  rfl
theorem fc_0 : Ce (9, sF G 7) (fc G 0) := by
  have e : fc G 0 = (9, zvl G.1 μ0 9 0 0) := fc_at G zokc_9
  rw [e]
  refine ⟨rfl, fun j hj => ?_⟩
  have hj9 : j < 9 := hj
  match j, hj9 with
  | 0, _ => rfl
  | 1, _ => rfl
  | 2, _ => rfl
  | 3, _ => rfl
  | 4, _ => rfl
  | 5, _ => rfl
  | 6, _ => rfl
  | 7, _ => rfl
  | 8, _ => rfl
set_option maxRecDepth 4000 in
theorem k_X7 (hA : G.2.2.2 = true) : ConC G nX7 [.ref (G.1 + 0)] (1, sc G 0) (403, sc G 7) := by
  refine conC_of pn_X7 rfl (Nat.le_of_ble_eq_true rfl) ?_
  show VC G nX7 nX7.2.2.2.2.1 _ 0 [(0, .ref (G.1 + 0))] [] _ 0 0
  refine c_aload_n (n := 1) dX7_init_0 rfl rfl ?_
  refine c_obj (n := 4) dX7_init_1 rfl oi_X7_3 oi_inst oi_code ⟨Nat.le_of_ble_eq_true rfl, Nat.le_of_ble_eq_true rfl⟩ ?_
  refine c_aload_n (n := 5) dX7_init_4 rfl rfl ?_
  refine c_eq (c' := ac G 1 (sc G 0) 0 0) (fun q hq => Ce.of (ac_lo hq).symm) ?_
  refine c_new (n := 8) (N := 9) dX7_init_5 rfl (k := 2) (by decide) rfl ki_X7_9 in_X0 ini_RX0 iw_X0 tyX0_ok (by show Ce _ (ac G 1 (sc G 0) 0 0 1); rw [ac_0]; exact ⟨rfl, fun j hj => aFl_0 _ j hj⟩) (Nat.le_of_ble_eq_true rfl) (Nat.le_of_ble_eq_true rfl) ?_
  refine c_dup (n := 9) dX7_init_8 rfl rfl ?_
  refine c_ctor (n := 12) dX7_init_9 rfl li_X7_11 (Nat.le_of_ble_eq_true rfl) ⟨Nat.le_of_ble_eq_true rfl, Nat.le_of_ble_eq_true rfl, Nat.le_of_ble_eq_true rfl, Nat.le_of_ble_eq_true rfl⟩ (k_X0 hA 1 (sc G 0)) ?_
  refine c_eq (c' := sc G 0) (fun q hq => ?_) ?_
  · show Ce (ac G 1 (sc G 0) 3 16 q) (sc G 0 q)
    have hq2 : q < 37 := hq
    rcases Nat.lt_or_ge q 1 with h | h
    · exact Ce.of (ac_lo h)
    · rw [sc_ne (by omega)]
      exact ac_fc (G := G) (b := 0) (by decide) (show 1 ≤ q from h) (show q < 1 + 36 by omega)
  refine c_putr (n := 15) (q0 := 0) (c' := sc G 1) dX7_init_12 rfl hA rfl ff_X7_12 (show 0 < 37 by decide) rfl rfl rfl ?_ (fun q hq hne => sc_sc hne) ?_
  · show Ce (9, updV (sF G 0) 0 (.ref (G.1 + 1))) (9, sF G 1)
    refine Ce.of (congrArg (Prod.mk 9) ?_)
    funext s
    match s with
    | 0 => rfl
    | 1 => rfl
    | 2 => rfl
    | 3 => rfl
    | 4 => rfl
    | 5 => rfl
    | 6 => rfl
    | 7 => rfl
    | 8 => rfl
    | n + 9 => rfl
  refine c_aload_n (n := 16) dX7_init_15 rfl rfl ?_
  refine c_eq (c' := ac G 37 (sc G 1) 0 0) (fun q hq => Ce.of (ac_lo hq).symm) ?_
  refine c_new (n := 19) (N := 9) dX7_init_16 rfl (k := 2) (by decide) rfl ki_X7_9 in_X0 ini_RX0 iw_X0 tyX0_ok (by show Ce _ (ac G 37 (sc G 1) 0 0 37); rw [ac_0]; exact ⟨rfl, fun j hj => aFl_0 _ j hj⟩) (Nat.le_of_ble_eq_true rfl) (Nat.le_of_ble_eq_true rfl) ?_
  refine c_dup (n := 20) dX7_init_19 rfl rfl ?_
  refine c_ctor (n := 23) dX7_init_20 rfl li_X7_11 (Nat.le_of_ble_eq_true rfl) ⟨Nat.le_of_ble_eq_true rfl, Nat.le_of_ble_eq_true rfl, Nat.le_of_ble_eq_true rfl, Nat.le_of_ble_eq_true rfl⟩ (k_X0 hA 37 (sc G 1)) ?_
  refine c_eq (c' := sc G 1) (fun q hq => ?_) ?_
  · show Ce (ac G 37 (sc G 1) 3 16 q) (sc G 1 q)
    have hq2 : q < 73 := hq
    rcases Nat.lt_or_ge q 37 with h | h
    · exact Ce.of (ac_lo h)
    · rw [sc_ne (by omega)]
      exact ac_fc (G := G) (b := 1) (by decide) (show 37 ≤ q from h) (show q < 37 + 36 by omega)
  refine c_putr (n := 26) (q0 := 0) (c' := sc G 2) dX7_init_23 rfl hA rfl ff_X7_16 (show 0 < 73 by decide) rfl rfl rfl ?_ (fun q hq hne => sc_sc hne) ?_
  · show Ce (9, updV (sF G 1) 1 (.ref (G.1 + 37))) (9, sF G 2)
    refine Ce.of (congrArg (Prod.mk 9) ?_)
    funext s
    match s with
    | 0 => rfl
    | 1 => rfl
    | 2 => rfl
    | 3 => rfl
    | 4 => rfl
    | 5 => rfl
    | 6 => rfl
    | 7 => rfl
    | 8 => rfl
    | n + 9 => rfl
  refine c_aload_n (n := 27) dX7_init_26 rfl rfl ?_
  refine c_eq (c' := ac G 73 (sc G 2) 0 0) (fun q hq => Ce.of (ac_lo hq).symm) ?_
  refine c_new (n := 30) (N := 9) dX7_init_27 rfl (k := 2) (by decide) rfl ki_X7_9 in_X0 ini_RX0 iw_X0 tyX0_ok (by show Ce _ (ac G 73 (sc G 2) 0 0 73); rw [ac_0]; exact ⟨rfl, fun j hj => aFl_0 _ j hj⟩) (Nat.le_of_ble_eq_true rfl) (Nat.le_of_ble_eq_true rfl) ?_
  refine c_dup (n := 31) dX7_init_30 rfl rfl ?_
  refine c_ctor (n := 34) dX7_init_31 rfl li_X7_11 (Nat.le_of_ble_eq_true rfl) ⟨Nat.le_of_ble_eq_true rfl, Nat.le_of_ble_eq_true rfl, Nat.le_of_ble_eq_true rfl, Nat.le_of_ble_eq_true rfl⟩ (k_X0 hA 73 (sc G 2)) ?_
  refine c_eq (c' := sc G 2) (fun q hq => ?_) ?_
  · show Ce (ac G 73 (sc G 2) 3 16 q) (sc G 2 q)
    have hq2 : q < 109 := hq
    rcases Nat.lt_or_ge q 73 with h | h
    · exact Ce.of (ac_lo h)
    · rw [sc_ne (by omega)]
      exact ac_fc (G := G) (b := 2) (by decide) (show 73 ≤ q from h) (show q < 73 + 36 by omega)
  refine c_putr (n := 37) (q0 := 0) (c' := sc G 3) dX7_init_34 rfl hA rfl ff_X7_19 (show 0 < 109 by decide) rfl rfl rfl ?_ (fun q hq hne => sc_sc hne) ?_
  · show Ce (9, updV (sF G 2) 2 (.ref (G.1 + 73))) (9, sF G 3)
    refine Ce.of (congrArg (Prod.mk 9) ?_)
    funext s
    match s with
    | 0 => rfl
    | 1 => rfl
    | 2 => rfl
    | 3 => rfl
    | 4 => rfl
    | 5 => rfl
    | 6 => rfl
    | 7 => rfl
    | 8 => rfl
    | n + 9 => rfl
  refine c_aload_n (n := 38) dX7_init_37 rfl rfl ?_
  refine c_eq (c' := hc G (sc G 3) 0 0) (fun q hq => Ce.of (hc_lo hq).symm) ?_
  refine c_new (n := 41) (N := 3) dX7_init_38 rfl (k := 4) (by decide) rfl ki_X7_22 in_X2 ini_RX2 iw_X2 tyX2_ok (by show Ce _ (4, hF G 0); refine ⟨rfl, fun j hj => ?_⟩; have hj3 : j < 3 := hj; match j, hj3 with | 0, _ => rfl | 1, _ => rfl | 2, _ => rfl) (Nat.le_of_ble_eq_true rfl) (Nat.le_of_ble_eq_true rfl) ?_
  refine c_dup (n := 42) dX7_init_41 rfl rfl ?_
  refine c_ctor (n := 45) dX7_init_42 rfl li_X7_24 (Nat.le_of_ble_eq_true rfl) ⟨Nat.le_of_ble_eq_true rfl, Nat.le_of_ble_eq_true rfl, Nat.le_of_ble_eq_true rfl, Nat.le_of_ble_eq_true rfl⟩ (k_X2 hA (sc G 3)) ?_
  refine c_eq (c' := sc G 3) (fun q hq => ?_) ?_
  · show Ce (hc G (sc G 3) 1 8 q) (sc G 3 q)
    rcases Nat.lt_or_ge q 109 with h | h
    · exact Ce.of (hc_lo h)
    · rw [sc_ne (by omega)]
      rcases Nat.lt_or_ge q 111 with h2 | h2
      · rcases (show q = 109 ∨ q = 110 by omega) with rfl | rfl
        · exact fc_109
        · exact fc_110
      · exact Ce.of (hc_hi h2)
  refine c_putr (n := 48) (q0 := 0) (c' := sc G 4) dX7_init_45 rfl hA rfl ff_X7_25 (show 0 < 399 by decide) rfl rfl rfl ?_ (fun q hq hne => sc_sc hne) ?_
  · show Ce (9, updV (sF G 3) 3 (.ref (G.1 + 109))) (9, sF G 4)
    refine Ce.of (congrArg (Prod.mk 9) ?_)
    funext s
    match s with
    | 0 => rfl
    | 1 => rfl
    | 2 => rfl
    | 3 => rfl
    | 4 => rfl
    | 5 => rfl
    | 6 => rfl
    | 7 => rfl
    | 8 => rfl
    | n + 9 => rfl
  refine c_aload_n (n := 49) dX7_init_48 rfl rfl ?_
  refine c_eq (c' := cu (sc G 4) 399 5 iF0) (fun q hq => Ce.of (cu_ne (show q ≠ 399 by have : q < 399 := hq; omega)).symm) ?_
  refine c_new (n := 52) (N := 7) dX7_init_49 rfl (k := 5) (by decide) rfl ki_X7_29 in_X3 ini_RX3 iw_X3 tyX3_ok (by show Ce _ (5, iF0); refine ⟨rfl, fun j hj => ?_⟩; have hj3 : j < 7 := hj; match j, hj3 with | 0, _ => rfl | 1, _ => rfl | 2, _ => rfl | 3, _ => rfl | 4, _ => rfl | 5, _ => rfl | 6, _ => rfl) (Nat.le_of_ble_eq_true rfl) (Nat.le_of_ble_eq_true rfl) ?_
  refine c_dup (n := 53) dX7_init_52 rfl rfl ?_
  refine c_ctor (n := 56) dX7_init_53 rfl li_X7_31 (Nat.le_of_ble_eq_true rfl) ⟨Nat.le_of_ble_eq_true rfl, Nat.le_of_ble_eq_true rfl, Nat.le_of_ble_eq_true rfl, Nat.le_of_ble_eq_true rfl⟩ (k_X3 hA 399 (cu (sc G 4) 399 5 iF0) (by rw [cu_at]) (by rw [cu_ne (by decide), sc_ne (by decide)]; exact fc_24)) ?_
  refine c_eq (c' := sc G 4) (fun q hq => ?_) ?_
  · show Ce (cu (cu (sc G 4) 399 5 iF0) 399 5 (updV (cu (sc G 4) 399 5 iF0 399).2 0 (.ref (G.1 + (399 + 1)))) q) (sc G 4 q)
    by_cases h : q = 399
    · subst h
      rw [cu_at, cu_at, sc_ne (by decide)]
      exact fc_399
    · rw [cu_ne h, cu_ne h]
      exact Ce.refl _
  refine c_putr (n := 59) (q0 := 0) (c' := sc G 5) dX7_init_56 rfl hA rfl ff_X7_32 (show 0 < 401 by decide) rfl rfl rfl ?_ (fun q hq hne => sc_sc hne) ?_
  · show Ce (9, updV (sF G 4) 4 (.ref (G.1 + 399))) (9, sF G 5)
    refine Ce.of (congrArg (Prod.mk 9) ?_)
    funext s
    match s with
    | 0 => rfl
    | 1 => rfl
    | 2 => rfl
    | 3 => rfl
    | 4 => rfl
    | 5 => rfl
    | 6 => rfl
    | 7 => rfl
    | 8 => rfl
    | n + 9 => rfl
  refine c_aload_n (n := 60) dX7_init_59 rfl rfl ?_
  refine c_eq (c' := cu (sc G 5) 401 8 wF0) (fun q hq => Ce.of (cu_ne (show q ≠ 401 by have : q < 401 := hq; omega)).symm) ?_
  refine c_new (n := 63) (N := 1) dX7_init_60 rfl (k := 8) (by decide) rfl ki_X7_36 in_X6 ini_RX6 iw_X6 tyX6_ok (by show Ce _ (8, wF0); refine ⟨rfl, fun j hj => ?_⟩; have hj3 : j < 1 := hj; match j, hj3 with | 0, _ => rfl) (Nat.le_of_ble_eq_true rfl) (Nat.le_of_ble_eq_true rfl) ?_
  refine c_dup (n := 64) dX7_init_63 rfl rfl ?_
  refine c_ctor (n := 67) dX7_init_64 rfl li_X7_38 (Nat.le_of_ble_eq_true rfl) ⟨Nat.le_of_ble_eq_true rfl, Nat.le_of_ble_eq_true rfl, Nat.le_of_ble_eq_true rfl, Nat.le_of_ble_eq_true rfl⟩ (k_X6 hA 401 (cu (sc G 5) 401 8 wF0) (by rw [cu_at]) (by rw [cu_ne (by decide), sc_ne (by decide)]; exact fc_25)) ?_
  refine c_eq (c' := sc G 5) (fun q hq => ?_) ?_
  · show Ce (cu (cu (sc G 5) 401 8 wF0) 401 8 (updV (cu (sc G 5) 401 8 wF0 401).2 0 (.ref (G.1 + (401 + 1)))) q) (sc G 5 q)
    by_cases h : q = 401
    · subst h
      rw [cu_at, cu_at, sc_ne (by decide)]
      exact fc_401
    · rw [cu_ne h, cu_ne h]
      exact Ce.refl _
  refine c_putr (n := 70) (q0 := 0) (c' := sc G 6) dX7_init_67 rfl hA rfl ff_X7_39 (show 0 < 403 by decide) rfl rfl rfl ?_ (fun q hq hne => sc_sc hne) ?_
  · show Ce (9, updV (sF G 5) 5 (.ref (G.1 + 401))) (9, sF G 6)
    refine Ce.of (congrArg (Prod.mk 9) ?_)
    funext s
    match s with
    | 0 => rfl
    | 1 => rfl
    | 2 => rfl
    | 3 => rfl
    | 4 => rfl
    | 5 => rfl
    | 6 => rfl
    | 7 => rfl
    | 8 => rfl
    | n + 9 => rfl
  refine c_aload_n (n := 71) dX7_init_70 rfl rfl ?_
  refine c_iconst (n := 72) (x := nI 0) dX7_init_71 rfl rfl ?_
  refine c_puti (n := 75) (q0 := 0) (c' := sc G 6) dX7_init_72 rfl hA fw_X7_43 (show 0 < 403 by decide) rfl rfl rfl ?_ (fun q hq hne => sc_sc hne) ?_
  · show Ce (9, updV (sF G 6) 6 (.int (nI 0))) (9, sF G 6)
    refine Ce.of (congrArg (Prod.mk 9) ?_)
    funext s
    match s with
    | 0 => rfl
    | 1 => rfl
    | 2 => rfl
    | 3 => rfl
    | 4 => rfl
    | 5 => rfl
    | 6 => rfl
    | 7 => rfl
    | 8 => rfl
    | n + 9 => rfl
  refine c_aload_n (n := 76) dX7_init_75 rfl rfl ?_
  refine c_iconst (n := 77) (x := nI 0) dX7_init_76 rfl rfl ?_
  refine c_puti (n := 80) (q0 := 0) (c' := sc G 6) dX7_init_77 rfl hA fw_X7_47 (show 0 < 403 by decide) rfl rfl rfl ?_ (fun q hq hne => sc_sc hne) ?_
  · show Ce (9, updV (sF G 6) 7 (.int (nI 0))) (9, sF G 6)
    refine Ce.of (congrArg (Prod.mk 9) ?_)
    funext s
    match s with
    | 0 => rfl
    | 1 => rfl
    | 2 => rfl
    | 3 => rfl
    | 4 => rfl
    | 5 => rfl
    | 6 => rfl
    | 7 => rfl
    | 8 => rfl
    | n + 9 => rfl
  refine c_aload_n (n := 81) dX7_init_80 rfl rfl ?_
  refine c_iconst (n := 82) (x := -1) dX7_init_81 rfl rfl ?_
  refine c_puti (n := 85) (q0 := 0) (c' := sc G 7) dX7_init_82 rfl hA fw_X7_51 (show 0 < 403 by decide) rfl rfl rfl ?_ (fun q hq hne => sc_sc hne) ?_
  · show Ce (9, updV (sF G 6) 8 (.int (-1))) (9, sF G 7)
    refine Ce.of (congrArg (Prod.mk 9) ?_)
    funext s
    match s with
    | 0 => rfl
    | 1 => rfl
    | 2 => rfl
    | 3 => rfl
    | 4 => rfl
    | 5 => rfl
    | 6 => rfl
    | 7 => rfl
    | 8 => rfl
    | n + 9 => rfl
  exact c_ret dX7_init_85 rfl rfl rfl
def mF (G : Gl) (p : Nat) : Nat → Value := fun s => match s with
  | 0 => if 1 ≤ p then .ref (G.1 + 404) else .null
  | 1 => if 2 ≤ p then .ref (G.1 + 405) else .null
  | 3 => if 3 ≤ p then .ref (G.1 + 406) else .null
  | 8 => if 4 ≤ p then .ref (G.1 + 407) else .null
  | 9 => if 5 ≤ p then .ref (G.1 + 408) else .null
  | 11 => if 6 ≤ p then .ref (G.1 + 409) else .null
  | 17 => if 7 ≤ p then .ref (G.1 + 410) else .null
  | 18 => if 8 ≤ p then .ref (G.1 + 411) else .null
  | 19 => if 9 ≤ p then .ref (G.1 + 412) else .null
  | _ => .int 0
def mc (G : Gl) (p : Nat) : Cs := fun q => if q = 403 then (10, mF G p) else fc G q
theorem mc_ne {p q : Nat} (h : q ≠ 403) : mc G p q = fc G q := if_neg h
theorem mc_mc {p p' q : Nat} (h : q ≠ 403) : Ce (mc G p q) (mc G p' q) := Ce.of (by rw [mc_ne h, mc_ne h])
theorem fc_403 : Ce (10, mF G 9) (fc G 403) := by
  have e : fc G 403 = (10, zvl G.1 μ0 10 0 0) := fc_at G zokc_10
  rw [e]
  refine ⟨rfl, fun j hj => ?_⟩
  have hj9 : j < 20 := hj
  match j, hj9 with
  | 0, _ => rfl
  | 1, _ => rfl
  | 2, _ => rfl
  | 3, _ => rfl
  | 4, _ => rfl
  | 5, _ => rfl
  | 6, _ => rfl
  | 7, _ => rfl
  | 8, _ => rfl
  | 9, _ => rfl
  | 10, _ => rfl
  | 11, _ => rfl
  | 12, _ => rfl
  | 13, _ => rfl
  | 14, _ => rfl
  | 15, _ => rfl
  | 16, _ => rfl
  | 17, _ => rfl
  | 18, _ => rfl
  | 19, _ => rfl
  | j + 20, h => exact absurd h (by omega)
theorem fm_26 : Ce (26, fun _ => Value.int 0) (fc G 404) := by
  have e : fc G 404 = (26, zvl G.1 μ0 26 0 0) := fc_at G zokc_26
  rw [e]
  exact ⟨rfl, fun j hj => rfl⟩
theorem fm_27 : Ce (27, fun _ => Value.int 0) (fc G 405) := by
  have e : fc G 405 = (27, zvl G.1 μ0 27 0 0) := fc_at G zokc_27
  rw [e]
  exact ⟨rfl, fun j hj => rfl⟩
theorem fm_28 : Ce (28, fun _ => Value.int 0) (fc G 406) := by
  have e : fc G 406 = (28, zvl G.1 μ0 28 0 0) := fc_at G zokc_28
  rw [e]
  exact ⟨rfl, fun j hj => rfl⟩
theorem fm_29 : Ce (29, fun _ => Value.int 0) (fc G 407) := by
  have e : fc G 407 = (29, zvl G.1 μ0 29 0 0) := fc_at G zokc_29
  rw [e]
  exact ⟨rfl, fun j hj => rfl⟩
theorem fm_30 : Ce (30, fun _ => Value.int 0) (fc G 408) := by
  have e : fc G 408 = (30, zvl G.1 μ0 30 0 0) := fc_at G zokc_30
  rw [e]
  exact ⟨rfl, fun j hj => rfl⟩
theorem fm_31 : Ce (31, fun _ => Value.int 0) (fc G 409) := by
  have e : fc G 409 = (31, zvl G.1 μ0 31 0 0) := fc_at G zokc_31
  rw [e]
  exact ⟨rfl, fun j hj => rfl⟩
theorem fm_32 : Ce (32, fun _ => Value.int 0) (fc G 410) := by
  have e : fc G 410 = (32, zvl G.1 μ0 32 0 0) := fc_at G zokc_32
  rw [e]
  exact ⟨rfl, fun j hj => rfl⟩
theorem fm_33 : Ce (33, fun _ => Value.int 0) (fc G 411) := by
  have e : fc G 411 = (33, zvl G.1 μ0 33 0 0) := fc_at G zokc_33
  rw [e]
  exact ⟨rfl, fun j hj => rfl⟩
theorem fm_34 : Ce (34, fun _ => Value.int 0) (fc G 412) := by
  have e : fc G 412 = (34, zvl G.1 μ0 34 0 0) := fc_at G zokc_34
  rw [e]
  exact ⟨rfl, fun j hj => rfl⟩
set_option maxRecDepth 8000 in
theorem k_X8 (hA : G.2.2.2 = true) : ConC G nX8 [.ref (G.1 + 403)] (404, mc G 0) (413, mc G 9) := by
  refine conC_of pn_X8 rfl (Nat.le_of_ble_eq_true rfl) ?_
  show VC G nX8 nX8.2.2.2.2.1 _ 0 [(0, .ref (G.1 + 403))] [] _ 0 0
  refine c_aload_n (n := 1) dX8_init_0 rfl rfl ?_
  refine c_obj (n := 4) dX8_init_1 rfl oi_X8_1 oi_inst oi_code ⟨Nat.le_of_ble_eq_true rfl, Nat.le_of_ble_eq_true rfl⟩ ?_
  refine c_aload_n (n := 5) dX8_init_4 rfl rfl ?_
  refine c_sipush (n := 8) (x := nI 372) dX8_init_5 rfl rfl ?_
  refine c_newarr (n := 10) (k := 26) (N := 372) dX8_init_8 rfl (by decide) (by decide) rfl rfl rfl ar_int (by decide) (by show Ce _ (mc G 0 404); rw [mc_ne (by decide)]; exact fm_26) (Nat.le_of_ble_eq_true rfl) (Nat.le_of_ble_eq_true rfl) ?_
  refine c_putr (n := 13) (q0 := 403) (c' := mc G 1) dX8_init_10 rfl hA rfl ff_X8_9 (show 403 < 405 by decide) rfl rfl rfl ?_ (fun q hq hne => mc_mc hne) ?_
  · show Ce (10, updV (mF G 0) 0 (.ref (G.1 + 404))) (10, mF G 1)
    refine Ce.of (congrArg (Prod.mk 10) ?_)
    funext s
    match s with
    | 0 => rfl
    | 1 => rfl
    | 2 => rfl
    | 3 => rfl
    | 4 => rfl
    | 5 => rfl
    | 6 => rfl
    | 7 => rfl
    | 8 => rfl
    | 9 => rfl
    | 10 => rfl
    | 11 => rfl
    | 12 => rfl
    | 13 => rfl
    | 14 => rfl
    | 15 => rfl
    | 16 => rfl
    | 17 => rfl
    | 18 => rfl
    | 19 => rfl
    | n + 20 => rfl
  refine c_aload_n (n := 14) dX8_init_13 rfl rfl ?_
  refine c_sipush (n := 17) (x := nI 372) dX8_init_14 rfl rfl ?_
  refine c_newarr (n := 19) (k := 27) (N := 372) dX8_init_17 rfl (by decide) (by decide) rfl rfl rfl ar_int (by decide) (by show Ce _ (mc G 1 405); rw [mc_ne (by decide)]; exact fm_27) (Nat.le_of_ble_eq_true rfl) (Nat.le_of_ble_eq_true rfl) ?_
  refine c_putr (n := 22) (q0 := 403) (c' := mc G 2) dX8_init_19 rfl hA rfl ff_X8_13 (show 403 < 406 by decide) rfl rfl rfl ?_ (fun q hq hne => mc_mc hne) ?_
  · show Ce (10, updV (mF G 1) 1 (.ref (G.1 + 405))) (10, mF G 2)
    refine Ce.of (congrArg (Prod.mk 10) ?_)
    funext s
    match s with
    | 0 => rfl
    | 1 => rfl
    | 2 => rfl
    | 3 => rfl
    | 4 => rfl
    | 5 => rfl
    | 6 => rfl
    | 7 => rfl
    | 8 => rfl
    | 9 => rfl
    | 10 => rfl
    | 11 => rfl
    | 12 => rfl
    | 13 => rfl
    | 14 => rfl
    | 15 => rfl
    | 16 => rfl
    | 17 => rfl
    | 18 => rfl
    | 19 => rfl
    | n + 20 => rfl
  refine c_aload_n (n := 23) dX8_init_22 rfl rfl ?_
  refine c_sipush (n := 26) (x := nI 2976) dX8_init_23 rfl rfl ?_
  refine c_newarr (n := 28) (k := 28) (N := 2976) dX8_init_26 rfl (by decide) (by decide) rfl rfl rfl ar_int (by decide) (by show Ce _ (mc G 2 406); rw [mc_ne (by decide)]; exact fm_28) (Nat.le_of_ble_eq_true rfl) (Nat.le_of_ble_eq_true rfl) ?_
  refine c_putr (n := 31) (q0 := 403) (c' := mc G 3) dX8_init_28 rfl hA rfl ff_X8_16 (show 403 < 407 by decide) rfl rfl rfl ?_ (fun q hq hne => mc_mc hne) ?_
  · show Ce (10, updV (mF G 2) 3 (.ref (G.1 + 406))) (10, mF G 3)
    refine Ce.of (congrArg (Prod.mk 10) ?_)
    funext s
    match s with
    | 0 => rfl
    | 1 => rfl
    | 2 => rfl
    | 3 => rfl
    | 4 => rfl
    | 5 => rfl
    | 6 => rfl
    | 7 => rfl
    | 8 => rfl
    | 9 => rfl
    | 10 => rfl
    | 11 => rfl
    | 12 => rfl
    | 13 => rfl
    | 14 => rfl
    | 15 => rfl
    | 16 => rfl
    | 17 => rfl
    | 18 => rfl
    | 19 => rfl
    | n + 20 => rfl
  refine c_aload_n (n := 32) dX8_init_31 rfl rfl ?_
  refine c_sipush (n := 35) (x := nI 372) dX8_init_32 rfl rfl ?_
  refine c_newarr (n := 37) (k := 29) (N := 372) dX8_init_35 rfl (by decide) (by decide) rfl rfl rfl ar_int (by decide) (by show Ce _ (mc G 3 407); rw [mc_ne (by decide)]; exact fm_29) (Nat.le_of_ble_eq_true rfl) (Nat.le_of_ble_eq_true rfl) ?_
  refine c_putr (n := 40) (q0 := 403) (c' := mc G 4) dX8_init_37 rfl hA rfl ff_X8_19 (show 403 < 408 by decide) rfl rfl rfl ?_ (fun q hq hne => mc_mc hne) ?_
  · show Ce (10, updV (mF G 3) 8 (.ref (G.1 + 407))) (10, mF G 4)
    refine Ce.of (congrArg (Prod.mk 10) ?_)
    funext s
    match s with
    | 0 => rfl
    | 1 => rfl
    | 2 => rfl
    | 3 => rfl
    | 4 => rfl
    | 5 => rfl
    | 6 => rfl
    | 7 => rfl
    | 8 => rfl
    | 9 => rfl
    | 10 => rfl
    | 11 => rfl
    | 12 => rfl
    | 13 => rfl
    | 14 => rfl
    | 15 => rfl
    | 16 => rfl
    | 17 => rfl
    | 18 => rfl
    | 19 => rfl
    | n + 20 => rfl
  refine c_aload_n (n := 41) dX8_init_40 rfl rfl ?_
  refine c_bipush (n := 43) (x := nI 8) dX8_init_41 rfl rfl ?_
  refine c_newarr (n := 45) (k := 30) (N := 8) dX8_init_43 rfl (by decide) (by decide) rfl rfl rfl ar_int (by decide) (by show Ce _ (mc G 4 408); rw [mc_ne (by decide)]; exact fm_30) (Nat.le_of_ble_eq_true rfl) (Nat.le_of_ble_eq_true rfl) ?_
  refine c_putr (n := 48) (q0 := 403) (c' := mc G 5) dX8_init_45 rfl hA rfl ff_X8_22 (show 403 < 409 by decide) rfl rfl rfl ?_ (fun q hq hne => mc_mc hne) ?_
  · show Ce (10, updV (mF G 4) 9 (.ref (G.1 + 408))) (10, mF G 5)
    refine Ce.of (congrArg (Prod.mk 10) ?_)
    funext s
    match s with
    | 0 => rfl
    | 1 => rfl
    | 2 => rfl
    | 3 => rfl
    | 4 => rfl
    | 5 => rfl
    | 6 => rfl
    | 7 => rfl
    | 8 => rfl
    | 9 => rfl
    | 10 => rfl
    | 11 => rfl
    | 12 => rfl
    | 13 => rfl
    | 14 => rfl
    | 15 => rfl
    | 16 => rfl
    | 17 => rfl
    | 18 => rfl
    | 19 => rfl
    | n + 20 => rfl
  refine c_aload_n (n := 49) dX8_init_48 rfl rfl ?_
  refine c_bipush (n := 51) (x := nI 60) dX8_init_49 rfl rfl ?_
  refine c_newarr (n := 53) (k := 31) (N := 60) dX8_init_51 rfl (by decide) (by decide) rfl rfl rfl ar_int (by decide) (by show Ce _ (mc G 5 409); rw [mc_ne (by decide)]; exact fm_31) (Nat.le_of_ble_eq_true rfl) (Nat.le_of_ble_eq_true rfl) ?_
  refine c_putr (n := 56) (q0 := 403) (c' := mc G 6) dX8_init_53 rfl hA rfl ff_X8_25 (show 403 < 410 by decide) rfl rfl rfl ?_ (fun q hq hne => mc_mc hne) ?_
  · show Ce (10, updV (mF G 5) 11 (.ref (G.1 + 409))) (10, mF G 6)
    refine Ce.of (congrArg (Prod.mk 10) ?_)
    funext s
    match s with
    | 0 => rfl
    | 1 => rfl
    | 2 => rfl
    | 3 => rfl
    | 4 => rfl
    | 5 => rfl
    | 6 => rfl
    | 7 => rfl
    | 8 => rfl
    | 9 => rfl
    | 10 => rfl
    | 11 => rfl
    | 12 => rfl
    | 13 => rfl
    | 14 => rfl
    | 15 => rfl
    | 16 => rfl
    | 17 => rfl
    | 18 => rfl
    | 19 => rfl
    | n + 20 => rfl
  refine c_aload_n (n := 57) dX8_init_56 rfl rfl ?_
  refine c_bipush (n := 59) (x := nI 60) dX8_init_57 rfl rfl ?_
  refine c_newarr (n := 61) (k := 32) (N := 60) dX8_init_59 rfl (by decide) (by decide) rfl rfl rfl ar_int (by decide) (by show Ce _ (mc G 6 410); rw [mc_ne (by decide)]; exact fm_32) (Nat.le_of_ble_eq_true rfl) (Nat.le_of_ble_eq_true rfl) ?_
  refine c_putr (n := 64) (q0 := 403) (c' := mc G 7) dX8_init_61 rfl hA rfl ff_X8_28 (show 403 < 411 by decide) rfl rfl rfl ?_ (fun q hq hne => mc_mc hne) ?_
  · show Ce (10, updV (mF G 6) 17 (.ref (G.1 + 410))) (10, mF G 7)
    refine Ce.of (congrArg (Prod.mk 10) ?_)
    funext s
    match s with
    | 0 => rfl
    | 1 => rfl
    | 2 => rfl
    | 3 => rfl
    | 4 => rfl
    | 5 => rfl
    | 6 => rfl
    | 7 => rfl
    | 8 => rfl
    | 9 => rfl
    | 10 => rfl
    | 11 => rfl
    | 12 => rfl
    | 13 => rfl
    | 14 => rfl
    | 15 => rfl
    | 16 => rfl
    | 17 => rfl
    | 18 => rfl
    | 19 => rfl
    | n + 20 => rfl
  refine c_aload_n (n := 65) dX8_init_64 rfl rfl ?_
  refine c_bipush (n := 67) (x := nI 60) dX8_init_65 rfl rfl ?_
  refine c_newarr (n := 69) (k := 33) (N := 60) dX8_init_67 rfl (by decide) (by decide) rfl rfl rfl ar_int (by decide) (by show Ce _ (mc G 7 411); rw [mc_ne (by decide)]; exact fm_33) (Nat.le_of_ble_eq_true rfl) (Nat.le_of_ble_eq_true rfl) ?_
  refine c_putr (n := 72) (q0 := 403) (c' := mc G 8) dX8_init_69 rfl hA rfl ff_X8_31 (show 403 < 412 by decide) rfl rfl rfl ?_ (fun q hq hne => mc_mc hne) ?_
  · show Ce (10, updV (mF G 7) 18 (.ref (G.1 + 411))) (10, mF G 8)
    refine Ce.of (congrArg (Prod.mk 10) ?_)
    funext s
    match s with
    | 0 => rfl
    | 1 => rfl
    | 2 => rfl
    | 3 => rfl
    | 4 => rfl
    | 5 => rfl
    | 6 => rfl
    | 7 => rfl
    | 8 => rfl
    | 9 => rfl
    | 10 => rfl
    | 11 => rfl
    | 12 => rfl
    | 13 => rfl
    | 14 => rfl
    | 15 => rfl
    | 16 => rfl
    | 17 => rfl
    | 18 => rfl
    | 19 => rfl
    | n + 20 => rfl
  refine c_aload_n (n := 73) dX8_init_72 rfl rfl ?_
  refine c_bipush (n := 75) (x := nI 60) dX8_init_73 rfl rfl ?_
  refine c_newarr (n := 77) (k := 34) (N := 60) dX8_init_75 rfl (by decide) (by decide) rfl rfl rfl ar_int (by decide) (by show Ce _ (mc G 8 412); rw [mc_ne (by decide)]; exact fm_34) (Nat.le_of_ble_eq_true rfl) (Nat.le_of_ble_eq_true rfl) ?_
  refine c_putr (n := 80) (q0 := 403) (c' := mc G 9) dX8_init_77 rfl hA rfl ff_X8_34 (show 403 < 413 by decide) rfl rfl rfl ?_ (fun q hq hne => mc_mc hne) ?_
  · show Ce (10, updV (mF G 8) 19 (.ref (G.1 + 412))) (10, mF G 9)
    refine Ce.of (congrArg (Prod.mk 10) ?_)
    funext s
    match s with
    | 0 => rfl
    | 1 => rfl
    | 2 => rfl
    | 3 => rfl
    | 4 => rfl
    | 5 => rfl
    | 6 => rfl
    | 7 => rfl
    | 8 => rfl
    | 9 => rfl
    | 10 => rfl
    | 11 => rfl
    | 12 => rfl
    | 13 => rfl
    | 14 => rfl
    | 15 => rfl
    | 16 => rfl
    | 17 => rfl
    | 18 => rfl
    | 19 => rfl
    | n + 20 => rfl
  refine c_aload_n (n := 81) dX8_init_80 rfl rfl ?_
  refine c_iconst (n := 82) (x := nI 0) dX8_init_81 rfl rfl ?_
  refine c_puti (n := 85) (q0 := 403) (c' := mc G 9) dX8_init_82 rfl hA fw_X8_37 (show 403 < 413 by decide) rfl rfl rfl ?_ (fun q hq hne => mc_mc hne) ?_
  · show Ce (10, updV (mF G 9) 5 (.int (nI 0))) (10, mF G 9)
    refine Ce.of (congrArg (Prod.mk 10) ?_)
    funext s
    match s with
    | 0 => rfl
    | 1 => rfl
    | 2 => rfl
    | 3 => rfl
    | 4 => rfl
    | 5 => rfl
    | 6 => rfl
    | 7 => rfl
    | 8 => rfl
    | 9 => rfl
    | 10 => rfl
    | 11 => rfl
    | 12 => rfl
    | 13 => rfl
    | 14 => rfl
    | 15 => rfl
    | 16 => rfl
    | 17 => rfl
    | 18 => rfl
    | 19 => rfl
    | n + 20 => rfl
  exact c_ret dX8_init_85 rfl rfl rfl
end Main0
