section Area0
variable {G : Gl}
theorem k_X0_1 (hA : G.2.2.2 = true) {z : Nat} {c : Cs} {w' : Nat × Cs} (K : VC G nX0 nX0.2.2.2.2.1 (QMC G nX0 w') 40 [(0, .ref (G.1 + z)), (1, .int (nI 6))] [] (z + 8, ac G z c 1 6) 7 66) : ∀ k i : Nat, i + k = 6 → VC G nX0 nX0.2.2.2.2.1 (QMC G nX0 w') 15 [(0, .ref (G.1 + z)), (1, .int (nI i))] [] (z + 2 + i, ac G z c 1 i) (1 + i) (6 + 10 * i) := by
  intro k
  induction k with
  | zero =>
    intro i hi
    obtain rfl : i = 6 := by omega
    refine c_iload_n (n := 16) dX0_init_15 rfl rfl ?_
    refine c_bipush (n := 18) (x := nI 6) dX0_init_16 rfl rfl ?_
    exact c_icmp_ge (n := 21) (t := 40) dX0_init_18 rfl (by decide) (fun _ => K) (fun q => absurd (by decide) q)
  | succ k ih =>
    intro i hi
    have hi2 : i < 6 := by omega
    refine c_iload_n (n := 16) dX0_init_15 rfl rfl ?_
    refine c_bipush (n := 18) (x := nI 6) dX0_init_16 rfl rfl ?_
    refine c_icmp_ge (n := 21) (t := 40) dX0_init_18 rfl (by decide) (fun q => absurd q (by rw [nI_leI (by decide) (by omega)]; omega)) (fun _ => ?_)
    refine c_aload_n (n := 22) dX0_init_21 rfl rfl ?_
    refine c_getf (n := 25) (v := .ref (G.1 + (z + 1))) dX0_init_22 rfl fl_X0_11 (show z < z + 2 + i by omega) (by show (ac G z c 1 i z).1 = 2; rw [ac_0]) (by show (ac G z c 1 i z).2 0 = _; rw [ac_0]; rfl) ?_
    refine c_iload_n (n := 26) dX0_init_25 rfl rfl ?_
    refine c_new (n := 29) (N := 10) dX0_init_26 rfl (k := 6) (by decide) rfl ki_X0_9 in_X4 ini_RX4 iw_X4 tyX4_ok (by show Ce _ (ac G z c 1 i (z + 2 + i)); rw [ac_l (by omega) (by omega)]; exact ⟨rfl, fun j hj => dv_X4 j hj⟩) (show 1 + i + 1 ≤ 35 by omega) (show 6 + 10 * i + 10 ≤ 348 by omega) ?_
    refine c_dup (n := 30) dX0_init_29 rfl rfl ?_
    refine c_ctorN (n := 33) dX0_init_30 rfl ln_X0_17 (Nat.le_of_ble_eq_true rfl) ⟨Nat.le_of_ble_eq_true rfl, Nat.le_of_ble_eq_true rfl, (show 1 + i + 1 ≤ 35 by omega), (show 6 + 10 * i + 10 ≤ 348 by omega)⟩ (k_X4 _ _) ?_
    refine c_aast (n := 34) (q0 := z + 1) (qv := z + 2 + i) (k := 20) (kv := 6) (j := i) (N := 6) (c' := ac G z c 1 (i + 1)) dX0_init_33 rfl hA (show z + 1 < z + 2 + i + 1 by omega) (by show (ac G z c 1 i (z + 1)).1 = 20; rw [ac_1]) (by decide) (by decide) rfl rfl (show z + 2 + i < z + 2 + i + 1 by omega) (by show (ac G z c 1 i (z + 2 + i)).1 = 6; rw [ac_l (by omega) (by omega)]) (by decide) rfl rfl hi2 ?_ (fun q hq hne => ?_) ?_
    · show Ce (20, updV (ac G z c 1 i (z + 1)).2 i (.ref (G.1 + (z + 2 + i)))) (ac G z c 1 (i + 1) (z + 1))
      rw [ac_1, ac_1]
      exact Ce.of (congrArg (Prod.mk 20) (updV_rwf (z + 2) i))
    · show Ce (ac G z c 1 i q) (ac G z c 1 (i + 1) q)
      by_cases hz : q = z
      · subst hz
        rw [ac_0, ac_0]
        exact Ce.refl _
      · exact ac_ne hz (Or.inl hne) (Or.inr rfl) (Or.inr rfl)
    · refine c_iinc (n := 37) (L' := [(0, .ref (G.1 + z)), (1, .int (nI (i + 1)))]) dX0_init_34 rfl rfl (show nI i + Int32.ofInt 1 = nI (i + 1) by rw [show Int32.ofInt 1 = nI 1 by decide, nI_add]) (by decide) rfl ?_
      refine c_goto (n := 15) dX0_init_37 (by decide) ?_
      exact ih (i + 1) (by omega)
theorem k_X0_2 (hA : G.2.2.2 = true) {z : Nat} {c : Cs} {w' : Nat × Cs} (K : VC G nX0 nX0.2.2.2.2.1 (QMC G nX0 w') 76 [(0, .ref (G.1 + z)), (1, .int (nI 10))] [] (z + 19, ac G z c 2 10) 18 156) : ∀ k i : Nat, i + k = 10 → VC G nX0 nX0.2.2.2.2.1 (QMC G nX0 w') 51 [(0, .ref (G.1 + z)), (1, .int (nI i))] [] (z + 9 + i, ac G z c 2 i) (8 + i) (76 + 8 * i) := by
  intro k
  induction k with
  | zero =>
    intro i hi
    obtain rfl : i = 10 := by omega
    refine c_iload_n (n := 52) dX0_init_51 rfl rfl ?_
    refine c_bipush (n := 54) (x := nI 10) dX0_init_52 rfl rfl ?_
    exact c_icmp_ge (n := 57) (t := 76) dX0_init_54 rfl (by decide) (fun _ => K) (fun q => absurd (by decide) q)
  | succ k ih =>
    intro i hi
    have hi2 : i < 10 := by omega
    refine c_iload_n (n := 52) dX0_init_51 rfl rfl ?_
    refine c_bipush (n := 54) (x := nI 10) dX0_init_52 rfl rfl ?_
    refine c_icmp_ge (n := 57) (t := 76) dX0_init_54 rfl (by decide) (fun q => absurd q (by rw [nI_leI (by decide) (by omega)]; omega)) (fun _ => ?_)
    refine c_aload_n (n := 58) dX0_init_57 rfl rfl ?_
    refine c_getf (n := 61) (v := .ref (G.1 + (z + 8))) dX0_init_58 rfl fl_X0_20 (show z < z + 9 + i by omega) (by show (ac G z c 2 i z).1 = 2; rw [ac_0]) (by show (ac G z c 2 i z).2 1 = _; rw [ac_0]; rfl) ?_
    refine c_iload_n (n := 62) dX0_init_61 rfl rfl ?_
    refine c_new (n := 65) (N := 8) dX0_init_62 rfl (k := 7) (by decide) rfl ki_X0_18 in_X5 ini_RX5 iw_X5 tyX5_ok (by show Ce _ (ac G z c 2 i (z + 9 + i)); rw [ac_p (by omega) (by omega)]; exact ⟨rfl, fun j hj => dv_X5 j hj⟩) (show 8 + i + 1 ≤ 35 by omega) (show 76 + 8 * i + 8 ≤ 348 by omega) ?_
    refine c_dup (n := 66) dX0_init_65 rfl rfl ?_
    refine c_ctorN (n := 69) dX0_init_66 rfl ln_X0_24 (Nat.le_of_ble_eq_true rfl) ⟨Nat.le_of_ble_eq_true rfl, Nat.le_of_ble_eq_true rfl, (show 8 + i + 1 ≤ 35 by omega), (show 76 + 8 * i + 8 ≤ 348 by omega)⟩ (k_X5 _ _) ?_
    refine c_aast (n := 70) (q0 := z + 8) (qv := z + 9 + i) (k := 21) (kv := 7) (j := i) (N := 10) (c' := ac G z c 2 (i + 1)) dX0_init_69 rfl hA (show z + 8 < z + 9 + i + 1 by omega) (by show (ac G z c 2 i (z + 8)).1 = 21; rw [ac_8]) (by decide) (by decide) rfl rfl (show z + 9 + i < z + 9 + i + 1 by omega) (by show (ac G z c 2 i (z + 9 + i)).1 = 7; rw [ac_p (by omega) (by omega)]) (by decide) rfl rfl hi2 ?_ (fun q hq hne => ?_) ?_
    · show Ce (21, updV (ac G z c 2 i (z + 8)).2 i (.ref (G.1 + (z + 9 + i)))) (ac G z c 2 (i + 1) (z + 8))
      rw [ac_8, ac_8]
      exact Ce.of (congrArg (Prod.mk 21) (updV_rwf (z + 9) i))
    · show Ce (ac G z c 2 i q) (ac G z c 2 (i + 1) q)
      by_cases hz : q = z
      · subst hz
        rw [ac_0, ac_0]
        exact Ce.refl _
      · exact ac_ne hz (Or.inr rfl) (Or.inl hne) (Or.inr rfl)
    · refine c_iinc (n := 73) (L' := [(0, .ref (G.1 + z)), (1, .int (nI (i + 1)))]) dX0_init_70 rfl rfl (show nI i + Int32.ofInt 1 = nI (i + 1) by rw [show Int32.ofInt 1 = nI 1 by decide, nI_add]) (by decide) rfl ?_
      refine c_goto (n := 51) dX0_init_73 (by decide) ?_
      exact ih (i + 1) (by omega)
theorem k_X0_3 (hA : G.2.2.2 = true) {z : Nat} {c : Cs} {w' : Nat × Cs} (K : VC G nX0 nX0.2.2.2.2.1 (QMC G nX0 w') 112 [(0, .ref (G.1 + z)), (1, .int (nI 16))] [] (z + 36, ac G z c 3 16) 35 348) : ∀ k i : Nat, i + k = 16 → VC G nX0 nX0.2.2.2.2.1 (QMC G nX0 w') 87 [(0, .ref (G.1 + z)), (1, .int (nI i))] [] (z + 20 + i, ac G z c 3 i) (19 + i) (172 + 11 * i) := by
  intro k
  induction k with
  | zero =>
    intro i hi
    obtain rfl : i = 16 := by omega
    refine c_iload_n (n := 88) dX0_init_87 rfl rfl ?_
    refine c_bipush (n := 90) (x := nI 16) dX0_init_88 rfl rfl ?_
    exact c_icmp_ge (n := 93) (t := 112) dX0_init_90 rfl (by decide) (fun _ => K) (fun q => absurd (by decide) q)
  | succ k ih =>
    intro i hi
    have hi2 : i < 16 := by omega
    refine c_iload_n (n := 88) dX0_init_87 rfl rfl ?_
    refine c_bipush (n := 90) (x := nI 16) dX0_init_88 rfl rfl ?_
    refine c_icmp_ge (n := 93) (t := 112) dX0_init_90 rfl (by decide) (fun q => absurd q (by rw [nI_leI (by decide) (by omega)]; omega)) (fun _ => ?_)
    refine c_aload_n (n := 94) dX0_init_93 rfl rfl ?_
    refine c_getf (n := 97) (v := .ref (G.1 + (z + 19))) dX0_init_94 rfl fl_X0_27 (show z < z + 20 + i by omega) (by show (ac G z c 3 i z).1 = 2; rw [ac_0]) (by show (ac G z c 3 i z).2 2 = _; rw [ac_0]; rfl) ?_
    refine c_iload_n (n := 98) dX0_init_97 rfl rfl ?_
    refine c_new (n := 101) (N := 11) dX0_init_98 rfl (k := 3) (by decide) rfl ki_X0_25 in_X1 ini_RX1 iw_X1 tyX1_ok (by show Ce _ (ac G z c 3 i (z + 20 + i)); rw [ac_g (by omega)]; exact ⟨rfl, fun j hj => dv_X1 j hj⟩) (show 19 + i + 1 ≤ 35 by omega) (show 172 + 11 * i + 11 ≤ 348 by omega) ?_
    refine c_dup (n := 102) dX0_init_101 rfl rfl ?_
    refine c_ctorN (n := 105) dX0_init_102 rfl ln_X0_31 (Nat.le_of_ble_eq_true rfl) ⟨Nat.le_of_ble_eq_true rfl, Nat.le_of_ble_eq_true rfl, (show 19 + i + 1 ≤ 35 by omega), (show 172 + 11 * i + 11 ≤ 348 by omega)⟩ (k_X1 _ _) ?_
    refine c_aast (n := 106) (q0 := z + 19) (qv := z + 20 + i) (k := 22) (kv := 3) (j := i) (N := 16) (c' := ac G z c 3 (i + 1)) dX0_init_105 rfl hA (show z + 19 < z + 20 + i + 1 by omega) (by show (ac G z c 3 i (z + 19)).1 = 22; rw [ac_19]) (by decide) (by decide) rfl rfl (show z + 20 + i < z + 20 + i + 1 by omega) (by show (ac G z c 3 i (z + 20 + i)).1 = 3; rw [ac_g (by omega)]) (by decide) rfl rfl hi2 ?_ (fun q hq hne => ?_) ?_
    · show Ce (22, updV (ac G z c 3 i (z + 19)).2 i (.ref (G.1 + (z + 20 + i)))) (ac G z c 3 (i + 1) (z + 19))
      rw [ac_19, ac_19]
      exact Ce.of (congrArg (Prod.mk 22) (updV_rwf (z + 20) i))
    · show Ce (ac G z c 3 i q) (ac G z c 3 (i + 1) q)
      by_cases hz : q = z
      · subst hz
        rw [ac_0, ac_0]
        exact Ce.refl _
      · exact ac_ne hz (Or.inr rfl) (Or.inr rfl) (Or.inl hne)
    · refine c_iinc (n := 109) (L' := [(0, .ref (G.1 + z)), (1, .int (nI (i + 1)))]) dX0_init_106 rfl rfl (show nI i + Int32.ofInt 1 = nI (i + 1) by rw [show Int32.ofInt 1 = nI 1 by decide, nI_add]) (by decide) rfl ?_
      refine c_goto (n := 87) dX0_init_109 (by decide) ?_
      exact ih (i + 1) (by omega)
theorem k_X0 (hA : G.2.2.2 = true) (z : Nat) (c : Cs) : ConC G nX0 [.ref (G.1 + z)] (z + 1, ac G z c 0 0) (z + 36, ac G z c 3 16) := by
  refine conC_of pn_X0 rfl (Nat.le_of_ble_eq_true rfl) ?_
  show VC G nX0 nX0.2.2.2.2.1 _ 0 [(0, .ref (G.1 + z))] [] _ 0 0
  refine c_aload_n (n := 1) dX0_init_0 rfl rfl ?_
  refine c_obj (n := 4) dX0_init_1 rfl oi_X0_3 oi_inst oi_code ⟨Nat.le_of_ble_eq_true rfl, Nat.le_of_ble_eq_true rfl⟩ ?_
  refine c_aload_n (n := 5) dX0_init_4 rfl rfl ?_
  refine c_bipush (n := 7) (x := nI 6) dX0_init_5 rfl rfl ?_
  refine c_anew (n := 10) (k := 20) (N := 6) dX0_init_7 rfl (by decide) (by decide) rfl rfl rfl ki_X0_9 (by show Ce _ (ac G z c 0 0 (z + 1)); rw [ac_1]; exact Ce.of (congrArg (Prod.mk 20) (rwf_0 _).symm)) (Nat.le_of_ble_eq_true rfl) (Nat.le_of_ble_eq_true rfl) ?_
  refine c_putr (n := 13) (q0 := z) (c' := ac G z c 1 0) dX0_init_10 rfl hA rfl ff_X0_11 (show z < z + 1 + 1 by omega) (by show (ac G z c 0 0 z).1 = 2; rw [ac_0]) rfl rfl ?_ (fun q hq hne => ?_) ?_
  · show Ce (2, updV (ac G z c 0 0 z).2 0 (.ref (G.1 + (z + 1)))) (ac G z c 1 0 z)
    rw [ac_0, ac_0]
    exact Ce.of (congrArg (Prod.mk 2) (aFl_1 z))
  · exact ac_ne hne (Or.inr rfl) (Or.inr rfl) (Or.inr rfl)
  refine c_iconst (n := 14) (x := nI 0) dX0_init_13 rfl rfl ?_
  refine c_istore_n (n := 15) (L' := [(0, .ref (G.1 + z)), (1, .int (nI 0))]) dX0_init_14 rfl (by decide) rfl ?_
  refine k_X0_1 hA ?_ 6 0 rfl
  refine c_aload_n (n := 41) dX0_init_40 rfl rfl ?_
  refine c_bipush (n := 43) (x := nI 10) dX0_init_41 rfl rfl ?_
  refine c_anew (n := 46) (k := 21) (N := 10) dX0_init_43 rfl (by decide) (by decide) rfl rfl rfl ki_X0_18 (by show Ce _ (ac G z c 1 6 (z + 8)); rw [ac_8]; exact Ce.of (congrArg (Prod.mk 21) (rwf_0 _).symm)) (Nat.le_of_ble_eq_true rfl) (Nat.le_of_ble_eq_true rfl) ?_
  refine c_putr (n := 49) (q0 := z) (c' := ac G z c 2 0) dX0_init_46 rfl hA rfl ff_X0_20 (show z < z + 8 + 1 by omega) (by show (ac G z c 1 6 z).1 = 2; rw [ac_0]) rfl rfl ?_ (fun q hq hne => ?_) ?_
  · show Ce (2, updV (ac G z c 1 6 z).2 1 (.ref (G.1 + (z + 8)))) (ac G z c 2 0 z)
    rw [ac_0, ac_0]
    exact Ce.of (congrArg (Prod.mk 2) (aFl_2 z))
  · exact ac_ne hne (Or.inr rfl) (Or.inr rfl) (Or.inr rfl)
  refine c_iconst (n := 50) (x := nI 0) dX0_init_49 rfl rfl ?_
  refine c_istore_n (n := 51) (L' := [(0, .ref (G.1 + z)), (1, .int (nI 0))]) dX0_init_50 rfl (by decide) rfl ?_
  refine k_X0_2 hA ?_ 10 0 rfl
  refine c_aload_n (n := 77) dX0_init_76 rfl rfl ?_
  refine c_bipush (n := 79) (x := nI 16) dX0_init_77 rfl rfl ?_
  refine c_anew (n := 82) (k := 22) (N := 16) dX0_init_79 rfl (by decide) (by decide) rfl rfl rfl ki_X0_25 (by show Ce _ (ac G z c 2 10 (z + 19)); rw [ac_19]; exact Ce.of (congrArg (Prod.mk 22) (rwf_0 _).symm)) (Nat.le_of_ble_eq_true rfl) (Nat.le_of_ble_eq_true rfl) ?_
  refine c_putr (n := 85) (q0 := z) (c' := ac G z c 3 0) dX0_init_82 rfl hA rfl ff_X0_27 (show z < z + 19 + 1 by omega) (by show (ac G z c 2 10 z).1 = 2; rw [ac_0]) rfl rfl ?_ (fun q hq hne => ?_) ?_
  · show Ce (2, updV (ac G z c 2 10 z).2 2 (.ref (G.1 + (z + 19)))) (ac G z c 3 0 z)
    rw [ac_0, ac_0]
    exact Ce.of (congrArg (Prod.mk 2) (aFl_3 z))
  · exact ac_ne hne (Or.inr rfl) (Or.inr rfl) (Or.inr rfl)
  refine c_iconst (n := 86) (x := nI 0) dX0_init_85 rfl rfl ?_
  refine c_istore_n (n := 87) (L' := [(0, .ref (G.1 + z)), (1, .int (nI 0))]) dX0_init_86 rfl (by decide) rfl ?_
  refine k_X0_3 hA ?_ 16 0 rfl
  exact c_ret dX0_init_112 rfl rfl rfl
end Area0
