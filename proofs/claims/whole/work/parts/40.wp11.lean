/-! wp-lemmas by program (wip/whole/wp.py) -/
set_option maxRecDepth 20000 in
set_option maxHeartbeats 4000000 in
theorem wX8_keep (G : Gl) {P : Option Value → St → Prop} {X : String → St → Prop}  (μ : St)
    (h : ((¬ μ 10 0 0 4 = nI 8 → VL G mX8_keep P X 52 [(0, .ref (zad G.1 10 0 0)), (1, .int (nI 0))] [] μ) ∧ (μ 10 0 0 4 = nI 8 → VL G mX8_keep P X 11 [(0, .ref (zad G.1 10 0 0)), (1, .int (nI 0))] [] μ))) :
    Con G mX8_keep [.ref (zad G.1 10 0 0)] μ P X := by
  refine con_of pn_X8 rfl (Nat.le_of_ble_eq_true rfl) ?_
  show VL G mX8_keep P X 0 [(0, .ref (zad G.1 10 0 0))] [] μ
  refine v_aload_n (n := 1) dX8_keep_0 rfl rfl ?_
  refine v_getf (n := 4) dX8_keep_1 rfl fl_X8_44 zokc_10 (rfl) ?_
  refine v_bipush (n := 6) (x := nI 8) dX8_keep_4 rfl (by decide) ?_
  refine v_icmp_ne (n := 9) (t := 50) dX8_keep_6 rfl (by decide) (fun hq => ?_) (fun hq => ?_)
  · replace h := h.1 hq
    refine v_iconst (n := 51) (x := nI 0) dX8_keep_50 rfl (by decide) ?_
    refine v_istore_n (n := 52) (L' := [(0, .ref (zad G.1 10 0 0)), (1, .int (nI 0))]) dX8_keep_51 rfl (by decide) rfl ?_
    exact h
  · replace h := h.2 hq
    refine v_iconst (n := 10) (x := nI 0) dX8_keep_9 rfl (by decide) ?_
    refine v_istore_n (n := 11) (L' := [(0, .ref (zad G.1 10 0 0)), (1, .int (nI 0))]) dX8_keep_10 rfl (by decide) rfl ?_
    exact h

set_option maxRecDepth 20000 in
set_option maxHeartbeats 4000000 in
theorem wX8_keep_11 (G : Gl) {P : Option Value → St → Prop} {X : String → St → Prop} (i1 : Nat) (μ : St)
    (h : ((nI 2604 ≤ nI i1 → VL G mX8_keep P X 52 [(0, .ref (zad G.1 10 0 0)), (1, .int (nI 0))] [] (up μ 10 0 0 4 ((μ 10 0 0 4) - (nI 1)))) ∧ (¬ nI 2604 ≤ nI i1 → i1 + 372 < 2976 ∧ i1 < 2976 ∧ VL G mX8_keep P X 11 [(0, .ref (zad G.1 10 0 0)), (1, .int (nI (i1 + 1)))] [] (up μ 28 0 0 i1 (μ 28 0 0 (i1 + 372)))))) :
    VL G mX8_keep P X 11 [(0, .ref (zad G.1 10 0 0)), (1, .int (nI i1))] [] μ := by
  refine v_iload_n (n := 12) dX8_keep_11 rfl rfl ?_
  refine v_sipush (n := 15) (x := nI 2604) dX8_keep_12 rfl (by decide) ?_
  refine v_icmp_ge (n := 18) (t := 40) dX8_keep_15 rfl (by decide) (fun hq => ?_) (fun hq => ?_)
  · replace h := h.1 hq
    refine v_aload_n (n := 41) dX8_keep_40 rfl rfl ?_
    refine v_dup (n := 42) dX8_keep_41 rfl rfl ?_
    refine v_getf (n := 45) dX8_keep_42 rfl fl_X8_44 zokc_10 (rfl) ?_
    refine v_iconst (n := 46) (x := nI 1) dX8_keep_45 rfl (by decide) ?_
    refine v_isub (n := 47) dX8_keep_46 rfl ?_
    refine v_putf (n := 50) dX8_keep_47 rfl fw_X8_44 zokc_10 (fun _ => rfl) rfl rfl ?_
    refine v_iconst (n := 51) (x := nI 0) dX8_keep_50 rfl (by decide) ?_
    refine v_istore_n (n := 52) (L' := [(0, .ref (zad G.1 10 0 0)), (1, .int (nI 0))]) dX8_keep_51 rfl (by decide) rfl ?_
    exact h
  · replace h := h.2 hq
    refine v_aload_n (n := 19) dX8_keep_18 rfl rfl ?_
    refine v_getf (n := 22) dX8_keep_19 rfl fl_X8_16 zokc_10 rfl ?_
    refine v_iload_n (n := 23) dX8_keep_22 rfl rfl ?_
    refine v_aload_n (n := 24) dX8_keep_23 rfl rfl ?_
    refine v_getf (n := 27) dX8_keep_24 rfl fl_X8_16 zokc_10 rfl ?_
    refine v_iload_n (n := 28) dX8_keep_27 rfl rfl ?_
    refine v_sipush (n := 31) (x := nI 372) dX8_keep_28 rfl (by decide) ?_
    refine v_iadd (n := 32) dX8_keep_31 rfl ?_
    refine v_top (y := nI (i1 + 372)) (nI_add i1 372) ?_
    obtain ⟨hf1, h⟩ := h
    refine v_iald (n := 33) (j := (i1 + 372)) dX8_keep_32 rfl zokc_28 (by decide) rfl rfl hf1 (rfl) ?_
    obtain ⟨hf2, h⟩ := h
    refine v_iast (n := 34) (j := i1) dX8_keep_33 rfl zokc_28 (by decide) (by decide) rfl rfl hf2 (fun _ => rfl) ?_
    refine v_iinc (n := 37) (x := nI i1) (y := nI (i1 + 1)) (L' := [(0, .ref (zad G.1 10 0 0)), (1, .int (nI (i1 + 1)))]) dX8_keep_34 rfl rfl (nI_1 i1) (by decide) rfl ?_
    refine v_goto (n := 11) dX8_keep_37 (by decide) ?_
    exact h

set_option maxRecDepth 20000 in
set_option maxHeartbeats 4000000 in
theorem wX8_keep_52 (G : Gl) {P : Option Value → St → Prop} {X : String → St → Prop} (i1 : Nat) (μ : St)
    (h : ((nI 372 ≤ nI i1 → P none (up μ 10 0 0 4 ((μ 10 0 0 4) + (nI 1)))) ∧ (¬ nI 372 ≤ nI i1 → i1 < 372 ∧ ∃ j1 : Nat, ((nI 372) * (μ 10 0 0 4)) + (nI i1) = nI j1 ∧ j1 < 2976 ∧ VL G mX8_keep P X 52 [(0, .ref (zad G.1 10 0 0)), (1, .int (nI (i1 + 1)))] [] (up μ 28 0 0 j1 (μ 26 0 0 i1))))) :
    VL G mX8_keep P X 52 [(0, .ref (zad G.1 10 0 0)), (1, .int (nI i1))] [] μ := by
  refine v_iload_n (n := 53) dX8_keep_52 rfl rfl ?_
  refine v_sipush (n := 56) (x := nI 372) dX8_keep_53 rfl (by decide) ?_
  refine v_icmp_ge (n := 59) (t := 86) dX8_keep_56 rfl (by decide) (fun hq => ?_) (fun hq => ?_)
  · replace h := h.1 hq
    refine v_aload_n (n := 87) dX8_keep_86 rfl rfl ?_
    refine v_dup (n := 88) dX8_keep_87 rfl rfl ?_
    refine v_getf (n := 91) dX8_keep_88 rfl fl_X8_44 zokc_10 (rfl) ?_
    refine v_iconst (n := 92) (x := nI 1) dX8_keep_91 rfl (by decide) ?_
    refine v_iadd (n := 93) dX8_keep_92 rfl ?_
    refine v_putf (n := 96) dX8_keep_93 rfl fw_X8_44 zokc_10 (fun _ => rfl) rfl rfl ?_
    exact v_vret dX8_keep_96 rfl (Nat.le_of_ble_eq_true rfl) (Nat.le_of_ble_eq_true rfl) h
  · replace h := h.2 hq
    refine v_aload_n (n := 60) dX8_keep_59 rfl rfl ?_
    refine v_getf (n := 63) dX8_keep_60 rfl fl_X8_16 zokc_10 rfl ?_
    refine v_sipush (n := 66) (x := nI 372) dX8_keep_63 rfl (by decide) ?_
    refine v_aload_n (n := 67) dX8_keep_66 rfl rfl ?_
    refine v_getf (n := 70) dX8_keep_67 rfl fl_X8_44 zokc_10 (rfl) ?_
    refine v_imul (n := 71) dX8_keep_70 rfl ?_
    refine v_iload_n (n := 72) dX8_keep_71 rfl rfl ?_
    refine v_iadd (n := 73) dX8_keep_72 rfl ?_
    refine v_aload_n (n := 74) dX8_keep_73 rfl rfl ?_
    refine v_getf (n := 77) dX8_keep_74 rfl fl_X8_9 zokc_10 rfl ?_
    refine v_iload_n (n := 78) dX8_keep_77 rfl rfl ?_
    obtain ⟨hf1, h⟩ := h
    refine v_iald (n := 79) (j := i1) dX8_keep_78 rfl zokc_26 (by decide) rfl rfl hf1 (rfl) ?_
    obtain ⟨j1, ej1, hj1, h⟩ := h
    refine v_iast (n := 80) (j := j1) dX8_keep_79 rfl zokc_28 (by decide) (by decide) rfl ej1 hj1 (fun _ => rfl) ?_
    refine v_iinc (n := 83) (x := nI i1) (y := nI (i1 + 1)) (L' := [(0, .ref (zad G.1 10 0 0)), (1, .int (nI (i1 + 1)))]) dX8_keep_80 rfl rfl (nI_1 i1) (by decide) rfl ?_
    refine v_goto (n := 52) dX8_keep_83 (by decide) ?_
    exact h

set_option maxRecDepth 20000 in
set_option maxHeartbeats 4000000 in
theorem wX8_clear (G : Gl) {P : Option Value → St → Prop} {X : String → St → Prop}  (μ : St)
    (h : VL G mX8_clear P X 14 [(0, .ref (zad G.1 10 0 0)), (1, .int (μ 26 0 0 5)), (2, .int (nI 0))] [] (up μ 10 0 0 6 (nI 0))) :
    Con G mX8_clear [.ref (zad G.1 10 0 0)] μ P X := by
  refine con_of pn_X8 rfl (Nat.le_of_ble_eq_true rfl) ?_
  show VL G mX8_clear P X 0 [(0, .ref (zad G.1 10 0 0))] [] μ
  refine v_aload_n (n := 1) dX8_clear_0 rfl rfl ?_
  refine v_iconst (n := 2) (x := nI 0) dX8_clear_1 rfl (by decide) ?_
  refine v_putf (n := 5) dX8_clear_2 rfl fw_X8_41 zokc_10 (fun _ => rfl) rfl rfl ?_
  refine v_aload_n (n := 6) dX8_clear_5 rfl rfl ?_
  refine v_getf (n := 9) dX8_clear_6 rfl fl_X8_9 zokc_10 rfl ?_
  refine v_iconst (n := 10) (x := nI 5) dX8_clear_9 rfl (by decide) ?_
  refine v_iald (n := 11) (j := 5) dX8_clear_10 rfl zokc_26 (by decide) rfl rfl (by decide) (congrArg Value.int (up_k (by decide))) ?_
  refine v_istore_n (n := 12) (L' := [(0, .ref (zad G.1 10 0 0)), (1, .int (μ 26 0 0 5))]) dX8_clear_11 rfl (by decide) rfl ?_
  refine v_iconst (n := 13) (x := nI 0) dX8_clear_12 rfl (by decide) ?_
  refine v_istore_n (n := 14) (L' := [(0, .ref (zad G.1 10 0 0)), (1, .int (μ 26 0 0 5)), (2, .int (nI 0))]) dX8_clear_13 rfl (by decide) rfl ?_
  exact h

set_option maxRecDepth 20000 in
set_option maxHeartbeats 4000000 in
theorem wX8_clear_14 (G : Gl) {P : Option Value → St → Prop} {X : String → St → Prop} (y1 : Int32) (i2 : Nat) (μ : St)
    (h : ((nI 372 ≤ nI i2 → P (some (.int y1)) (up μ 10 0 0 4 (nI 0))) ∧ (¬ nI 372 ≤ nI i2 → i2 < 372 ∧ VL G mX8_clear P X 14 [(0, .ref (zad G.1 10 0 0)), (1, .int y1), (2, .int (nI (i2 + 1)))] [] (up μ 26 0 0 i2 (nI 0))))) :
    VL G mX8_clear P X 14 [(0, .ref (zad G.1 10 0 0)), (1, .int y1), (2, .int (nI i2))] [] μ := by
  refine v_iload_n (n := 15) dX8_clear_14 rfl rfl ?_
  refine v_sipush (n := 18) (x := nI 372) dX8_clear_15 rfl (by decide) ?_
  refine v_icmp_ge (n := 21) (t := 34) dX8_clear_18 rfl (by decide) (fun hq => ?_) (fun hq => ?_)
  · replace h := h.1 hq
    refine v_aload_n (n := 35) dX8_clear_34 rfl rfl ?_
    refine v_iconst (n := 36) (x := nI 0) dX8_clear_35 rfl (by decide) ?_
    refine v_putf (n := 39) dX8_clear_36 rfl fw_X8_44 zokc_10 (fun _ => rfl) rfl rfl ?_
    refine v_iload_n (n := 40) dX8_clear_39 rfl rfl ?_
    exact v_iret dX8_clear_40 rfl (Nat.le_of_ble_eq_true rfl) (Nat.le_of_ble_eq_true rfl) h
  · replace h := h.2 hq
    refine v_aload_n (n := 22) dX8_clear_21 rfl rfl ?_
    refine v_getf (n := 25) dX8_clear_22 rfl fl_X8_9 zokc_10 rfl ?_
    refine v_iload_n (n := 26) dX8_clear_25 rfl rfl ?_
    refine v_iconst (n := 27) (x := nI 0) dX8_clear_26 rfl (by decide) ?_
    obtain ⟨hf1, h⟩ := h
    refine v_iast (n := 28) (j := i2) dX8_clear_27 rfl zokc_26 (by decide) (by decide) rfl rfl hf1 (fun _ => rfl) ?_
    refine v_iinc (n := 31) (x := nI i2) (y := nI (i2 + 1)) (L' := [(0, .ref (zad G.1 10 0 0)), (1, .int y1), (2, .int (nI (i2 + 1)))]) dX8_clear_28 rfl rfl (nI_1 i2) (by decide) rfl ?_
    refine v_goto (n := 14) dX8_clear_31 (by decide) ?_
    exact h

set_option maxRecDepth 20000 in
set_option maxHeartbeats 4000000 in
theorem wX8_addLift (G : Gl) {P : Option Value → St → Prop} {X : String → St → Prop} (x1 : Int32) (x2 : Int32) (x3 : Int32) (x4 : Int32) (x5 : Int32) (x6 : Int32) (μ : St)
    (h : ((isSt x1 = false → P (some (.int (nI 0))) (up (up μ 10 0 0 6 (nI 0)) 10 0 0 6 (nI 1))) ∧ (isSt x1 = true → ((isSt x2 = true → ((x1 = x2 → P (some (.int (nI 0))) (up (up μ 10 0 0 6 (nI 0)) 10 0 0 6 (nI 2))) ∧ (¬ x1 = x2 → ((btw x3 (nI 0) (nI 3) = false → P (some (.int (nI 0))) (up (up μ 10 0 0 6 (nI 0)) 10 0 0 6 (nI 2))) ∧ (btw x3 (nI 0) (nI 3) = true → ((btw x4 (nI 1) (nI 6) = false → P (some (.int (nI 0))) (up (up μ 10 0 0 6 (nI 0)) 10 0 0 6 (nI 2))) ∧ (btw x4 (nI 1) (nI 6) = true → ((btw x5 (nI 1) (nI 8) = false → P (some (.int (nI 0))) (up (up μ 10 0 0 6 (nI 0)) 10 0 0 6 (nI 2))) ∧ (btw x5 (nI 1) (nI 8) = true → ((btw x6 (nI 10) (nI 99) = false → P (some (.int (nI 0))) (up (up μ 10 0 0 6 (nI 0)) 10 0 0 6 (nI 2))) ∧ (btw x6 (nI 10) (nI 99) = true → ((x6 - x6 / (nI 10) * (nI 10) ≤ nI 3 → ((¬ μ 26 0 0 3 = nI 6 → Con G mX8_keep [.ref (zad G.1 10 0 0)] (up μ 10 0 0 6 (nI 0)) (fun v μ1 => v = none ∧ VL G mX8_addLift P X 135 [(0, .ref (zad G.1 10 0 0)), (1, .int x1), (2, .int x2), (3, .int x3), (4, .int x4), (5, .int x5), (6, .int x6), (7, .int (nI 1)), (8, .int (nI 6 + nI 21 * (μ1 26 0 0 3))), (9, .int (nI 0))] [] μ1) noX) ∧ (μ 26 0 0 3 = nI 6 → P (some (.int (nI 0))) (up (up μ 10 0 0 6 (nI 0)) 10 0 0 6 (nI 3))))) ∧ (¬ x6 - x6 / (nI 10) * (nI 10) ≤ nI 3 → P (some (.int (nI 0))) (up (up μ 10 0 0 6 (nI 0)) 10 0 0 6 (nI 2))))))))))))))) ∧ (isSt x2 = false → P (some (.int (nI 0))) (up (up μ 10 0 0 6 (nI 0)) 10 0 0 6 (nI 1))))))) :
    Con G mX8_addLift [.ref (zad G.1 10 0 0), .int x1, .int x2, .int x3, .int x4, .int x5, .int x6] μ P X := by
  refine con_of pn_X8 rfl (Nat.le_of_ble_eq_true rfl) ?_
  show VL G mX8_addLift P X 0 [(0, .ref (zad G.1 10 0 0)), (1, .int x1), (2, .int x2), (3, .int x3), (4, .int x4), (5, .int x5), (6, .int x6)] [] μ
  refine v_aload_n (n := 1) dX8_addLift_0 rfl rfl ?_
  refine v_iconst (n := 2) (x := nI 0) dX8_addLift_1 rfl (by decide) ?_
  refine v_putf (n := 5) dX8_addLift_2 rfl fw_X8_41 zokc_10 (fun _ => rfl) rfl rfl ?_
  refine v_iload_n (n := 6) dX8_addLift_5 rfl rfl ?_
  refine v_callS (n := 9) (As := [.int x1]) (rest := []) dX8_addLift_6 rfl lk_X8_58 rfl rfl (Nat.le_of_ble_eq_true rfl) ⟨Nat.le_of_ble_eq_true rfl, Nat.le_of_ble_eq_true rfl, Nat.le_of_ble_eq_true rfl, Nat.le_of_ble_eq_true rfl⟩ (s_X8_isStation G x1 (up μ 10 0 0 6 (nI 0))) (fun v μ9 hp => ?_) (fun _ _ hp => False.elim hp)
  rw [hp.1, hp.2]
  refine v_norm (st' := [.int (bI (isSt x1))]) (cells' := 0) (slots' := 0) rfl rfl rfl ?_
  refine v_if_eq (n := 12) (t := 19) dX8_addLift_9 rfl (by decide) (fun hq => ?_) (fun hq => ?_)
  · replace h := h.1 (bI_f hq)
    refine v_aload_n (n := 20) dX8_addLift_19 rfl rfl ?_
    refine v_iconst (n := 21) (x := nI 1) dX8_addLift_20 rfl (by decide) ?_
    refine v_callV (n := 24) (k := 10) (b := 0) (i := 0) (As := [.int (nI 1)]) (rest := []) dX8_addLift_21 rfl lk_X8_62 rfl rfl (Nat.le_of_ble_eq_true rfl) ⟨Nat.le_of_ble_eq_true rfl, Nat.le_of_ble_eq_true rfl, Nat.le_of_ble_eq_true rfl, Nat.le_of_ble_eq_true rfl⟩ zokc_10 (s_X8_refuse G (nI 1) (up μ 10 0 0 6 (nI 0))) (fun v μ9 hp => ?_) (fun _ _ hp => False.elim hp)
    rw [hp.1, hp.2]
    refine v_norm (st' := [.int (nI 0)]) (cells' := 0) (slots' := 0) rfl rfl rfl ?_
    exact v_iret dX8_addLift_24 rfl (Nat.le_of_ble_eq_true rfl) (Nat.le_of_ble_eq_true rfl) h
  · replace h := h.2 (bI_nf hq)
    refine v_iload_n (n := 13) dX8_addLift_12 rfl rfl ?_
    refine v_callS (n := 16) (As := [.int x2]) (rest := []) dX8_addLift_13 rfl lk_X8_58 rfl rfl (Nat.le_of_ble_eq_true rfl) ⟨Nat.le_of_ble_eq_true rfl, Nat.le_of_ble_eq_true rfl, Nat.le_of_ble_eq_true rfl, Nat.le_of_ble_eq_true rfl⟩ (s_X8_isStation G x2 (up μ 10 0 0 6 (nI 0))) (fun v μ9 hp => ?_) (fun _ _ hp => False.elim hp)
    rw [hp.1, hp.2]
    refine v_norm (st' := [.int (bI (isSt x2))]) (cells' := 0) (slots' := 0) rfl rfl rfl ?_
    refine v_if_ne (n := 19) (t := 25) dX8_addLift_16 rfl (by decide) (fun hq => ?_) (fun hq => ?_)
    · replace h := h.1 (bI_nf hq)
      refine v_iload_n (n := 26) dX8_addLift_25 rfl rfl ?_
      refine v_iload_n (n := 27) dX8_addLift_26 rfl rfl ?_
      refine v_icmp_eq (n := 30) (t := 65) dX8_addLift_27 rfl (by decide) (fun hq => ?_) (fun hq => ?_)
      · replace h := h.1 hq
        refine v_iconst (n := 66) (x := nI 0) dX8_addLift_65 rfl (by decide) ?_
        refine v_istore (n := 68) (L' := [(0, .ref (zad G.1 10 0 0)), (1, .int x1), (2, .int x2), (3, .int x3), (4, .int x4), (5, .int x5), (6, .int x6), (7, .int (nI 0))]) dX8_addLift_66 rfl (by decide) rfl ?_
        refine v_iload (n := 70) dX8_addLift_68 rfl rfl ?_
        refine v_if_eq (n := 73) (t := 94) dX8_addLift_70 rfl (by decide) (fun _ => ?_) (fun hq => absurd (by decide) hq)
        refine v_aload_n (n := 95) dX8_addLift_94 rfl rfl ?_
        refine v_iconst (n := 96) (x := nI 2) dX8_addLift_95 rfl (by decide) ?_
        refine v_callV (n := 99) (k := 10) (b := 0) (i := 0) (As := [.int (nI 2)]) (rest := []) dX8_addLift_96 rfl lk_X8_62 rfl rfl (Nat.le_of_ble_eq_true rfl) ⟨Nat.le_of_ble_eq_true rfl, Nat.le_of_ble_eq_true rfl, Nat.le_of_ble_eq_true rfl, Nat.le_of_ble_eq_true rfl⟩ zokc_10 (s_X8_refuse G (nI 2) (up μ 10 0 0 6 (nI 0))) (fun v μ9 hp => ?_) (fun _ _ hp => False.elim hp)
        rw [hp.1, hp.2]
        refine v_norm (st' := [.int (nI 0)]) (cells' := 0) (slots' := 0) rfl rfl rfl ?_
        exact v_iret dX8_addLift_99 rfl (Nat.le_of_ble_eq_true rfl) (Nat.le_of_ble_eq_true rfl) h
      · replace h := h.2 hq
        refine v_iload_n (n := 31) dX8_addLift_30 rfl rfl ?_
        refine v_iconst (n := 32) (x := nI 0) dX8_addLift_31 rfl (by decide) ?_
        refine v_iconst (n := 33) (x := nI 3) dX8_addLift_32 rfl (by decide) ?_
        refine v_callS (n := 36) (As := [.int x3, .int (nI 0), .int (nI 3)]) (rest := []) dX8_addLift_33 rfl lk_X8_47 rfl rfl (Nat.le_of_ble_eq_true rfl) ⟨Nat.le_of_ble_eq_true rfl, Nat.le_of_ble_eq_true rfl, Nat.le_of_ble_eq_true rfl, Nat.le_of_ble_eq_true rfl⟩ (s_X8_in G x3 (nI 0) (nI 3) (up μ 10 0 0 6 (nI 0))) (fun v μ9 hp => ?_) (fun _ _ hp => False.elim hp)
        rw [hp.1, hp.2]
        refine v_norm (st' := [.int (bI (btw x3 (nI 0) (nI 3)))]) (cells' := 0) (slots' := 0) rfl rfl rfl ?_
        refine v_if_eq (n := 39) (t := 65) dX8_addLift_36 rfl (by decide) (fun hq => ?_) (fun hq => ?_)
        · replace h := h.1 (bI_f hq)
          refine v_iconst (n := 66) (x := nI 0) dX8_addLift_65 rfl (by decide) ?_
          refine v_istore (n := 68) (L' := [(0, .ref (zad G.1 10 0 0)), (1, .int x1), (2, .int x2), (3, .int x3), (4, .int x4), (5, .int x5), (6, .int x6), (7, .int (nI 0))]) dX8_addLift_66 rfl (by decide) rfl ?_
          refine v_iload (n := 70) dX8_addLift_68 rfl rfl ?_
          refine v_if_eq (n := 73) (t := 94) dX8_addLift_70 rfl (by decide) (fun _ => ?_) (fun hq => absurd (by decide) hq)
          refine v_aload_n (n := 95) dX8_addLift_94 rfl rfl ?_
          refine v_iconst (n := 96) (x := nI 2) dX8_addLift_95 rfl (by decide) ?_
          refine v_callV (n := 99) (k := 10) (b := 0) (i := 0) (As := [.int (nI 2)]) (rest := []) dX8_addLift_96 rfl lk_X8_62 rfl rfl (Nat.le_of_ble_eq_true rfl) ⟨Nat.le_of_ble_eq_true rfl, Nat.le_of_ble_eq_true rfl, Nat.le_of_ble_eq_true rfl, Nat.le_of_ble_eq_true rfl⟩ zokc_10 (s_X8_refuse G (nI 2) (up μ 10 0 0 6 (nI 0))) (fun v μ9 hp => ?_) (fun _ _ hp => False.elim hp)
          rw [hp.1, hp.2]
          refine v_norm (st' := [.int (nI 0)]) (cells' := 0) (slots' := 0) rfl rfl rfl ?_
          exact v_iret dX8_addLift_99 rfl (Nat.le_of_ble_eq_true rfl) (Nat.le_of_ble_eq_true rfl) h
        · replace h := h.2 (bI_nf hq)
          refine v_iload (n := 41) dX8_addLift_39 rfl rfl ?_
          refine v_iconst (n := 42) (x := nI 1) dX8_addLift_41 rfl (by decide) ?_
          refine v_bipush (n := 44) (x := nI 6) dX8_addLift_42 rfl (by decide) ?_
          refine v_callS (n := 47) (As := [.int x4, .int (nI 1), .int (nI 6)]) (rest := []) dX8_addLift_44 rfl lk_X8_47 rfl rfl (Nat.le_of_ble_eq_true rfl) ⟨Nat.le_of_ble_eq_true rfl, Nat.le_of_ble_eq_true rfl, Nat.le_of_ble_eq_true rfl, Nat.le_of_ble_eq_true rfl⟩ (s_X8_in G x4 (nI 1) (nI 6) (up μ 10 0 0 6 (nI 0))) (fun v μ9 hp => ?_) (fun _ _ hp => False.elim hp)
          rw [hp.1, hp.2]
          refine v_norm (st' := [.int (bI (btw x4 (nI 1) (nI 6)))]) (cells' := 0) (slots' := 0) rfl rfl rfl ?_
          refine v_if_eq (n := 50) (t := 65) dX8_addLift_47 rfl (by decide) (fun hq => ?_) (fun hq => ?_)
          · replace h := h.1 (bI_f hq)
            refine v_iconst (n := 66) (x := nI 0) dX8_addLift_65 rfl (by decide) ?_
            refine v_istore (n := 68) (L' := [(0, .ref (zad G.1 10 0 0)), (1, .int x1), (2, .int x2), (3, .int x3), (4, .int x4), (5, .int x5), (6, .int x6), (7, .int (nI 0))]) dX8_addLift_66 rfl (by decide) rfl ?_
            refine v_iload (n := 70) dX8_addLift_68 rfl rfl ?_
            refine v_if_eq (n := 73) (t := 94) dX8_addLift_70 rfl (by decide) (fun _ => ?_) (fun hq => absurd (by decide) hq)
            refine v_aload_n (n := 95) dX8_addLift_94 rfl rfl ?_
            refine v_iconst (n := 96) (x := nI 2) dX8_addLift_95 rfl (by decide) ?_
            refine v_callV (n := 99) (k := 10) (b := 0) (i := 0) (As := [.int (nI 2)]) (rest := []) dX8_addLift_96 rfl lk_X8_62 rfl rfl (Nat.le_of_ble_eq_true rfl) ⟨Nat.le_of_ble_eq_true rfl, Nat.le_of_ble_eq_true rfl, Nat.le_of_ble_eq_true rfl, Nat.le_of_ble_eq_true rfl⟩ zokc_10 (s_X8_refuse G (nI 2) (up μ 10 0 0 6 (nI 0))) (fun v μ9 hp => ?_) (fun _ _ hp => False.elim hp)
            rw [hp.1, hp.2]
            refine v_norm (st' := [.int (nI 0)]) (cells' := 0) (slots' := 0) rfl rfl rfl ?_
            exact v_iret dX8_addLift_99 rfl (Nat.le_of_ble_eq_true rfl) (Nat.le_of_ble_eq_true rfl) h
          · replace h := h.2 (bI_nf hq)
            refine v_iload (n := 52) dX8_addLift_50 rfl rfl ?_
            refine v_iconst (n := 53) (x := nI 1) dX8_addLift_52 rfl (by decide) ?_
            refine v_bipush (n := 55) (x := nI 8) dX8_addLift_53 rfl (by decide) ?_
            refine v_callS (n := 58) (As := [.int x5, .int (nI 1), .int (nI 8)]) (rest := []) dX8_addLift_55 rfl lk_X8_47 rfl rfl (Nat.le_of_ble_eq_true rfl) ⟨Nat.le_of_ble_eq_true rfl, Nat.le_of_ble_eq_true rfl, Nat.le_of_ble_eq_true rfl, Nat.le_of_ble_eq_true rfl⟩ (s_X8_in G x5 (nI 1) (nI 8) (up μ 10 0 0 6 (nI 0))) (fun v μ9 hp => ?_) (fun _ _ hp => False.elim hp)
            rw [hp.1, hp.2]
            refine v_norm (st' := [.int (bI (btw x5 (nI 1) (nI 8)))]) (cells' := 0) (slots' := 0) rfl rfl rfl ?_
            refine v_if_eq (n := 61) (t := 65) dX8_addLift_58 rfl (by decide) (fun hq => ?_) (fun hq => ?_)
            · replace h := h.1 (bI_f hq)
              refine v_iconst (n := 66) (x := nI 0) dX8_addLift_65 rfl (by decide) ?_
              refine v_istore (n := 68) (L' := [(0, .ref (zad G.1 10 0 0)), (1, .int x1), (2, .int x2), (3, .int x3), (4, .int x4), (5, .int x5), (6, .int x6), (7, .int (nI 0))]) dX8_addLift_66 rfl (by decide) rfl ?_
              refine v_iload (n := 70) dX8_addLift_68 rfl rfl ?_
              refine v_if_eq (n := 73) (t := 94) dX8_addLift_70 rfl (by decide) (fun _ => ?_) (fun hq => absurd (by decide) hq)
              refine v_aload_n (n := 95) dX8_addLift_94 rfl rfl ?_
              refine v_iconst (n := 96) (x := nI 2) dX8_addLift_95 rfl (by decide) ?_
              refine v_callV (n := 99) (k := 10) (b := 0) (i := 0) (As := [.int (nI 2)]) (rest := []) dX8_addLift_96 rfl lk_X8_62 rfl rfl (Nat.le_of_ble_eq_true rfl) ⟨Nat.le_of_ble_eq_true rfl, Nat.le_of_ble_eq_true rfl, Nat.le_of_ble_eq_true rfl, Nat.le_of_ble_eq_true rfl⟩ zokc_10 (s_X8_refuse G (nI 2) (up μ 10 0 0 6 (nI 0))) (fun v μ9 hp => ?_) (fun _ _ hp => False.elim hp)
              rw [hp.1, hp.2]
              refine v_norm (st' := [.int (nI 0)]) (cells' := 0) (slots' := 0) rfl rfl rfl ?_
              exact v_iret dX8_addLift_99 rfl (Nat.le_of_ble_eq_true rfl) (Nat.le_of_ble_eq_true rfl) h
            · replace h := h.2 (bI_nf hq)
              refine v_iconst (n := 62) (x := nI 1) dX8_addLift_61 rfl (by decide) ?_
              refine v_goto (n := 66) dX8_addLift_62 (by decide) ?_
              refine v_istore (n := 68) (L' := [(0, .ref (zad G.1 10 0 0)), (1, .int x1), (2, .int x2), (3, .int x3), (4, .int x4), (5, .int x5), (6, .int x6), (7, .int (nI 1))]) dX8_addLift_66 rfl (by decide) rfl ?_
              refine v_iload (n := 70) dX8_addLift_68 rfl rfl ?_
              refine v_if_eq (n := 73) (t := 94) dX8_addLift_70 rfl (by decide) (fun hq => absurd hq (by decide)) (fun _ => ?_)
              refine v_iload (n := 75) dX8_addLift_73 rfl rfl ?_
              refine v_bipush (n := 77) (x := nI 10) dX8_addLift_75 rfl (by decide) ?_
              refine v_bipush (n := 79) (x := nI 99) dX8_addLift_77 rfl (by decide) ?_
              refine v_callS (n := 82) (As := [.int x6, .int (nI 10), .int (nI 99)]) (rest := []) dX8_addLift_79 rfl lk_X8_47 rfl rfl (Nat.le_of_ble_eq_true rfl) ⟨Nat.le_of_ble_eq_true rfl, Nat.le_of_ble_eq_true rfl, Nat.le_of_ble_eq_true rfl, Nat.le_of_ble_eq_true rfl⟩ (s_X8_in G x6 (nI 10) (nI 99) (up μ 10 0 0 6 (nI 0))) (fun v μ9 hp => ?_) (fun _ _ hp => False.elim hp)
              rw [hp.1, hp.2]
              refine v_norm (st' := [.int (bI (btw x6 (nI 10) (nI 99)))]) (cells' := 0) (slots' := 0) rfl rfl rfl ?_
              refine v_if_eq (n := 85) (t := 94) dX8_addLift_82 rfl (by decide) (fun hq => ?_) (fun hq => ?_)
              · replace h := h.1 (bI_f hq)
                refine v_aload_n (n := 95) dX8_addLift_94 rfl rfl ?_
                refine v_iconst (n := 96) (x := nI 2) dX8_addLift_95 rfl (by decide) ?_
                refine v_callV (n := 99) (k := 10) (b := 0) (i := 0) (As := [.int (nI 2)]) (rest := []) dX8_addLift_96 rfl lk_X8_62 rfl rfl (Nat.le_of_ble_eq_true rfl) ⟨Nat.le_of_ble_eq_true rfl, Nat.le_of_ble_eq_true rfl, Nat.le_of_ble_eq_true rfl, Nat.le_of_ble_eq_true rfl⟩ zokc_10 (s_X8_refuse G (nI 2) (up μ 10 0 0 6 (nI 0))) (fun v μ9 hp => ?_) (fun _ _ hp => False.elim hp)
                rw [hp.1, hp.2]
                refine v_norm (st' := [.int (nI 0)]) (cells' := 0) (slots' := 0) rfl rfl rfl ?_
                exact v_iret dX8_addLift_99 rfl (Nat.le_of_ble_eq_true rfl) (Nat.le_of_ble_eq_true rfl) h
              · replace h := h.2 (bI_nf hq)
                refine v_iload (n := 87) dX8_addLift_85 rfl rfl ?_
                refine v_bipush (n := 89) (x := nI 10) dX8_addLift_87 rfl (by decide) ?_
                refine v_irem (n := 90) dX8_addLift_89 rfl (by decide) ?_
                refine v_iconst (n := 91) (x := nI 3) dX8_addLift_90 rfl (by decide) ?_
                refine v_icmp_le (n := 94) (t := 100) dX8_addLift_91 rfl (by decide) (fun hq => ?_) (fun hq => ?_)
                · replace h := h.1 hq
                  refine v_aload_n (n := 101) dX8_addLift_100 rfl rfl ?_
                  refine v_getf (n := 104) dX8_addLift_101 rfl fl_X8_9 zokc_10 rfl ?_
                  refine v_iconst (n := 105) (x := nI 3) dX8_addLift_104 rfl (by decide) ?_
                  refine v_iald (n := 106) (j := 3) dX8_addLift_105 rfl zokc_26 (by decide) rfl rfl (by decide) (congrArg Value.int (up_k (by decide))) ?_
                  refine v_bipush (n := 108) (x := nI 6) dX8_addLift_106 rfl (by decide) ?_
                  refine v_icmp_ne (n := 111) (t := 117) dX8_addLift_108 rfl (by decide) (fun hq => ?_) (fun hq => ?_)
                  · replace h := h.1 hq
                    refine v_aload_n (n := 118) dX8_addLift_117 rfl rfl ?_
                    refine v_callV (n := 121) (k := 10) (b := 0) (i := 0) (As := []) (rest := []) dX8_addLift_118 rfl lk_X8_65 rfl rfl (Nat.le_of_ble_eq_true rfl) ⟨Nat.le_of_ble_eq_true rfl, Nat.le_of_ble_eq_true rfl, Nat.le_of_ble_eq_true rfl, Nat.le_of_ble_eq_true rfl⟩ zokc_10 h (fun v μ1 h => ?_) (fun _ _ hp => False.elim hp)
                    obtain ⟨rfl, h⟩ := h
                    refine v_norm (st' := []) (cells' := 0) (slots' := 0) rfl rfl rfl ?_
                    refine v_aload_n (n := 122) dX8_addLift_121 rfl rfl ?_
                    refine v_getf (n := 125) dX8_addLift_122 rfl fl_X8_9 zokc_10 rfl ?_
                    refine v_iconst (n := 126) (x := nI 3) dX8_addLift_125 rfl (by decide) ?_
                    refine v_iald (n := 127) (j := 3) dX8_addLift_126 rfl zokc_26 (by decide) rfl rfl (by decide) (rfl) ?_
                    refine v_callS (n := 130) (As := [.int (μ1 26 0 0 3)]) (rest := []) dX8_addLift_127 rfl lk_X8_51 rfl rfl (Nat.le_of_ble_eq_true rfl) ⟨Nat.le_of_ble_eq_true rfl, Nat.le_of_ble_eq_true rfl, Nat.le_of_ble_eq_true rfl, Nat.le_of_ble_eq_true rfl⟩ (s_X8_lift0 G (μ1 26 0 0 3) μ1) (fun v μ9 hp => ?_) (fun _ _ hp => False.elim hp)
                    rw [hp.1, hp.2]
                    refine v_norm (st' := [.int (nI 6 + nI 21 * (μ1 26 0 0 3))]) (cells' := 0) (slots' := 0) rfl rfl rfl ?_
                    refine v_istore (n := 132) (L' := [(0, .ref (zad G.1 10 0 0)), (1, .int x1), (2, .int x2), (3, .int x3), (4, .int x4), (5, .int x5), (6, .int x6), (7, .int (nI 1)), (8, .int (nI 6 + nI 21 * (μ1 26 0 0 3)))]) dX8_addLift_130 rfl (by decide) rfl ?_
                    refine v_iconst (n := 133) (x := nI 0) dX8_addLift_132 rfl (by decide) ?_
                    refine v_istore (n := 135) (L' := [(0, .ref (zad G.1 10 0 0)), (1, .int x1), (2, .int x2), (3, .int x3), (4, .int x4), (5, .int x5), (6, .int x6), (7, .int (nI 1)), (8, .int (nI 6 + nI 21 * (μ1 26 0 0 3))), (9, .int (nI 0))]) dX8_addLift_133 rfl (by decide) rfl ?_
                    exact h
                  · replace h := h.2 hq
                    refine v_aload_n (n := 112) dX8_addLift_111 rfl rfl ?_
                    refine v_iconst (n := 113) (x := nI 3) dX8_addLift_112 rfl (by decide) ?_
                    refine v_callV (n := 116) (k := 10) (b := 0) (i := 0) (As := [.int (nI 3)]) (rest := []) dX8_addLift_113 rfl lk_X8_62 rfl rfl (Nat.le_of_ble_eq_true rfl) ⟨Nat.le_of_ble_eq_true rfl, Nat.le_of_ble_eq_true rfl, Nat.le_of_ble_eq_true rfl, Nat.le_of_ble_eq_true rfl⟩ zokc_10 (s_X8_refuse G (nI 3) (up μ 10 0 0 6 (nI 0))) (fun v μ9 hp => ?_) (fun _ _ hp => False.elim hp)
                    rw [hp.1, hp.2]
                    refine v_norm (st' := [.int (nI 0)]) (cells' := 0) (slots' := 0) rfl rfl rfl ?_
                    exact v_iret dX8_addLift_116 rfl (Nat.le_of_ble_eq_true rfl) (Nat.le_of_ble_eq_true rfl) h
                · replace h := h.2 hq
                  refine v_aload_n (n := 95) dX8_addLift_94 rfl rfl ?_
                  refine v_iconst (n := 96) (x := nI 2) dX8_addLift_95 rfl (by decide) ?_
                  refine v_callV (n := 99) (k := 10) (b := 0) (i := 0) (As := [.int (nI 2)]) (rest := []) dX8_addLift_96 rfl lk_X8_62 rfl rfl (Nat.le_of_ble_eq_true rfl) ⟨Nat.le_of_ble_eq_true rfl, Nat.le_of_ble_eq_true rfl, Nat.le_of_ble_eq_true rfl, Nat.le_of_ble_eq_true rfl⟩ zokc_10 (s_X8_refuse G (nI 2) (up μ 10 0 0 6 (nI 0))) (fun v μ9 hp => ?_) (fun _ _ hp => False.elim hp)
                  rw [hp.1, hp.2]
                  refine v_norm (st' := [.int (nI 0)]) (cells' := 0) (slots' := 0) rfl rfl rfl ?_
                  exact v_iret dX8_addLift_99 rfl (Nat.le_of_ble_eq_true rfl) (Nat.le_of_ble_eq_true rfl) h
    · replace h := h.2 (bI_f hq)
      refine v_aload_n (n := 20) dX8_addLift_19 rfl rfl ?_
      refine v_iconst (n := 21) (x := nI 1) dX8_addLift_20 rfl (by decide) ?_
      refine v_callV (n := 24) (k := 10) (b := 0) (i := 0) (As := [.int (nI 1)]) (rest := []) dX8_addLift_21 rfl lk_X8_62 rfl rfl (Nat.le_of_ble_eq_true rfl) ⟨Nat.le_of_ble_eq_true rfl, Nat.le_of_ble_eq_true rfl, Nat.le_of_ble_eq_true rfl, Nat.le_of_ble_eq_true rfl⟩ zokc_10 (s_X8_refuse G (nI 1) (up μ 10 0 0 6 (nI 0))) (fun v μ9 hp => ?_) (fun _ _ hp => False.elim hp)
      rw [hp.1, hp.2]
      refine v_norm (st' := [.int (nI 0)]) (cells' := 0) (slots' := 0) rfl rfl rfl ?_
      exact v_iret dX8_addLift_24 rfl (Nat.le_of_ble_eq_true rfl) (Nat.le_of_ble_eq_true rfl) h

set_option maxRecDepth 20000 in
set_option maxHeartbeats 4000000 in
theorem wX8_addLift_135 (G : Gl) {P : Option Value → St → Prop} {X : String → St → Prop} (x1 : Int32) (x2 : Int32) (x3 : Int32) (x4 : Int32) (x5 : Int32) (x6 : Int32) (y8 : Int32) (i9 : Nat) (μ : St)
    (h : ((nI 21 ≤ nI i9 → ∃ j1 : Nat, y8 = nI j1 ∧ j1 < 372 ∧ ∃ j2 : Nat, y8 + (nI 1) = nI j2 ∧ j2 < 372 ∧ ∃ j3 : Nat, y8 + (nI 2) = nI j3 ∧ j3 < 372 ∧ ∃ j4 : Nat, y8 + (nI 3) = nI j4 ∧ j4 < 372 ∧ ∃ j5 : Nat, y8 + (nI 4) = nI j5 ∧ j5 < 372 ∧ ∃ j6 : Nat, y8 + (nI 5) = nI j6 ∧ j6 < 372 ∧ ∃ j7 : Nat, y8 + (nI 6) = nI j7 ∧ j7 < 372 ∧ P (some (.int ((((up (up (up (up (up (up (up μ 26 0 0 j1 x1) 26 0 0 j2 x2) 26 0 0 j3 x3) 26 0 0 j4 x4) 26 0 0 j5 x5) 26 0 0 j6 (x6 / (nI 10))) 26 0 0 j7 (x6 - x6 / (nI 10) * (nI 10))) 26 0 0 3) + (nI 1)) - (nI 1)))) (up (up (up (up (up (up (up (up μ 26 0 0 j1 x1) 26 0 0 j2 x2) 26 0 0 j3 x3) 26 0 0 j4 x4) 26 0 0 j5 x5) 26 0 0 j6 (x6 / (nI 10))) 26 0 0 j7 (x6 - x6 / (nI 10) * (nI 10))) 26 0 0 3 (((up (up (up (up (up (up (up μ 26 0 0 j1 x1) 26 0 0 j2 x2) 26 0 0 j3 x3) 26 0 0 j4 x4) 26 0 0 j5 x5) 26 0 0 j6 (x6 / (nI 10))) 26 0 0 j7 (x6 - x6 / (nI 10) * (nI 10))) 26 0 0 3) + (nI 1)))) ∧ (¬ nI 21 ≤ nI i9 → ∃ j8 : Nat, y8 + (nI i9) = nI j8 ∧ j8 < 372 ∧ VL G mX8_addLift P X 135 [(0, .ref (zad G.1 10 0 0)), (1, .int x1), (2, .int x2), (3, .int x3), (4, .int x4), (5, .int x5), (6, .int x6), (7, .int (nI 1)), (8, .int y8), (9, .int (nI (i9 + 1)))] [] (up μ 26 0 0 j8 (nI 0))))) :
    VL G mX8_addLift P X 135 [(0, .ref (zad G.1 10 0 0)), (1, .int x1), (2, .int x2), (3, .int x3), (4, .int x4), (5, .int x5), (6, .int x6), (7, .int (nI 1)), (8, .int y8), (9, .int (nI i9))] [] μ := by
  refine v_iload (n := 137) dX8_addLift_135 rfl rfl ?_
  refine v_bipush (n := 139) (x := nI 21) dX8_addLift_137 rfl (by decide) ?_
  refine v_icmp_ge (n := 142) (t := 159) dX8_addLift_139 rfl (by decide) (fun hq => ?_) (fun hq => ?_)
  · replace h := h.1 hq
    refine v_aload_n (n := 160) dX8_addLift_159 rfl rfl ?_
    refine v_getf (n := 163) dX8_addLift_160 rfl fl_X8_9 zokc_10 rfl ?_
    refine v_iload (n := 165) dX8_addLift_163 rfl rfl ?_
    refine v_iload_n (n := 166) dX8_addLift_165 rfl rfl ?_
    obtain ⟨j1, ej1, hj1, h⟩ := h
    refine v_iast (n := 167) (j := j1) dX8_addLift_166 rfl zokc_26 (by decide) (by decide) rfl ej1 hj1 (fun _ => rfl) ?_
    refine v_aload_n (n := 168) dX8_addLift_167 rfl rfl ?_
    refine v_getf (n := 171) dX8_addLift_168 rfl fl_X8_9 zokc_10 rfl ?_
    refine v_iload (n := 173) dX8_addLift_171 rfl rfl ?_
    refine v_iconst (n := 174) (x := nI 1) dX8_addLift_173 rfl (by decide) ?_
    refine v_iadd (n := 175) dX8_addLift_174 rfl ?_
    refine v_iload_n (n := 176) dX8_addLift_175 rfl rfl ?_
    obtain ⟨j2, ej2, hj2, h⟩ := h
    refine v_iast (n := 177) (j := j2) dX8_addLift_176 rfl zokc_26 (by decide) (by decide) rfl ej2 hj2 (fun _ => rfl) ?_
    refine v_aload_n (n := 178) dX8_addLift_177 rfl rfl ?_
    refine v_getf (n := 181) dX8_addLift_178 rfl fl_X8_9 zokc_10 rfl ?_
    refine v_iload (n := 183) dX8_addLift_181 rfl rfl ?_
    refine v_iconst (n := 184) (x := nI 2) dX8_addLift_183 rfl (by decide) ?_
    refine v_iadd (n := 185) dX8_addLift_184 rfl ?_
    refine v_iload_n (n := 186) dX8_addLift_185 rfl rfl ?_
    obtain ⟨j3, ej3, hj3, h⟩ := h
    refine v_iast (n := 187) (j := j3) dX8_addLift_186 rfl zokc_26 (by decide) (by decide) rfl ej3 hj3 (fun _ => rfl) ?_
    refine v_aload_n (n := 188) dX8_addLift_187 rfl rfl ?_
    refine v_getf (n := 191) dX8_addLift_188 rfl fl_X8_9 zokc_10 rfl ?_
    refine v_iload (n := 193) dX8_addLift_191 rfl rfl ?_
    refine v_iconst (n := 194) (x := nI 3) dX8_addLift_193 rfl (by decide) ?_
    refine v_iadd (n := 195) dX8_addLift_194 rfl ?_
    refine v_iload (n := 197) dX8_addLift_195 rfl rfl ?_
    obtain ⟨j4, ej4, hj4, h⟩ := h
    refine v_iast (n := 198) (j := j4) dX8_addLift_197 rfl zokc_26 (by decide) (by decide) rfl ej4 hj4 (fun _ => rfl) ?_
    refine v_aload_n (n := 199) dX8_addLift_198 rfl rfl ?_
    refine v_getf (n := 202) dX8_addLift_199 rfl fl_X8_9 zokc_10 rfl ?_
    refine v_iload (n := 204) dX8_addLift_202 rfl rfl ?_
    refine v_iconst (n := 205) (x := nI 4) dX8_addLift_204 rfl (by decide) ?_
    refine v_iadd (n := 206) dX8_addLift_205 rfl ?_
    refine v_iload (n := 208) dX8_addLift_206 rfl rfl ?_
    obtain ⟨j5, ej5, hj5, h⟩ := h
    refine v_iast (n := 209) (j := j5) dX8_addLift_208 rfl zokc_26 (by decide) (by decide) rfl ej5 hj5 (fun _ => rfl) ?_
    refine v_aload_n (n := 210) dX8_addLift_209 rfl rfl ?_
    refine v_getf (n := 213) dX8_addLift_210 rfl fl_X8_9 zokc_10 rfl ?_
    refine v_iload (n := 215) dX8_addLift_213 rfl rfl ?_
    refine v_iconst (n := 216) (x := nI 5) dX8_addLift_215 rfl (by decide) ?_
    refine v_iadd (n := 217) dX8_addLift_216 rfl ?_
    refine v_iload (n := 219) dX8_addLift_217 rfl rfl ?_
    refine v_bipush (n := 221) (x := nI 10) dX8_addLift_219 rfl (by decide) ?_
    refine v_idiv (n := 222) dX8_addLift_221 rfl (by decide) ?_
    obtain ⟨j6, ej6, hj6, h⟩ := h
    refine v_iast (n := 223) (j := j6) dX8_addLift_222 rfl zokc_26 (by decide) (by decide) rfl ej6 hj6 (fun _ => rfl) ?_
    refine v_aload_n (n := 224) dX8_addLift_223 rfl rfl ?_
    refine v_getf (n := 227) dX8_addLift_224 rfl fl_X8_9 zokc_10 rfl ?_
    refine v_iload (n := 229) dX8_addLift_227 rfl rfl ?_
    refine v_bipush (n := 231) (x := nI 6) dX8_addLift_229 rfl (by decide) ?_
    refine v_iadd (n := 232) dX8_addLift_231 rfl ?_
    refine v_iload (n := 234) dX8_addLift_232 rfl rfl ?_
    refine v_bipush (n := 236) (x := nI 10) dX8_addLift_234 rfl (by decide) ?_
    refine v_irem (n := 237) dX8_addLift_236 rfl (by decide) ?_
    obtain ⟨j7, ej7, hj7, h⟩ := h
    refine v_iast (n := 238) (j := j7) dX8_addLift_237 rfl zokc_26 (by decide) (by decide) rfl ej7 hj7 (fun _ => rfl) ?_
    refine v_aload_n (n := 239) dX8_addLift_238 rfl rfl ?_
    refine v_getf (n := 242) dX8_addLift_239 rfl fl_X8_9 zokc_10 rfl ?_
    refine v_iconst (n := 243) (x := nI 3) dX8_addLift_242 rfl (by decide) ?_
    refine v_dup2 (n := 244) dX8_addLift_243 rfl rfl rfl ?_
    refine v_iald (n := 245) (j := 3) dX8_addLift_244 rfl zokc_26 (by decide) rfl rfl (by decide) (rfl) ?_
    refine v_iconst (n := 246) (x := nI 1) dX8_addLift_245 rfl (by decide) ?_
    refine v_iadd (n := 247) dX8_addLift_246 rfl ?_
    refine v_iast (n := 248) (j := 3) dX8_addLift_247 rfl zokc_26 (by decide) (by decide) rfl rfl (by decide) (fun _ => rfl) ?_
    refine v_aload_n (n := 249) dX8_addLift_248 rfl rfl ?_
    refine v_getf (n := 252) dX8_addLift_249 rfl fl_X8_9 zokc_10 rfl ?_
    refine v_iconst (n := 253) (x := nI 3) dX8_addLift_252 rfl (by decide) ?_
    refine v_iald (n := 254) (j := 3) dX8_addLift_253 rfl zokc_26 (by decide) rfl rfl (by decide) (congrArg Value.int (up_self _ _ _ _ _ _)) ?_
    refine v_iconst (n := 255) (x := nI 1) dX8_addLift_254 rfl (by decide) ?_
    refine v_isub (n := 256) dX8_addLift_255 rfl ?_
    exact v_iret dX8_addLift_256 rfl (Nat.le_of_ble_eq_true rfl) (Nat.le_of_ble_eq_true rfl) h
  · replace h := h.2 hq
    refine v_aload_n (n := 143) dX8_addLift_142 rfl rfl ?_
    refine v_getf (n := 146) dX8_addLift_143 rfl fl_X8_9 zokc_10 rfl ?_
    refine v_iload (n := 148) dX8_addLift_146 rfl rfl ?_
    refine v_iload (n := 150) dX8_addLift_148 rfl rfl ?_
    refine v_iadd (n := 151) dX8_addLift_150 rfl ?_
    refine v_iconst (n := 152) (x := nI 0) dX8_addLift_151 rfl (by decide) ?_
    obtain ⟨j8, ej8, hj8, h⟩ := h
    refine v_iast (n := 153) (j := j8) dX8_addLift_152 rfl zokc_26 (by decide) (by decide) rfl ej8 hj8 (fun _ => rfl) ?_
    refine v_iinc (n := 156) (x := nI i9) (y := nI (i9 + 1)) (L' := [(0, .ref (zad G.1 10 0 0)), (1, .int x1), (2, .int x2), (3, .int x3), (4, .int x4), (5, .int x5), (6, .int x6), (7, .int (nI 1)), (8, .int y8), (9, .int (nI (i9 + 1)))]) dX8_addLift_153 rfl rfl (nI_1 i9) (by decide) rfl ?_
    refine v_goto (n := 135) dX8_addLift_156 (by decide) ?_
    exact h

set_option maxRecDepth 20000 in
set_option maxHeartbeats 4000000 in
theorem wX8_addPiste (G : Gl) {P : Option Value → St → Prop} {X : String → St → Prop} (x1 : Int32) (x2 : Int32) (x3 : Int32) (x4 : Int32) (μ : St)
    (h : ((isSt x1 = false → P (some (.int (nI 0))) (up (up μ 10 0 0 6 (nI 0)) 10 0 0 6 (nI 1))) ∧ (isSt x1 = true → ((isSt x2 = true → ((x1 = x2 → P (some (.int (nI 0))) (up (up μ 10 0 0 6 (nI 0)) 10 0 0 6 (nI 2))) ∧ (¬ x1 = x2 → ((btw x3 (nI 1) (nI 3) = false → P (some (.int (nI 0))) (up (up μ 10 0 0 6 (nI 0)) 10 0 0 6 (nI 2))) ∧ (btw x3 (nI 1) (nI 3) = true → ((btw x4 (nI 1) (nI 9) = true → ((¬ μ 26 0 0 4 = nI 10 → Con G mX8_keep [.ref (zad G.1 10 0 0)] (up μ 10 0 0 6 (nI 0)) (fun v μ1 => v = none ∧ VL G mX8_addPiste P X 91 [(0, .ref (zad G.1 10 0 0)), (1, .int x1), (2, .int x2), (3, .int x3), (4, .int x4), (5, .int (nI 132 + nI 8 * (μ1 26 0 0 4))), (6, .int (nI 0))] [] μ1) noX) ∧ (μ 26 0 0 4 = nI 10 → P (some (.int (nI 0))) (up (up μ 10 0 0 6 (nI 0)) 10 0 0 6 (nI 3))))) ∧ (btw x4 (nI 1) (nI 9) = false → P (some (.int (nI 0))) (up (up μ 10 0 0 6 (nI 0)) 10 0 0 6 (nI 2))))))))) ∧ (isSt x2 = false → P (some (.int (nI 0))) (up (up μ 10 0 0 6 (nI 0)) 10 0 0 6 (nI 1))))))) :
    Con G mX8_addPiste [.ref (zad G.1 10 0 0), .int x1, .int x2, .int x3, .int x4] μ P X := by
  refine con_of pn_X8 rfl (Nat.le_of_ble_eq_true rfl) ?_
  show VL G mX8_addPiste P X 0 [(0, .ref (zad G.1 10 0 0)), (1, .int x1), (2, .int x2), (3, .int x3), (4, .int x4)] [] μ
  refine v_aload_n (n := 1) dX8_addPiste_0 rfl rfl ?_
  refine v_iconst (n := 2) (x := nI 0) dX8_addPiste_1 rfl (by decide) ?_
  refine v_putf (n := 5) dX8_addPiste_2 rfl fw_X8_41 zokc_10 (fun _ => rfl) rfl rfl ?_
  refine v_iload_n (n := 6) dX8_addPiste_5 rfl rfl ?_
  refine v_callS (n := 9) (As := [.int x1]) (rest := []) dX8_addPiste_6 rfl lk_X8_58 rfl rfl (Nat.le_of_ble_eq_true rfl) ⟨Nat.le_of_ble_eq_true rfl, Nat.le_of_ble_eq_true rfl, Nat.le_of_ble_eq_true rfl, Nat.le_of_ble_eq_true rfl⟩ (s_X8_isStation G x1 (up μ 10 0 0 6 (nI 0))) (fun v μ9 hp => ?_) (fun _ _ hp => False.elim hp)
  rw [hp.1, hp.2]
  refine v_norm (st' := [.int (bI (isSt x1))]) (cells' := 0) (slots' := 0) rfl rfl rfl ?_
  refine v_if_eq (n := 12) (t := 19) dX8_addPiste_9 rfl (by decide) (fun hq => ?_) (fun hq => ?_)
  · replace h := h.1 (bI_f hq)
    refine v_aload_n (n := 20) dX8_addPiste_19 rfl rfl ?_
    refine v_iconst (n := 21) (x := nI 1) dX8_addPiste_20 rfl (by decide) ?_
    refine v_callV (n := 24) (k := 10) (b := 0) (i := 0) (As := [.int (nI 1)]) (rest := []) dX8_addPiste_21 rfl lk_X8_62 rfl rfl (Nat.le_of_ble_eq_true rfl) ⟨Nat.le_of_ble_eq_true rfl, Nat.le_of_ble_eq_true rfl, Nat.le_of_ble_eq_true rfl, Nat.le_of_ble_eq_true rfl⟩ zokc_10 (s_X8_refuse G (nI 1) (up μ 10 0 0 6 (nI 0))) (fun v μ9 hp => ?_) (fun _ _ hp => False.elim hp)
    rw [hp.1, hp.2]
    refine v_norm (st' := [.int (nI 0)]) (cells' := 0) (slots' := 0) rfl rfl rfl ?_
    exact v_iret dX8_addPiste_24 rfl (Nat.le_of_ble_eq_true rfl) (Nat.le_of_ble_eq_true rfl) h
  · replace h := h.2 (bI_nf hq)
    refine v_iload_n (n := 13) dX8_addPiste_12 rfl rfl ?_
    refine v_callS (n := 16) (As := [.int x2]) (rest := []) dX8_addPiste_13 rfl lk_X8_58 rfl rfl (Nat.le_of_ble_eq_true rfl) ⟨Nat.le_of_ble_eq_true rfl, Nat.le_of_ble_eq_true rfl, Nat.le_of_ble_eq_true rfl, Nat.le_of_ble_eq_true rfl⟩ (s_X8_isStation G x2 (up μ 10 0 0 6 (nI 0))) (fun v μ9 hp => ?_) (fun _ _ hp => False.elim hp)
    rw [hp.1, hp.2]
    refine v_norm (st' := [.int (bI (isSt x2))]) (cells' := 0) (slots' := 0) rfl rfl rfl ?_
    refine v_if_ne (n := 19) (t := 25) dX8_addPiste_16 rfl (by decide) (fun hq => ?_) (fun hq => ?_)
    · replace h := h.1 (bI_nf hq)
      refine v_iload_n (n := 26) dX8_addPiste_25 rfl rfl ?_
      refine v_iload_n (n := 27) dX8_addPiste_26 rfl rfl ?_
      refine v_icmp_eq (n := 30) (t := 50) dX8_addPiste_27 rfl (by decide) (fun hq => ?_) (fun hq => ?_)
      · replace h := h.1 hq
        refine v_aload_n (n := 51) dX8_addPiste_50 rfl rfl ?_
        refine v_iconst (n := 52) (x := nI 2) dX8_addPiste_51 rfl (by decide) ?_
        refine v_callV (n := 55) (k := 10) (b := 0) (i := 0) (As := [.int (nI 2)]) (rest := []) dX8_addPiste_52 rfl lk_X8_62 rfl rfl (Nat.le_of_ble_eq_true rfl) ⟨Nat.le_of_ble_eq_true rfl, Nat.le_of_ble_eq_true rfl, Nat.le_of_ble_eq_true rfl, Nat.le_of_ble_eq_true rfl⟩ zokc_10 (s_X8_refuse G (nI 2) (up μ 10 0 0 6 (nI 0))) (fun v μ9 hp => ?_) (fun _ _ hp => False.elim hp)
        rw [hp.1, hp.2]
        refine v_norm (st' := [.int (nI 0)]) (cells' := 0) (slots' := 0) rfl rfl rfl ?_
        exact v_iret dX8_addPiste_55 rfl (Nat.le_of_ble_eq_true rfl) (Nat.le_of_ble_eq_true rfl) h
      · replace h := h.2 hq
        refine v_iload_n (n := 31) dX8_addPiste_30 rfl rfl ?_
        refine v_iconst (n := 32) (x := nI 1) dX8_addPiste_31 rfl (by decide) ?_
        refine v_iconst (n := 33) (x := nI 3) dX8_addPiste_32 rfl (by decide) ?_
        refine v_callS (n := 36) (As := [.int x3, .int (nI 1), .int (nI 3)]) (rest := []) dX8_addPiste_33 rfl lk_X8_47 rfl rfl (Nat.le_of_ble_eq_true rfl) ⟨Nat.le_of_ble_eq_true rfl, Nat.le_of_ble_eq_true rfl, Nat.le_of_ble_eq_true rfl, Nat.le_of_ble_eq_true rfl⟩ (s_X8_in G x3 (nI 1) (nI 3) (up μ 10 0 0 6 (nI 0))) (fun v μ9 hp => ?_) (fun _ _ hp => False.elim hp)
        rw [hp.1, hp.2]
        refine v_norm (st' := [.int (bI (btw x3 (nI 1) (nI 3)))]) (cells' := 0) (slots' := 0) rfl rfl rfl ?_
        refine v_if_eq (n := 39) (t := 50) dX8_addPiste_36 rfl (by decide) (fun hq => ?_) (fun hq => ?_)
        · replace h := h.1 (bI_f hq)
          refine v_aload_n (n := 51) dX8_addPiste_50 rfl rfl ?_
          refine v_iconst (n := 52) (x := nI 2) dX8_addPiste_51 rfl (by decide) ?_
          refine v_callV (n := 55) (k := 10) (b := 0) (i := 0) (As := [.int (nI 2)]) (rest := []) dX8_addPiste_52 rfl lk_X8_62 rfl rfl (Nat.le_of_ble_eq_true rfl) ⟨Nat.le_of_ble_eq_true rfl, Nat.le_of_ble_eq_true rfl, Nat.le_of_ble_eq_true rfl, Nat.le_of_ble_eq_true rfl⟩ zokc_10 (s_X8_refuse G (nI 2) (up μ 10 0 0 6 (nI 0))) (fun v μ9 hp => ?_) (fun _ _ hp => False.elim hp)
          rw [hp.1, hp.2]
          refine v_norm (st' := [.int (nI 0)]) (cells' := 0) (slots' := 0) rfl rfl rfl ?_
          exact v_iret dX8_addPiste_55 rfl (Nat.le_of_ble_eq_true rfl) (Nat.le_of_ble_eq_true rfl) h
        · replace h := h.2 (bI_nf hq)
          refine v_iload (n := 41) dX8_addPiste_39 rfl rfl ?_
          refine v_iconst (n := 42) (x := nI 1) dX8_addPiste_41 rfl (by decide) ?_
          refine v_bipush (n := 44) (x := nI 9) dX8_addPiste_42 rfl (by decide) ?_
          refine v_callS (n := 47) (As := [.int x4, .int (nI 1), .int (nI 9)]) (rest := []) dX8_addPiste_44 rfl lk_X8_47 rfl rfl (Nat.le_of_ble_eq_true rfl) ⟨Nat.le_of_ble_eq_true rfl, Nat.le_of_ble_eq_true rfl, Nat.le_of_ble_eq_true rfl, Nat.le_of_ble_eq_true rfl⟩ (s_X8_in G x4 (nI 1) (nI 9) (up μ 10 0 0 6 (nI 0))) (fun v μ9 hp => ?_) (fun _ _ hp => False.elim hp)
          rw [hp.1, hp.2]
          refine v_norm (st' := [.int (bI (btw x4 (nI 1) (nI 9)))]) (cells' := 0) (slots' := 0) rfl rfl rfl ?_
          refine v_if_ne (n := 50) (t := 56) dX8_addPiste_47 rfl (by decide) (fun hq => ?_) (fun hq => ?_)
          · replace h := h.1 (bI_nf hq)
            refine v_aload_n (n := 57) dX8_addPiste_56 rfl rfl ?_
            refine v_getf (n := 60) dX8_addPiste_57 rfl fl_X8_9 zokc_10 rfl ?_
            refine v_iconst (n := 61) (x := nI 4) dX8_addPiste_60 rfl (by decide) ?_
            refine v_iald (n := 62) (j := 4) dX8_addPiste_61 rfl zokc_26 (by decide) rfl rfl (by decide) (congrArg Value.int (up_k (by decide))) ?_
            refine v_bipush (n := 64) (x := nI 10) dX8_addPiste_62 rfl (by decide) ?_
            refine v_icmp_ne (n := 67) (t := 73) dX8_addPiste_64 rfl (by decide) (fun hq => ?_) (fun hq => ?_)
            · replace h := h.1 hq
              refine v_aload_n (n := 74) dX8_addPiste_73 rfl rfl ?_
              refine v_callV (n := 77) (k := 10) (b := 0) (i := 0) (As := []) (rest := []) dX8_addPiste_74 rfl lk_X8_65 rfl rfl (Nat.le_of_ble_eq_true rfl) ⟨Nat.le_of_ble_eq_true rfl, Nat.le_of_ble_eq_true rfl, Nat.le_of_ble_eq_true rfl, Nat.le_of_ble_eq_true rfl⟩ zokc_10 h (fun v μ1 h => ?_) (fun _ _ hp => False.elim hp)
              obtain ⟨rfl, h⟩ := h
              refine v_norm (st' := []) (cells' := 0) (slots' := 0) rfl rfl rfl ?_
              refine v_aload_n (n := 78) dX8_addPiste_77 rfl rfl ?_
              refine v_getf (n := 81) dX8_addPiste_78 rfl fl_X8_9 zokc_10 rfl ?_
              refine v_iconst (n := 82) (x := nI 4) dX8_addPiste_81 rfl (by decide) ?_
              refine v_iald (n := 83) (j := 4) dX8_addPiste_82 rfl zokc_26 (by decide) rfl rfl (by decide) (rfl) ?_
              refine v_callS (n := 86) (As := [.int (μ1 26 0 0 4)]) (rest := []) dX8_addPiste_83 rfl lk_X8_68 rfl rfl (Nat.le_of_ble_eq_true rfl) ⟨Nat.le_of_ble_eq_true rfl, Nat.le_of_ble_eq_true rfl, Nat.le_of_ble_eq_true rfl, Nat.le_of_ble_eq_true rfl⟩ (s_X8_piste0 G (μ1 26 0 0 4) μ1) (fun v μ9 hp => ?_) (fun _ _ hp => False.elim hp)
              rw [hp.1, hp.2]
              refine v_norm (st' := [.int (nI 132 + nI 8 * (μ1 26 0 0 4))]) (cells' := 0) (slots' := 0) rfl rfl rfl ?_
              refine v_istore (n := 88) (L' := [(0, .ref (zad G.1 10 0 0)), (1, .int x1), (2, .int x2), (3, .int x3), (4, .int x4), (5, .int (nI 132 + nI 8 * (μ1 26 0 0 4)))]) dX8_addPiste_86 rfl (by decide) rfl ?_
              refine v_iconst (n := 89) (x := nI 0) dX8_addPiste_88 rfl (by decide) ?_
              refine v_istore (n := 91) (L' := [(0, .ref (zad G.1 10 0 0)), (1, .int x1), (2, .int x2), (3, .int x3), (4, .int x4), (5, .int (nI 132 + nI 8 * (μ1 26 0 0 4))), (6, .int (nI 0))]) dX8_addPiste_89 rfl (by decide) rfl ?_
              exact h
            · replace h := h.2 hq
              refine v_aload_n (n := 68) dX8_addPiste_67 rfl rfl ?_
              refine v_iconst (n := 69) (x := nI 3) dX8_addPiste_68 rfl (by decide) ?_
              refine v_callV (n := 72) (k := 10) (b := 0) (i := 0) (As := [.int (nI 3)]) (rest := []) dX8_addPiste_69 rfl lk_X8_62 rfl rfl (Nat.le_of_ble_eq_true rfl) ⟨Nat.le_of_ble_eq_true rfl, Nat.le_of_ble_eq_true rfl, Nat.le_of_ble_eq_true rfl, Nat.le_of_ble_eq_true rfl⟩ zokc_10 (s_X8_refuse G (nI 3) (up μ 10 0 0 6 (nI 0))) (fun v μ9 hp => ?_) (fun _ _ hp => False.elim hp)
              rw [hp.1, hp.2]
              refine v_norm (st' := [.int (nI 0)]) (cells' := 0) (slots' := 0) rfl rfl rfl ?_
              exact v_iret dX8_addPiste_72 rfl (Nat.le_of_ble_eq_true rfl) (Nat.le_of_ble_eq_true rfl) h
          · replace h := h.2 (bI_f hq)
            refine v_aload_n (n := 51) dX8_addPiste_50 rfl rfl ?_
            refine v_iconst (n := 52) (x := nI 2) dX8_addPiste_51 rfl (by decide) ?_
            refine v_callV (n := 55) (k := 10) (b := 0) (i := 0) (As := [.int (nI 2)]) (rest := []) dX8_addPiste_52 rfl lk_X8_62 rfl rfl (Nat.le_of_ble_eq_true rfl) ⟨Nat.le_of_ble_eq_true rfl, Nat.le_of_ble_eq_true rfl, Nat.le_of_ble_eq_true rfl, Nat.le_of_ble_eq_true rfl⟩ zokc_10 (s_X8_refuse G (nI 2) (up μ 10 0 0 6 (nI 0))) (fun v μ9 hp => ?_) (fun _ _ hp => False.elim hp)
            rw [hp.1, hp.2]
            refine v_norm (st' := [.int (nI 0)]) (cells' := 0) (slots' := 0) rfl rfl rfl ?_
            exact v_iret dX8_addPiste_55 rfl (Nat.le_of_ble_eq_true rfl) (Nat.le_of_ble_eq_true rfl) h
    · replace h := h.2 (bI_f hq)
      refine v_aload_n (n := 20) dX8_addPiste_19 rfl rfl ?_
      refine v_iconst (n := 21) (x := nI 1) dX8_addPiste_20 rfl (by decide) ?_
      refine v_callV (n := 24) (k := 10) (b := 0) (i := 0) (As := [.int (nI 1)]) (rest := []) dX8_addPiste_21 rfl lk_X8_62 rfl rfl (Nat.le_of_ble_eq_true rfl) ⟨Nat.le_of_ble_eq_true rfl, Nat.le_of_ble_eq_true rfl, Nat.le_of_ble_eq_true rfl, Nat.le_of_ble_eq_true rfl⟩ zokc_10 (s_X8_refuse G (nI 1) (up μ 10 0 0 6 (nI 0))) (fun v μ9 hp => ?_) (fun _ _ hp => False.elim hp)
      rw [hp.1, hp.2]
      refine v_norm (st' := [.int (nI 0)]) (cells' := 0) (slots' := 0) rfl rfl rfl ?_
      exact v_iret dX8_addPiste_24 rfl (Nat.le_of_ble_eq_true rfl) (Nat.le_of_ble_eq_true rfl) h

set_option maxRecDepth 20000 in
set_option maxHeartbeats 4000000 in
theorem wX8_addPiste_91 (G : Gl) {P : Option Value → St → Prop} {X : String → St → Prop} (x1 : Int32) (x2 : Int32) (x3 : Int32) (x4 : Int32) (y5 : Int32) (i6 : Nat) (μ : St)
    (h : ((nI 8 ≤ nI i6 → ∃ j1 : Nat, y5 = nI j1 ∧ j1 < 372 ∧ ∃ j2 : Nat, y5 + (nI 1) = nI j2 ∧ j2 < 372 ∧ ∃ j3 : Nat, y5 + (nI 2) = nI j3 ∧ j3 < 372 ∧ ∃ j4 : Nat, y5 + (nI 3) = nI j4 ∧ j4 < 372 ∧ P (some (.int ((((up (up (up (up μ 26 0 0 j1 x1) 26 0 0 j2 x2) 26 0 0 j3 x3) 26 0 0 j4 x4) 26 0 0 4) + (nI 1)) - (nI 1)))) (up (up (up (up (up μ 26 0 0 j1 x1) 26 0 0 j2 x2) 26 0 0 j3 x3) 26 0 0 j4 x4) 26 0 0 4 (((up (up (up (up μ 26 0 0 j1 x1) 26 0 0 j2 x2) 26 0 0 j3 x3) 26 0 0 j4 x4) 26 0 0 4) + (nI 1)))) ∧ (¬ nI 8 ≤ nI i6 → ∃ j5 : Nat, y5 + (nI i6) = nI j5 ∧ j5 < 372 ∧ VL G mX8_addPiste P X 91 [(0, .ref (zad G.1 10 0 0)), (1, .int x1), (2, .int x2), (3, .int x3), (4, .int x4), (5, .int y5), (6, .int (nI (i6 + 1)))] [] (up μ 26 0 0 j5 (nI 0))))) :
    VL G mX8_addPiste P X 91 [(0, .ref (zad G.1 10 0 0)), (1, .int x1), (2, .int x2), (3, .int x3), (4, .int x4), (5, .int y5), (6, .int (nI i6))] [] μ := by
  refine v_iload (n := 93) dX8_addPiste_91 rfl rfl ?_
  refine v_bipush (n := 95) (x := nI 8) dX8_addPiste_93 rfl (by decide) ?_
  refine v_icmp_ge (n := 98) (t := 115) dX8_addPiste_95 rfl (by decide) (fun hq => ?_) (fun hq => ?_)
  · replace h := h.1 hq
    refine v_aload_n (n := 116) dX8_addPiste_115 rfl rfl ?_
    refine v_getf (n := 119) dX8_addPiste_116 rfl fl_X8_9 zokc_10 rfl ?_
    refine v_iload (n := 121) dX8_addPiste_119 rfl rfl ?_
    refine v_iload_n (n := 122) dX8_addPiste_121 rfl rfl ?_
    obtain ⟨j1, ej1, hj1, h⟩ := h
    refine v_iast (n := 123) (j := j1) dX8_addPiste_122 rfl zokc_26 (by decide) (by decide) rfl ej1 hj1 (fun _ => rfl) ?_
    refine v_aload_n (n := 124) dX8_addPiste_123 rfl rfl ?_
    refine v_getf (n := 127) dX8_addPiste_124 rfl fl_X8_9 zokc_10 rfl ?_
    refine v_iload (n := 129) dX8_addPiste_127 rfl rfl ?_
    refine v_iconst (n := 130) (x := nI 1) dX8_addPiste_129 rfl (by decide) ?_
    refine v_iadd (n := 131) dX8_addPiste_130 rfl ?_
    refine v_iload_n (n := 132) dX8_addPiste_131 rfl rfl ?_
    obtain ⟨j2, ej2, hj2, h⟩ := h
    refine v_iast (n := 133) (j := j2) dX8_addPiste_132 rfl zokc_26 (by decide) (by decide) rfl ej2 hj2 (fun _ => rfl) ?_
    refine v_aload_n (n := 134) dX8_addPiste_133 rfl rfl ?_
    refine v_getf (n := 137) dX8_addPiste_134 rfl fl_X8_9 zokc_10 rfl ?_
    refine v_iload (n := 139) dX8_addPiste_137 rfl rfl ?_
    refine v_iconst (n := 140) (x := nI 2) dX8_addPiste_139 rfl (by decide) ?_
    refine v_iadd (n := 141) dX8_addPiste_140 rfl ?_
    refine v_iload_n (n := 142) dX8_addPiste_141 rfl rfl ?_
    obtain ⟨j3, ej3, hj3, h⟩ := h
    refine v_iast (n := 143) (j := j3) dX8_addPiste_142 rfl zokc_26 (by decide) (by decide) rfl ej3 hj3 (fun _ => rfl) ?_
    refine v_aload_n (n := 144) dX8_addPiste_143 rfl rfl ?_
    refine v_getf (n := 147) dX8_addPiste_144 rfl fl_X8_9 zokc_10 rfl ?_
    refine v_iload (n := 149) dX8_addPiste_147 rfl rfl ?_
    refine v_iconst (n := 150) (x := nI 3) dX8_addPiste_149 rfl (by decide) ?_
    refine v_iadd (n := 151) dX8_addPiste_150 rfl ?_
    refine v_iload (n := 153) dX8_addPiste_151 rfl rfl ?_
    obtain ⟨j4, ej4, hj4, h⟩ := h
    refine v_iast (n := 154) (j := j4) dX8_addPiste_153 rfl zokc_26 (by decide) (by decide) rfl ej4 hj4 (fun _ => rfl) ?_
    refine v_aload_n (n := 155) dX8_addPiste_154 rfl rfl ?_
    refine v_getf (n := 158) dX8_addPiste_155 rfl fl_X8_9 zokc_10 rfl ?_
    refine v_iconst (n := 159) (x := nI 4) dX8_addPiste_158 rfl (by decide) ?_
    refine v_dup2 (n := 160) dX8_addPiste_159 rfl rfl rfl ?_
    refine v_iald (n := 161) (j := 4) dX8_addPiste_160 rfl zokc_26 (by decide) rfl rfl (by decide) (rfl) ?_
    refine v_iconst (n := 162) (x := nI 1) dX8_addPiste_161 rfl (by decide) ?_
    refine v_iadd (n := 163) dX8_addPiste_162 rfl ?_
    refine v_iast (n := 164) (j := 4) dX8_addPiste_163 rfl zokc_26 (by decide) (by decide) rfl rfl (by decide) (fun _ => rfl) ?_
    refine v_aload_n (n := 165) dX8_addPiste_164 rfl rfl ?_
    refine v_getf (n := 168) dX8_addPiste_165 rfl fl_X8_9 zokc_10 rfl ?_
    refine v_iconst (n := 169) (x := nI 4) dX8_addPiste_168 rfl (by decide) ?_
    refine v_iald (n := 170) (j := 4) dX8_addPiste_169 rfl zokc_26 (by decide) rfl rfl (by decide) (congrArg Value.int (up_self _ _ _ _ _ _)) ?_
    refine v_iconst (n := 171) (x := nI 1) dX8_addPiste_170 rfl (by decide) ?_
    refine v_isub (n := 172) dX8_addPiste_171 rfl ?_
    exact v_iret dX8_addPiste_172 rfl (Nat.le_of_ble_eq_true rfl) (Nat.le_of_ble_eq_true rfl) h
  · replace h := h.2 hq
    refine v_aload_n (n := 99) dX8_addPiste_98 rfl rfl ?_
    refine v_getf (n := 102) dX8_addPiste_99 rfl fl_X8_9 zokc_10 rfl ?_
    refine v_iload (n := 104) dX8_addPiste_102 rfl rfl ?_
    refine v_iload (n := 106) dX8_addPiste_104 rfl rfl ?_
    refine v_iadd (n := 107) dX8_addPiste_106 rfl ?_
    refine v_iconst (n := 108) (x := nI 0) dX8_addPiste_107 rfl (by decide) ?_
    obtain ⟨j5, ej5, hj5, h⟩ := h
    refine v_iast (n := 109) (j := j5) dX8_addPiste_108 rfl zokc_26 (by decide) (by decide) rfl ej5 hj5 (fun _ => rfl) ?_
    refine v_iinc (n := 112) (x := nI i6) (y := nI (i6 + 1)) (L' := [(0, .ref (zad G.1 10 0 0)), (1, .int x1), (2, .int x2), (3, .int x3), (4, .int x4), (5, .int y5), (6, .int (nI (i6 + 1)))]) dX8_addPiste_109 rfl rfl (nI_1 i6) (by decide) rfl ?_
    refine v_goto (n := 91) dX8_addPiste_112 (by decide) ?_
    exact h

set_option maxRecDepth 20000 in
set_option maxHeartbeats 4000000 in
theorem wX8_setWind (G : Gl) {P : Option Value → St → Prop} {X : String → St → Prop} (x1 : Int32) (μ : St)
    (h : ((btw x1 (nI 0) (nI 9) = true → Con G mX8_keep [.ref (zad G.1 10 0 0)] (up μ 10 0 0 6 (nI 0)) (fun v μ1 => v = none ∧ VL G mX8_setWind P X 36 [(0, .ref (zad G.1 10 0 0)), (1, .int x1), (2, .int (nI 0)), (3, .int (nI 0))] [] (up μ1 26 0 0 0 x1)) noX) ∧ (btw x1 (nI 0) (nI 9) = false → P (some (.int (nI 0))) (up (up μ 10 0 0 6 (nI 0)) 10 0 0 6 (nI 1))))) :
    Con G mX8_setWind [.ref (zad G.1 10 0 0), .int x1] μ P X := by
  refine con_of pn_X8 rfl (Nat.le_of_ble_eq_true rfl) ?_
  show VL G mX8_setWind P X 0 [(0, .ref (zad G.1 10 0 0)), (1, .int x1)] [] μ
  refine v_aload_n (n := 1) dX8_setWind_0 rfl rfl ?_
  refine v_iconst (n := 2) (x := nI 0) dX8_setWind_1 rfl (by decide) ?_
  refine v_putf (n := 5) dX8_setWind_2 rfl fw_X8_41 zokc_10 (fun _ => rfl) rfl rfl ?_
  refine v_iload_n (n := 6) dX8_setWind_5 rfl rfl ?_
  refine v_iconst (n := 7) (x := nI 0) dX8_setWind_6 rfl (by decide) ?_
  refine v_bipush (n := 9) (x := nI 9) dX8_setWind_7 rfl (by decide) ?_
  refine v_callS (n := 12) (As := [.int x1, .int (nI 0), .int (nI 9)]) (rest := []) dX8_setWind_9 rfl lk_X8_47 rfl rfl (Nat.le_of_ble_eq_true rfl) ⟨Nat.le_of_ble_eq_true rfl, Nat.le_of_ble_eq_true rfl, Nat.le_of_ble_eq_true rfl, Nat.le_of_ble_eq_true rfl⟩ (s_X8_in G x1 (nI 0) (nI 9) (up μ 10 0 0 6 (nI 0))) (fun v μ9 hp => ?_) (fun _ _ hp => False.elim hp)
  rw [hp.1, hp.2]
  refine v_norm (st' := [.int (bI (btw x1 (nI 0) (nI 9)))]) (cells' := 0) (slots' := 0) rfl rfl rfl ?_
  refine v_if_ne (n := 15) (t := 21) dX8_setWind_12 rfl (by decide) (fun hq => ?_) (fun hq => ?_)
  · replace h := h.1 (bI_nf hq)
    refine v_aload_n (n := 22) dX8_setWind_21 rfl rfl ?_
    refine v_callV (n := 25) (k := 10) (b := 0) (i := 0) (As := []) (rest := []) dX8_setWind_22 rfl lk_X8_65 rfl rfl (Nat.le_of_ble_eq_true rfl) ⟨Nat.le_of_ble_eq_true rfl, Nat.le_of_ble_eq_true rfl, Nat.le_of_ble_eq_true rfl, Nat.le_of_ble_eq_true rfl⟩ zokc_10 h (fun v μ1 h => ?_) (fun _ _ hp => False.elim hp)
    obtain ⟨rfl, h⟩ := h
    refine v_norm (st' := []) (cells' := 0) (slots' := 0) rfl rfl rfl ?_
    refine v_aload_n (n := 26) dX8_setWind_25 rfl rfl ?_
    refine v_getf (n := 29) dX8_setWind_26 rfl fl_X8_9 zokc_10 rfl ?_
    refine v_iconst (n := 30) (x := nI 0) dX8_setWind_29 rfl (by decide) ?_
    refine v_iload_n (n := 31) dX8_setWind_30 rfl rfl ?_
    refine v_iast (n := 32) (j := 0) dX8_setWind_31 rfl zokc_26 (by decide) (by decide) rfl rfl (by decide) (fun _ => rfl) ?_
    refine v_iconst (n := 33) (x := nI 0) dX8_setWind_32 rfl (by decide) ?_
    refine v_istore_n (n := 34) (L' := [(0, .ref (zad G.1 10 0 0)), (1, .int x1), (2, .int (nI 0))]) dX8_setWind_33 rfl (by decide) rfl ?_
    refine v_iconst (n := 35) (x := nI 0) dX8_setWind_34 rfl (by decide) ?_
    refine v_istore_n (n := 36) (L' := [(0, .ref (zad G.1 10 0 0)), (1, .int x1), (2, .int (nI 0)), (3, .int (nI 0))]) dX8_setWind_35 rfl (by decide) rfl ?_
    exact h
  · replace h := h.2 (bI_f hq)
    refine v_aload_n (n := 16) dX8_setWind_15 rfl rfl ?_
    refine v_iconst (n := 17) (x := nI 1) dX8_setWind_16 rfl (by decide) ?_
    refine v_callV (n := 20) (k := 10) (b := 0) (i := 0) (As := [.int (nI 1)]) (rest := []) dX8_setWind_17 rfl lk_X8_62 rfl rfl (Nat.le_of_ble_eq_true rfl) ⟨Nat.le_of_ble_eq_true rfl, Nat.le_of_ble_eq_true rfl, Nat.le_of_ble_eq_true rfl, Nat.le_of_ble_eq_true rfl⟩ zokc_10 (s_X8_refuse G (nI 1) (up μ 10 0 0 6 (nI 0))) (fun v μ9 hp => ?_) (fun _ _ hp => False.elim hp)
    rw [hp.1, hp.2]
    refine v_norm (st' := [.int (nI 0)]) (cells' := 0) (slots' := 0) rfl rfl rfl ?_
    exact v_iret dX8_setWind_20 rfl (Nat.le_of_ble_eq_true rfl) (Nat.le_of_ble_eq_true rfl) h

set_option maxRecDepth 20000 in
set_option maxHeartbeats 4000000 in
theorem wX8_setWind_36 (G : Gl) {P : Option Value → St → Prop} {X : String → St → Prop} (x1 : Int32) (y2 : Int32) (i3 : Nat) (μ : St)
    (h : ((μ 26 0 0 3 ≤ nI i3 → P (some (.int y2)) μ) ∧ (¬ μ 26 0 0 3 ≤ nI i3 → i3 < 6 ∧ ((¬ msf μ i3 = nI 2 → VL G mX8_setWind P X 36 [(0, .ref (zad G.1 10 0 0)), (1, .int x1), (2, .int (y2 ||| (nI 0))), (3, .int (nI (i3 + 1)))] [] μ) ∧ (msf μ i3 = nI 2 → VL G mX8_setWind P X 36 [(0, .ref (zad G.1 10 0 0)), (1, .int x1), (2, .int (y2 ||| ((nI 1) <<< ((nI i3) &&& 31)))), (3, .int (nI (i3 + 1)))] [] μ))))) :
    VL G mX8_setWind P X 36 [(0, .ref (zad G.1 10 0 0)), (1, .int x1), (2, .int y2), (3, .int (nI i3))] [] μ := by
  refine v_iload_n (n := 37) dX8_setWind_36 rfl rfl ?_
  refine v_aload_n (n := 38) dX8_setWind_37 rfl rfl ?_
  refine v_getf (n := 41) dX8_setWind_38 rfl fl_X8_9 zokc_10 rfl ?_
  refine v_iconst (n := 42) (x := nI 3) dX8_setWind_41 rfl (by decide) ?_
  refine v_iald (n := 43) (j := 3) dX8_setWind_42 rfl zokc_26 (by decide) rfl rfl (by decide) (rfl) ?_
  refine v_icmp_ge (n := 46) (t := 71) dX8_setWind_43 rfl (by decide) (fun hq => ?_) (fun hq => ?_)
  · replace h := h.1 hq
    refine v_iload_n (n := 72) dX8_setWind_71 rfl rfl ?_
    exact v_iret dX8_setWind_72 rfl (Nat.le_of_ble_eq_true rfl) (Nat.le_of_ble_eq_true rfl) h
  · replace h := h.2 hq
    refine v_iload_n (n := 47) dX8_setWind_46 rfl rfl ?_
    refine v_aload_n (n := 48) dX8_setWind_47 rfl rfl ?_
    refine v_iload_n (n := 49) dX8_setWind_48 rfl rfl ?_
    obtain ⟨hf1, h⟩ := h
    refine v_callV (n := 52) (k := 10) (b := 0) (i := 0) (As := [.int (nI i3)]) (rest := [.int y2]) dX8_setWind_49 rfl lk_X8_55 rfl rfl (Nat.le_of_ble_eq_true rfl) ⟨Nat.le_of_ble_eq_true rfl, Nat.le_of_ble_eq_true rfl, Nat.le_of_ble_eq_true rfl, Nat.le_of_ble_eq_true rfl⟩ zokc_10 (s_X8_stateOf G (nI i3) i3 rfl hf1 μ) (fun v μ9 hp => ?_) (fun _ _ hp => False.elim hp)
    rw [hp.1, hp.2]
    refine v_norm (st' := [.int (msf μ i3), .int y2]) (cells' := 0) (slots' := 0) rfl rfl rfl ?_
    refine v_iconst (n := 53) (x := nI 2) dX8_setWind_52 rfl (by decide) ?_
    refine v_icmp_ne (n := 56) (t := 62) dX8_setWind_53 rfl (by decide) (fun hq => ?_) (fun hq => ?_)
    · replace h := h.1 hq
      refine v_iconst (n := 63) (x := nI 0) dX8_setWind_62 rfl (by decide) ?_
      refine v_ior (n := 64) dX8_setWind_63 rfl ?_
      refine v_istore_n (n := 65) (L' := [(0, .ref (zad G.1 10 0 0)), (1, .int x1), (2, .int (y2 ||| (nI 0))), (3, .int (nI i3))]) dX8_setWind_64 rfl (by decide) rfl ?_
      refine v_iinc (n := 68) (x := nI i3) (y := nI (i3 + 1)) (L' := [(0, .ref (zad G.1 10 0 0)), (1, .int x1), (2, .int (y2 ||| (nI 0))), (3, .int (nI (i3 + 1)))]) dX8_setWind_65 rfl rfl (nI_1 i3) (by decide) rfl ?_
      refine v_goto (n := 36) dX8_setWind_68 (by decide) ?_
      exact h
    · replace h := h.2 hq
      refine v_iconst (n := 57) (x := nI 1) dX8_setWind_56 rfl (by decide) ?_
      refine v_iload_n (n := 58) dX8_setWind_57 rfl rfl ?_
      refine v_ishl (n := 59) dX8_setWind_58 rfl ?_
      refine v_goto (n := 63) dX8_setWind_59 (by decide) ?_
      refine v_ior (n := 64) dX8_setWind_63 rfl ?_
      refine v_istore_n (n := 65) (L' := [(0, .ref (zad G.1 10 0 0)), (1, .int x1), (2, .int (y2 ||| ((nI 1) <<< ((nI i3) &&& 31)))), (3, .int (nI i3))]) dX8_setWind_64 rfl (by decide) rfl ?_
      refine v_iinc (n := 68) (x := nI i3) (y := nI (i3 + 1)) (L' := [(0, .ref (zad G.1 10 0 0)), (1, .int x1), (2, .int (y2 ||| ((nI 1) <<< ((nI i3) &&& 31)))), (3, .int (nI (i3 + 1)))]) dX8_setWind_65 rfl rfl (nI_1 i3) (by decide) rfl ?_
      refine v_goto (n := 36) dX8_setWind_68 (by decide) ?_
      exact h

set_option maxRecDepth 20000 in
set_option maxHeartbeats 4000000 in
theorem wX8_guestsWho (G : Gl) {P : Option Value → St → Prop} {X : String → St → Prop} (x1 : Int32) (x2 : Int32) (μ : St)
    (h : VL G mX8_guestsWho P X 5 [(0, .ref (zad G.1 10 0 0)), (1, .int x1), (2, .int x2), (3, .int (nI 0)), (4, .int (nI 0))] [] μ) :
    Con G mX8_guestsWho [.ref (zad G.1 10 0 0), .int x1, .int x2] μ P X := by
  refine con_of pn_X8 rfl (Nat.le_of_ble_eq_true rfl) ?_
  show VL G mX8_guestsWho P X 0 [(0, .ref (zad G.1 10 0 0)), (1, .int x1), (2, .int x2)] [] μ
  refine v_iconst (n := 1) (x := nI 0) dX8_guestsWho_0 rfl (by decide) ?_
  refine v_istore_n (n := 2) (L' := [(0, .ref (zad G.1 10 0 0)), (1, .int x1), (2, .int x2), (3, .int (nI 0))]) dX8_guestsWho_1 rfl (by decide) rfl ?_
  refine v_iconst (n := 3) (x := nI 0) dX8_guestsWho_2 rfl (by decide) ?_
  refine v_istore (n := 5) (L' := [(0, .ref (zad G.1 10 0 0)), (1, .int x1), (2, .int x2), (3, .int (nI 0)), (4, .int (nI 0))]) dX8_guestsWho_3 rfl (by decide) rfl ?_
  exact h

set_option maxRecDepth 20000 in
set_option maxHeartbeats 4000000 in
theorem wX8_guestsWho_5 (G : Gl) {P : Option Value → St → Prop} {X : String → St → Prop} (x1 : Int32) (x2 : Int32) (y3 : Int32) (i4 : Nat) (μ : St)
    (h : ((μ 26 0 0 5 ≤ nI i4 → P (some (.int y3)) μ) ∧ (¬ μ 26 0 0 5 ≤ nI i4 → 212 + 10 * i4 + 4 < 372 ∧ ((¬ μ 26 0 0 (212 + 10 * i4 + 4) = x1 → VL G mX8_guestsWho P X 5 [(0, .ref (zad G.1 10 0 0)), (1, .int x1), (2, .int x2), (3, .int (y3 + (nI 0))), (4, .int (nI (i4 + 1)))] [] μ) ∧ (μ 26 0 0 (212 + 10 * i4 + 4) = x1 → ((x2 = (-1 : Int32) → VL G mX8_guestsWho P X 5 [(0, .ref (zad G.1 10 0 0)), (1, .int x1), (2, .int x2), (3, .int (y3 + (nI 1))), (4, .int (nI (i4 + 1)))] [] μ) ∧ (¬ x2 = (-1 : Int32) → 212 + 10 * i4 + 5 < 372 ∧ ((¬ μ 26 0 0 (212 + 10 * i4 + 5) = x2 → VL G mX8_guestsWho P X 5 [(0, .ref (zad G.1 10 0 0)), (1, .int x1), (2, .int x2), (3, .int (y3 + (nI 0))), (4, .int (nI (i4 + 1)))] [] μ) ∧ (μ 26 0 0 (212 + 10 * i4 + 5) = x2 → VL G mX8_guestsWho P X 5 [(0, .ref (zad G.1 10 0 0)), (1, .int x1), (2, .int x2), (3, .int (y3 + (nI 1))), (4, .int (nI (i4 + 1)))] [] μ))))))))) :
    VL G mX8_guestsWho P X 5 [(0, .ref (zad G.1 10 0 0)), (1, .int x1), (2, .int x2), (3, .int y3), (4, .int (nI i4))] [] μ := by
  refine v_iload (n := 7) dX8_guestsWho_5 rfl rfl ?_
  refine v_aload_n (n := 8) dX8_guestsWho_7 rfl rfl ?_
  refine v_getf (n := 11) dX8_guestsWho_8 rfl fl_X8_9 zokc_10 rfl ?_
  refine v_iconst (n := 12) (x := nI 5) dX8_guestsWho_11 rfl (by decide) ?_
  refine v_iald (n := 13) (j := 5) dX8_guestsWho_12 rfl zokc_26 (by decide) rfl rfl (by decide) (rfl) ?_
  refine v_icmp_ge (n := 16) (t := 67) dX8_guestsWho_13 rfl (by decide) (fun hq => ?_) (fun hq => ?_)
  · replace h := h.1 hq
    refine v_iload_n (n := 68) dX8_guestsWho_67 rfl rfl ?_
    exact v_iret dX8_guestsWho_68 rfl (Nat.le_of_ble_eq_true rfl) (Nat.le_of_ble_eq_true rfl) h
  · replace h := h.2 hq
    refine v_iload_n (n := 17) dX8_guestsWho_16 rfl rfl ?_
    refine v_aload_n (n := 18) dX8_guestsWho_17 rfl rfl ?_
    refine v_getf (n := 21) dX8_guestsWho_18 rfl fl_X8_9 zokc_10 rfl ?_
    refine v_iload (n := 23) dX8_guestsWho_21 rfl rfl ?_
    refine v_callS (n := 26) (As := [.int (nI i4)]) (rest := [.ref (zad G.1 26 0 0), .int y3]) dX8_guestsWho_23 rfl lk_X8_71 rfl rfl (Nat.le_of_ble_eq_true rfl) ⟨Nat.le_of_ble_eq_true rfl, Nat.le_of_ble_eq_true rfl, Nat.le_of_ble_eq_true rfl, Nat.le_of_ble_eq_true rfl⟩ (s_X8_guest0N G i4 μ) (fun v μ9 hp => ?_) (fun _ _ hp => False.elim hp)
    rw [hp.1, hp.2]
    refine v_norm (st' := [.int (nI (212 + 10 * i4)), .ref (zad G.1 26 0 0), .int y3]) (cells' := 0) (slots' := 0) rfl rfl rfl ?_
    refine v_iconst (n := 27) (x := nI 4) dX8_guestsWho_26 rfl (by decide) ?_
    refine v_iadd (n := 28) dX8_guestsWho_27 rfl ?_
    refine v_top (y := nI (212 + 10 * i4 + 4)) (nI_add (212 + 10 * i4) 4) ?_
    obtain ⟨hf1, h⟩ := h
    refine v_iald (n := 29) (j := (212 + 10 * i4 + 4)) dX8_guestsWho_28 rfl zokc_26 (by decide) rfl rfl hf1 (rfl) ?_
    refine v_iload_n (n := 30) dX8_guestsWho_29 rfl rfl ?_
    refine v_icmp_ne (n := 33) (t := 58) dX8_guestsWho_30 rfl (by decide) (fun hq => ?_) (fun hq => ?_)
    · replace h := h.1 hq
      refine v_iconst (n := 59) (x := nI 0) dX8_guestsWho_58 rfl (by decide) ?_
      refine v_iadd (n := 60) dX8_guestsWho_59 rfl ?_
      refine v_istore_n (n := 61) (L' := [(0, .ref (zad G.1 10 0 0)), (1, .int x1), (2, .int x2), (3, .int (y3 + (nI 0))), (4, .int (nI i4))]) dX8_guestsWho_60 rfl (by decide) rfl ?_
      refine v_iinc (n := 64) (x := nI i4) (y := nI (i4 + 1)) (L' := [(0, .ref (zad G.1 10 0 0)), (1, .int x1), (2, .int x2), (3, .int (y3 + (nI 0))), (4, .int (nI (i4 + 1)))]) dX8_guestsWho_61 rfl rfl (nI_1 i4) (by decide) rfl ?_
      refine v_goto (n := 5) dX8_guestsWho_64 (by decide) ?_
      exact h
    · replace h := h.2 hq
      refine v_iload_n (n := 34) dX8_guestsWho_33 rfl rfl ?_
      refine v_iconst (n := 35) (x := (-1 : Int32)) dX8_guestsWho_34 rfl (by decide) ?_
      refine v_icmp_eq (n := 38) (t := 54) dX8_guestsWho_35 rfl (by decide) (fun hq => ?_) (fun hq => ?_)
      · replace h := h.1 hq
        refine v_iconst (n := 55) (x := nI 1) dX8_guestsWho_54 rfl (by decide) ?_
        refine v_goto (n := 59) dX8_guestsWho_55 (by decide) ?_
        refine v_iadd (n := 60) dX8_guestsWho_59 rfl ?_
        refine v_istore_n (n := 61) (L' := [(0, .ref (zad G.1 10 0 0)), (1, .int x1), (2, .int x2), (3, .int (y3 + (nI 1))), (4, .int (nI i4))]) dX8_guestsWho_60 rfl (by decide) rfl ?_
        refine v_iinc (n := 64) (x := nI i4) (y := nI (i4 + 1)) (L' := [(0, .ref (zad G.1 10 0 0)), (1, .int x1), (2, .int x2), (3, .int (y3 + (nI 1))), (4, .int (nI (i4 + 1)))]) dX8_guestsWho_61 rfl rfl (nI_1 i4) (by decide) rfl ?_
        refine v_goto (n := 5) dX8_guestsWho_64 (by decide) ?_
        exact h
      · replace h := h.2 hq
        refine v_aload_n (n := 39) dX8_guestsWho_38 rfl rfl ?_
        refine v_getf (n := 42) dX8_guestsWho_39 rfl fl_X8_9 zokc_10 rfl ?_
        refine v_iload (n := 44) dX8_guestsWho_42 rfl rfl ?_
        refine v_callS (n := 47) (As := [.int (nI i4)]) (rest := [.ref (zad G.1 26 0 0), .int y3]) dX8_guestsWho_44 rfl lk_X8_71 rfl rfl (Nat.le_of_ble_eq_true rfl) ⟨Nat.le_of_ble_eq_true rfl, Nat.le_of_ble_eq_true rfl, Nat.le_of_ble_eq_true rfl, Nat.le_of_ble_eq_true rfl⟩ (s_X8_guest0N G i4 μ) (fun v μ9 hp => ?_) (fun _ _ hp => False.elim hp)
        rw [hp.1, hp.2]
        refine v_norm (st' := [.int (nI (212 + 10 * i4)), .ref (zad G.1 26 0 0), .int y3]) (cells' := 0) (slots' := 0) rfl rfl rfl ?_
        refine v_iconst (n := 48) (x := nI 5) dX8_guestsWho_47 rfl (by decide) ?_
        refine v_iadd (n := 49) dX8_guestsWho_48 rfl ?_
        refine v_top (y := nI (212 + 10 * i4 + 5)) (nI_add (212 + 10 * i4) 5) ?_
        obtain ⟨hf2, h⟩ := h
        refine v_iald (n := 50) (j := (212 + 10 * i4 + 5)) dX8_guestsWho_49 rfl zokc_26 (by decide) rfl rfl hf2 (rfl) ?_
        refine v_iload_n (n := 51) dX8_guestsWho_50 rfl rfl ?_
        refine v_icmp_ne (n := 54) (t := 58) dX8_guestsWho_51 rfl (by decide) (fun hq => ?_) (fun hq => ?_)
        · replace h := h.1 hq
          refine v_iconst (n := 59) (x := nI 0) dX8_guestsWho_58 rfl (by decide) ?_
          refine v_iadd (n := 60) dX8_guestsWho_59 rfl ?_
          refine v_istore_n (n := 61) (L' := [(0, .ref (zad G.1 10 0 0)), (1, .int x1), (2, .int x2), (3, .int (y3 + (nI 0))), (4, .int (nI i4))]) dX8_guestsWho_60 rfl (by decide) rfl ?_
          refine v_iinc (n := 64) (x := nI i4) (y := nI (i4 + 1)) (L' := [(0, .ref (zad G.1 10 0 0)), (1, .int x1), (2, .int x2), (3, .int (y3 + (nI 0))), (4, .int (nI (i4 + 1)))]) dX8_guestsWho_61 rfl rfl (nI_1 i4) (by decide) rfl ?_
          refine v_goto (n := 5) dX8_guestsWho_64 (by decide) ?_
          exact h
        · replace h := h.2 hq
          refine v_iconst (n := 55) (x := nI 1) dX8_guestsWho_54 rfl (by decide) ?_
          refine v_goto (n := 59) dX8_guestsWho_55 (by decide) ?_
          refine v_iadd (n := 60) dX8_guestsWho_59 rfl ?_
          refine v_istore_n (n := 61) (L' := [(0, .ref (zad G.1 10 0 0)), (1, .int x1), (2, .int x2), (3, .int (y3 + (nI 1))), (4, .int (nI i4))]) dX8_guestsWho_60 rfl (by decide) rfl ?_
          refine v_iinc (n := 64) (x := nI i4) (y := nI (i4 + 1)) (L' := [(0, .ref (zad G.1 10 0 0)), (1, .int x1), (2, .int x2), (3, .int (y3 + (nI 1))), (4, .int (nI (i4 + 1)))]) dX8_guestsWho_61 rfl rfl (nI_1 i4) (by decide) rfl ?_
          refine v_goto (n := 5) dX8_guestsWho_64 (by decide) ?_
          exact h

set_option maxRecDepth 20000 in
set_option maxHeartbeats 4000000 in
theorem wX8_lift (G : Gl) {P : Option Value → St → Prop} {X : String → St → Prop} (x1 : Int32) (x2 : Int32) (μ : St)
    (h : ((mix μ 3 x1 = true → ((btw x2 (nI 0) (nI 10) = true → ((nI 0 ≤ 0 → ((nI 7 ≤ x2 → ((¬ x2 = nI 7 → ((¬ x2 = nI 8 → ((¬ x2 = nI 9 → Con G mX8_guestsWho [.ref (zad G.1 10 0 0), .int (nI 2), .int x1] (up μ 10 0 0 6 (nI 0)) (fun v μ1 => ∃ r1 : Int32, v = some (.int r1) ∧ P (some (.int r1)) μ1) noX) ∧ (x2 = nI 9 → ∃ j1 : Nat, (nI 6 + nI 21 * x1) + (nI 10) = nI j1 ∧ j1 < 372 ∧ P (some (.int (μ 26 0 0 j1))) (up μ 10 0 0 6 (nI 0))))) ∧ (x2 = nI 8 → ∃ j2 : Nat, (nI 6 + nI 21 * x1) + (nI 7) = nI j2 ∧ j2 < 372 ∧ P (some (.int (μ 26 0 0 j2))) (up μ 10 0 0 6 (nI 0))))) ∧ (x2 = nI 7 → ∃ j3 : Nat, x1 = nI j3 ∧ j3 < 6 ∧ P (some (.int (msf (up μ 10 0 0 6 (nI 0)) j3))) (up μ 10 0 0 6 (nI 0))))) ∧ (¬ nI 7 ≤ x2 → ∃ j4 : Nat, (nI 6 + nI 21 * x1) + x2 = nI j4 ∧ j4 < 372 ∧ P (some (.int (μ 26 0 0 j4))) (up μ 10 0 0 6 (nI 0))))) ∧ (¬ nI 0 ≤ 0 → P (some (.int (nI 0))) (up μ 10 0 0 6 (nI 0))))) ∧ (btw x2 (nI 0) (nI 10) = false → ((nI 2 ≤ 0 → ((nI 7 ≤ x2 → ((¬ x2 = nI 7 → ((¬ x2 = nI 8 → ((¬ x2 = nI 9 → Con G mX8_guestsWho [.ref (zad G.1 10 0 0), .int (nI 2), .int x1] (up μ 10 0 0 6 (nI 2)) (fun v μ2 => ∃ r2 : Int32, v = some (.int r2) ∧ P (some (.int r2)) μ2) noX) ∧ (x2 = nI 9 → ∃ j5 : Nat, (nI 6 + nI 21 * x1) + (nI 10) = nI j5 ∧ j5 < 372 ∧ P (some (.int (μ 26 0 0 j5))) (up μ 10 0 0 6 (nI 2))))) ∧ (x2 = nI 8 → ∃ j6 : Nat, (nI 6 + nI 21 * x1) + (nI 7) = nI j6 ∧ j6 < 372 ∧ P (some (.int (μ 26 0 0 j6))) (up μ 10 0 0 6 (nI 2))))) ∧ (x2 = nI 7 → ∃ j7 : Nat, x1 = nI j7 ∧ j7 < 6 ∧ P (some (.int (msf (up μ 10 0 0 6 (nI 2)) j7))) (up μ 10 0 0 6 (nI 2))))) ∧ (¬ nI 7 ≤ x2 → ∃ j8 : Nat, (nI 6 + nI 21 * x1) + x2 = nI j8 ∧ j8 < 372 ∧ P (some (.int (μ 26 0 0 j8))) (up μ 10 0 0 6 (nI 2))))) ∧ (¬ nI 2 ≤ 0 → P (some (.int (nI 0))) (up μ 10 0 0 6 (nI 2))))))) ∧ (mix μ 3 x1 = false → ((nI 1 ≤ 0 → ((nI 7 ≤ x2 → ((¬ x2 = nI 7 → ((¬ x2 = nI 8 → ((¬ x2 = nI 9 → Con G mX8_guestsWho [.ref (zad G.1 10 0 0), .int (nI 2), .int x1] (up μ 10 0 0 6 (nI 1)) (fun v μ3 => ∃ r3 : Int32, v = some (.int r3) ∧ P (some (.int r3)) μ3) noX) ∧ (x2 = nI 9 → ∃ j9 : Nat, (nI 6 + nI 21 * x1) + (nI 10) = nI j9 ∧ j9 < 372 ∧ P (some (.int (μ 26 0 0 j9))) (up μ 10 0 0 6 (nI 1))))) ∧ (x2 = nI 8 → ∃ j10 : Nat, (nI 6 + nI 21 * x1) + (nI 7) = nI j10 ∧ j10 < 372 ∧ P (some (.int (μ 26 0 0 j10))) (up μ 10 0 0 6 (nI 1))))) ∧ (x2 = nI 7 → ∃ j11 : Nat, x1 = nI j11 ∧ j11 < 6 ∧ P (some (.int (msf (up μ 10 0 0 6 (nI 1)) j11))) (up μ 10 0 0 6 (nI 1))))) ∧ (¬ nI 7 ≤ x2 → ∃ j12 : Nat, (nI 6 + nI 21 * x1) + x2 = nI j12 ∧ j12 < 372 ∧ P (some (.int (μ 26 0 0 j12))) (up μ 10 0 0 6 (nI 1))))) ∧ (¬ nI 1 ≤ 0 → P (some (.int (nI 0))) (up μ 10 0 0 6 (nI 1))))))) :
    Con G mX8_lift [.ref (zad G.1 10 0 0), .int x1, .int x2] μ P X := by
  refine con_of pn_X8 rfl (Nat.le_of_ble_eq_true rfl) ?_
  show VL G mX8_lift P X 0 [(0, .ref (zad G.1 10 0 0)), (1, .int x1), (2, .int x2)] [] μ
  refine v_aload_n (n := 1) dX8_lift_0 rfl rfl ?_
  refine v_aload_n (n := 2) dX8_lift_1 rfl rfl ?_
  refine v_iload_n (n := 3) dX8_lift_2 rfl rfl ?_
  refine v_callV (n := 6) (k := 10) (b := 0) (i := 0) (As := [.int x1]) (rest := [.ref (zad G.1 10 0 0)]) dX8_lift_3 rfl lk_X8_74 rfl rfl (Nat.le_of_ble_eq_true rfl) ⟨Nat.le_of_ble_eq_true rfl, Nat.le_of_ble_eq_true rfl, Nat.le_of_ble_eq_true rfl, Nat.le_of_ble_eq_true rfl⟩ zokc_10 (s_X8_isLift G x1 μ) (fun v μ9 hp => ?_) (fun _ _ hp => False.elim hp)
  rw [hp.1, hp.2]
  refine v_norm (st' := [.int (bI (mix μ 3 x1)), .ref (zad G.1 10 0 0)]) (cells' := 0) (slots' := 0) rfl rfl rfl ?_
  refine v_if_ne (n := 9) (t := 13) dX8_lift_6 rfl (by decide) (fun hq => ?_) (fun hq => ?_)
  · replace h := h.1 (bI_nf hq)
    refine v_iload_n (n := 14) dX8_lift_13 rfl rfl ?_
    refine v_iconst (n := 15) (x := nI 0) dX8_lift_14 rfl (by decide) ?_
    refine v_bipush (n := 17) (x := nI 10) dX8_lift_15 rfl (by decide) ?_
    refine v_callS (n := 20) (As := [.int x2, .int (nI 0), .int (nI 10)]) (rest := [.ref (zad G.1 10 0 0)]) dX8_lift_17 rfl lk_X8_47 rfl rfl (Nat.le_of_ble_eq_true rfl) ⟨Nat.le_of_ble_eq_true rfl, Nat.le_of_ble_eq_true rfl, Nat.le_of_ble_eq_true rfl, Nat.le_of_ble_eq_true rfl⟩ (s_X8_in G x2 (nI 0) (nI 10) μ) (fun v μ9 hp => ?_) (fun _ _ hp => False.elim hp)
    rw [hp.1, hp.2]
    refine v_norm (st' := [.int (bI (btw x2 (nI 0) (nI 10))), .ref (zad G.1 10 0 0)]) (cells' := 0) (slots' := 0) rfl rfl rfl ?_
    refine v_if_ne (n := 23) (t := 27) dX8_lift_20 rfl (by decide) (fun hq => ?_) (fun hq => ?_)
    · replace h := h.1 (bI_nf hq)
      refine v_iconst (n := 28) (x := nI 0) dX8_lift_27 rfl (by decide) ?_
      refine v_putf (n := 31) dX8_lift_28 rfl fw_X8_41 zokc_10 (fun _ => rfl) rfl rfl ?_
      refine v_aload_n (n := 32) dX8_lift_31 rfl rfl ?_
      refine v_getf (n := 35) dX8_lift_32 rfl fl_X8_41 zokc_10 (congrArg Value.int (up_self _ _ _ _ _ _)) ?_
      refine v_if_le (n := 38) (t := 40) dX8_lift_35 rfl (by decide) (fun hq => ?_) (fun hq => ?_)
      · replace h := h.1 hq
        refine v_iload_n (n := 41) dX8_lift_40 rfl rfl ?_
        refine v_bipush (n := 43) (x := nI 7) dX8_lift_41 rfl (by decide) ?_
        refine v_icmp_ge (n := 46) (t := 60) dX8_lift_43 rfl (by decide) (fun hq => ?_) (fun hq => ?_)
        · replace h := h.1 hq
          refine v_iload_n (n := 61) dX8_lift_60 rfl rfl ?_
          refine v_bipush (n := 63) (x := nI 7) dX8_lift_61 rfl (by decide) ?_
          refine v_icmp_ne (n := 66) (t := 74) dX8_lift_63 rfl (by decide) (fun hq => ?_) (fun hq => ?_)
          · replace h := h.1 hq
            refine v_iload_n (n := 75) dX8_lift_74 rfl rfl ?_
            refine v_bipush (n := 77) (x := nI 8) dX8_lift_75 rfl (by decide) ?_
            refine v_icmp_ne (n := 80) (t := 95) dX8_lift_77 rfl (by decide) (fun hq => ?_) (fun hq => ?_)
            · replace h := h.1 hq
              refine v_iload_n (n := 96) dX8_lift_95 rfl rfl ?_
              refine v_bipush (n := 98) (x := nI 9) dX8_lift_96 rfl (by decide) ?_
              refine v_icmp_ne (n := 101) (t := 116) dX8_lift_98 rfl (by decide) (fun hq => ?_) (fun hq => ?_)
              · replace h := h.1 hq
                refine v_aload_n (n := 117) dX8_lift_116 rfl rfl ?_
                refine v_iconst (n := 118) (x := nI 2) dX8_lift_117 rfl (by decide) ?_
                refine v_iload_n (n := 119) dX8_lift_118 rfl rfl ?_
                refine v_callV (n := 122) (k := 10) (b := 0) (i := 0) (As := [.int (nI 2), .int x1]) (rest := []) dX8_lift_119 rfl lk_X8_77 rfl rfl (Nat.le_of_ble_eq_true rfl) ⟨Nat.le_of_ble_eq_true rfl, Nat.le_of_ble_eq_true rfl, Nat.le_of_ble_eq_true rfl, Nat.le_of_ble_eq_true rfl⟩ zokc_10 h (fun v μ1 h => ?_) (fun _ _ hp => False.elim hp)
                obtain ⟨r1, rfl, h⟩ := h
                refine v_norm (st' := [.int r1]) (cells' := 0) (slots' := 0) rfl rfl rfl ?_
                exact v_iret dX8_lift_122 rfl (Nat.le_of_ble_eq_true rfl) (Nat.le_of_ble_eq_true rfl) h
              · replace h := h.2 hq
                refine v_aload_n (n := 102) dX8_lift_101 rfl rfl ?_
                refine v_getf (n := 105) dX8_lift_102 rfl fl_X8_9 zokc_10 rfl ?_
                refine v_iload_n (n := 106) dX8_lift_105 rfl rfl ?_
                refine v_callS (n := 109) (As := [.int x1]) (rest := [.ref (zad G.1 26 0 0)]) dX8_lift_106 rfl lk_X8_51 rfl rfl (Nat.le_of_ble_eq_true rfl) ⟨Nat.le_of_ble_eq_true rfl, Nat.le_of_ble_eq_true rfl, Nat.le_of_ble_eq_true rfl, Nat.le_of_ble_eq_true rfl⟩ (s_X8_lift0 G x1 (up μ 10 0 0 6 (nI 0))) (fun v μ9 hp => ?_) (fun _ _ hp => False.elim hp)
                rw [hp.1, hp.2]
                refine v_norm (st' := [.int (nI 6 + nI 21 * x1), .ref (zad G.1 26 0 0)]) (cells' := 0) (slots' := 0) rfl rfl rfl ?_
                refine v_bipush (n := 111) (x := nI 10) dX8_lift_109 rfl (by decide) ?_
                refine v_iadd (n := 112) dX8_lift_111 rfl ?_
                obtain ⟨j1, ej1, hj1, h⟩ := h
                refine v_iald (n := 113) (j := j1) dX8_lift_112 rfl zokc_26 (by decide) rfl ej1 hj1 (congrArg Value.int (up_k (by decide))) ?_
                refine v_goto (n := 122) dX8_lift_113 (by decide) ?_
                exact v_iret dX8_lift_122 rfl (Nat.le_of_ble_eq_true rfl) (Nat.le_of_ble_eq_true rfl) h
            · replace h := h.2 hq
              refine v_aload_n (n := 81) dX8_lift_80 rfl rfl ?_
              refine v_getf (n := 84) dX8_lift_81 rfl fl_X8_9 zokc_10 rfl ?_
              refine v_iload_n (n := 85) dX8_lift_84 rfl rfl ?_
              refine v_callS (n := 88) (As := [.int x1]) (rest := [.ref (zad G.1 26 0 0)]) dX8_lift_85 rfl lk_X8_51 rfl rfl (Nat.le_of_ble_eq_true rfl) ⟨Nat.le_of_ble_eq_true rfl, Nat.le_of_ble_eq_true rfl, Nat.le_of_ble_eq_true rfl, Nat.le_of_ble_eq_true rfl⟩ (s_X8_lift0 G x1 (up μ 10 0 0 6 (nI 0))) (fun v μ9 hp => ?_) (fun _ _ hp => False.elim hp)
              rw [hp.1, hp.2]
              refine v_norm (st' := [.int (nI 6 + nI 21 * x1), .ref (zad G.1 26 0 0)]) (cells' := 0) (slots' := 0) rfl rfl rfl ?_
              refine v_bipush (n := 90) (x := nI 7) dX8_lift_88 rfl (by decide) ?_
              refine v_iadd (n := 91) dX8_lift_90 rfl ?_
              obtain ⟨j2, ej2, hj2, h⟩ := h
              refine v_iald (n := 92) (j := j2) dX8_lift_91 rfl zokc_26 (by decide) rfl ej2 hj2 (congrArg Value.int (up_k (by decide))) ?_
              refine v_goto (n := 122) dX8_lift_92 (by decide) ?_
              exact v_iret dX8_lift_122 rfl (Nat.le_of_ble_eq_true rfl) (Nat.le_of_ble_eq_true rfl) h
          · replace h := h.2 hq
            refine v_aload_n (n := 67) dX8_lift_66 rfl rfl ?_
            refine v_iload_n (n := 68) dX8_lift_67 rfl rfl ?_
            obtain ⟨j3, ej3, hj3, h⟩ := h
            refine v_callV (n := 71) (k := 10) (b := 0) (i := 0) (As := [.int x1]) (rest := []) dX8_lift_68 rfl lk_X8_55 rfl rfl (Nat.le_of_ble_eq_true rfl) ⟨Nat.le_of_ble_eq_true rfl, Nat.le_of_ble_eq_true rfl, Nat.le_of_ble_eq_true rfl, Nat.le_of_ble_eq_true rfl⟩ zokc_10 (s_X8_stateOf G x1 j3 ej3 hj3 (up μ 10 0 0 6 (nI 0))) (fun v μ9 hp => ?_) (fun _ _ hp => False.elim hp)
            rw [hp.1, hp.2]
            refine v_norm (st' := [.int (msf (up μ 10 0 0 6 (nI 0)) j3)]) (cells' := 0) (slots' := 0) rfl rfl rfl ?_
            refine v_goto (n := 122) dX8_lift_71 (by decide) ?_
            exact v_iret dX8_lift_122 rfl (Nat.le_of_ble_eq_true rfl) (Nat.le_of_ble_eq_true rfl) h
        · replace h := h.2 hq
          refine v_aload_n (n := 47) dX8_lift_46 rfl rfl ?_
          refine v_getf (n := 50) dX8_lift_47 rfl fl_X8_9 zokc_10 rfl ?_
          refine v_iload_n (n := 51) dX8_lift_50 rfl rfl ?_
          refine v_callS (n := 54) (As := [.int x1]) (rest := [.ref (zad G.1 26 0 0)]) dX8_lift_51 rfl lk_X8_51 rfl rfl (Nat.le_of_ble_eq_true rfl) ⟨Nat.le_of_ble_eq_true rfl, Nat.le_of_ble_eq_true rfl, Nat.le_of_ble_eq_true rfl, Nat.le_of_ble_eq_true rfl⟩ (s_X8_lift0 G x1 (up μ 10 0 0 6 (nI 0))) (fun v μ9 hp => ?_) (fun _ _ hp => False.elim hp)
          rw [hp.1, hp.2]
          refine v_norm (st' := [.int (nI 6 + nI 21 * x1), .ref (zad G.1 26 0 0)]) (cells' := 0) (slots' := 0) rfl rfl rfl ?_
          refine v_iload_n (n := 55) dX8_lift_54 rfl rfl ?_
          refine v_iadd (n := 56) dX8_lift_55 rfl ?_
          obtain ⟨j4, ej4, hj4, h⟩ := h
          refine v_iald (n := 57) (j := j4) dX8_lift_56 rfl zokc_26 (by decide) rfl ej4 hj4 (congrArg Value.int (up_k (by decide))) ?_
          refine v_goto (n := 122) dX8_lift_57 (by decide) ?_
          exact v_iret dX8_lift_122 rfl (Nat.le_of_ble_eq_true rfl) (Nat.le_of_ble_eq_true rfl) h
      · replace h := h.2 hq
        refine v_iconst (n := 39) (x := nI 0) dX8_lift_38 rfl (by decide) ?_
        exact v_iret dX8_lift_39 rfl (Nat.le_of_ble_eq_true rfl) (Nat.le_of_ble_eq_true rfl) h
    · replace h := h.2 (bI_f hq)
      refine v_iconst (n := 24) (x := nI 2) dX8_lift_23 rfl (by decide) ?_
      refine v_goto (n := 28) dX8_lift_24 (by decide) ?_
      refine v_putf (n := 31) dX8_lift_28 rfl fw_X8_41 zokc_10 (fun _ => rfl) rfl rfl ?_
      refine v_aload_n (n := 32) dX8_lift_31 rfl rfl ?_
      refine v_getf (n := 35) dX8_lift_32 rfl fl_X8_41 zokc_10 (congrArg Value.int (up_self _ _ _ _ _ _)) ?_
      refine v_if_le (n := 38) (t := 40) dX8_lift_35 rfl (by decide) (fun hq => ?_) (fun hq => ?_)
      · replace h := h.1 hq
        refine v_iload_n (n := 41) dX8_lift_40 rfl rfl ?_
        refine v_bipush (n := 43) (x := nI 7) dX8_lift_41 rfl (by decide) ?_
        refine v_icmp_ge (n := 46) (t := 60) dX8_lift_43 rfl (by decide) (fun hq => ?_) (fun hq => ?_)
        · replace h := h.1 hq
          refine v_iload_n (n := 61) dX8_lift_60 rfl rfl ?_
          refine v_bipush (n := 63) (x := nI 7) dX8_lift_61 rfl (by decide) ?_
          refine v_icmp_ne (n := 66) (t := 74) dX8_lift_63 rfl (by decide) (fun hq => ?_) (fun hq => ?_)
          · replace h := h.1 hq
            refine v_iload_n (n := 75) dX8_lift_74 rfl rfl ?_
            refine v_bipush (n := 77) (x := nI 8) dX8_lift_75 rfl (by decide) ?_
            refine v_icmp_ne (n := 80) (t := 95) dX8_lift_77 rfl (by decide) (fun hq => ?_) (fun hq => ?_)
            · replace h := h.1 hq
              refine v_iload_n (n := 96) dX8_lift_95 rfl rfl ?_
              refine v_bipush (n := 98) (x := nI 9) dX8_lift_96 rfl (by decide) ?_
              refine v_icmp_ne (n := 101) (t := 116) dX8_lift_98 rfl (by decide) (fun hq => ?_) (fun hq => ?_)
              · replace h := h.1 hq
                refine v_aload_n (n := 117) dX8_lift_116 rfl rfl ?_
                refine v_iconst (n := 118) (x := nI 2) dX8_lift_117 rfl (by decide) ?_
                refine v_iload_n (n := 119) dX8_lift_118 rfl rfl ?_
                refine v_callV (n := 122) (k := 10) (b := 0) (i := 0) (As := [.int (nI 2), .int x1]) (rest := []) dX8_lift_119 rfl lk_X8_77 rfl rfl (Nat.le_of_ble_eq_true rfl) ⟨Nat.le_of_ble_eq_true rfl, Nat.le_of_ble_eq_true rfl, Nat.le_of_ble_eq_true rfl, Nat.le_of_ble_eq_true rfl⟩ zokc_10 h (fun v μ2 h => ?_) (fun _ _ hp => False.elim hp)
                obtain ⟨r2, rfl, h⟩ := h
                refine v_norm (st' := [.int r2]) (cells' := 0) (slots' := 0) rfl rfl rfl ?_
                exact v_iret dX8_lift_122 rfl (Nat.le_of_ble_eq_true rfl) (Nat.le_of_ble_eq_true rfl) h
              · replace h := h.2 hq
                refine v_aload_n (n := 102) dX8_lift_101 rfl rfl ?_
                refine v_getf (n := 105) dX8_lift_102 rfl fl_X8_9 zokc_10 rfl ?_
                refine v_iload_n (n := 106) dX8_lift_105 rfl rfl ?_
                refine v_callS (n := 109) (As := [.int x1]) (rest := [.ref (zad G.1 26 0 0)]) dX8_lift_106 rfl lk_X8_51 rfl rfl (Nat.le_of_ble_eq_true rfl) ⟨Nat.le_of_ble_eq_true rfl, Nat.le_of_ble_eq_true rfl, Nat.le_of_ble_eq_true rfl, Nat.le_of_ble_eq_true rfl⟩ (s_X8_lift0 G x1 (up μ 10 0 0 6 (nI 2))) (fun v μ9 hp => ?_) (fun _ _ hp => False.elim hp)
                rw [hp.1, hp.2]
                refine v_norm (st' := [.int (nI 6 + nI 21 * x1), .ref (zad G.1 26 0 0)]) (cells' := 0) (slots' := 0) rfl rfl rfl ?_
                refine v_bipush (n := 111) (x := nI 10) dX8_lift_109 rfl (by decide) ?_
                refine v_iadd (n := 112) dX8_lift_111 rfl ?_
                obtain ⟨j5, ej5, hj5, h⟩ := h
                refine v_iald (n := 113) (j := j5) dX8_lift_112 rfl zokc_26 (by decide) rfl ej5 hj5 (congrArg Value.int (up_k (by decide))) ?_
                refine v_goto (n := 122) dX8_lift_113 (by decide) ?_
                exact v_iret dX8_lift_122 rfl (Nat.le_of_ble_eq_true rfl) (Nat.le_of_ble_eq_true rfl) h
            · replace h := h.2 hq
              refine v_aload_n (n := 81) dX8_lift_80 rfl rfl ?_
              refine v_getf (n := 84) dX8_lift_81 rfl fl_X8_9 zokc_10 rfl ?_
              refine v_iload_n (n := 85) dX8_lift_84 rfl rfl ?_
              refine v_callS (n := 88) (As := [.int x1]) (rest := [.ref (zad G.1 26 0 0)]) dX8_lift_85 rfl lk_X8_51 rfl rfl (Nat.le_of_ble_eq_true rfl) ⟨Nat.le_of_ble_eq_true rfl, Nat.le_of_ble_eq_true rfl, Nat.le_of_ble_eq_true rfl, Nat.le_of_ble_eq_true rfl⟩ (s_X8_lift0 G x1 (up μ 10 0 0 6 (nI 2))) (fun v μ9 hp => ?_) (fun _ _ hp => False.elim hp)
              rw [hp.1, hp.2]
              refine v_norm (st' := [.int (nI 6 + nI 21 * x1), .ref (zad G.1 26 0 0)]) (cells' := 0) (slots' := 0) rfl rfl rfl ?_
              refine v_bipush (n := 90) (x := nI 7) dX8_lift_88 rfl (by decide) ?_
              refine v_iadd (n := 91) dX8_lift_90 rfl ?_
              obtain ⟨j6, ej6, hj6, h⟩ := h
              refine v_iald (n := 92) (j := j6) dX8_lift_91 rfl zokc_26 (by decide) rfl ej6 hj6 (congrArg Value.int (up_k (by decide))) ?_
              refine v_goto (n := 122) dX8_lift_92 (by decide) ?_
              exact v_iret dX8_lift_122 rfl (Nat.le_of_ble_eq_true rfl) (Nat.le_of_ble_eq_true rfl) h
          · replace h := h.2 hq
            refine v_aload_n (n := 67) dX8_lift_66 rfl rfl ?_
            refine v_iload_n (n := 68) dX8_lift_67 rfl rfl ?_
            obtain ⟨j7, ej7, hj7, h⟩ := h
            refine v_callV (n := 71) (k := 10) (b := 0) (i := 0) (As := [.int x1]) (rest := []) dX8_lift_68 rfl lk_X8_55 rfl rfl (Nat.le_of_ble_eq_true rfl) ⟨Nat.le_of_ble_eq_true rfl, Nat.le_of_ble_eq_true rfl, Nat.le_of_ble_eq_true rfl, Nat.le_of_ble_eq_true rfl⟩ zokc_10 (s_X8_stateOf G x1 j7 ej7 hj7 (up μ 10 0 0 6 (nI 2))) (fun v μ9 hp => ?_) (fun _ _ hp => False.elim hp)
            rw [hp.1, hp.2]
            refine v_norm (st' := [.int (msf (up μ 10 0 0 6 (nI 2)) j7)]) (cells' := 0) (slots' := 0) rfl rfl rfl ?_
            refine v_goto (n := 122) dX8_lift_71 (by decide) ?_
            exact v_iret dX8_lift_122 rfl (Nat.le_of_ble_eq_true rfl) (Nat.le_of_ble_eq_true rfl) h
        · replace h := h.2 hq
          refine v_aload_n (n := 47) dX8_lift_46 rfl rfl ?_
          refine v_getf (n := 50) dX8_lift_47 rfl fl_X8_9 zokc_10 rfl ?_
          refine v_iload_n (n := 51) dX8_lift_50 rfl rfl ?_
          refine v_callS (n := 54) (As := [.int x1]) (rest := [.ref (zad G.1 26 0 0)]) dX8_lift_51 rfl lk_X8_51 rfl rfl (Nat.le_of_ble_eq_true rfl) ⟨Nat.le_of_ble_eq_true rfl, Nat.le_of_ble_eq_true rfl, Nat.le_of_ble_eq_true rfl, Nat.le_of_ble_eq_true rfl⟩ (s_X8_lift0 G x1 (up μ 10 0 0 6 (nI 2))) (fun v μ9 hp => ?_) (fun _ _ hp => False.elim hp)
          rw [hp.1, hp.2]
          refine v_norm (st' := [.int (nI 6 + nI 21 * x1), .ref (zad G.1 26 0 0)]) (cells' := 0) (slots' := 0) rfl rfl rfl ?_
          refine v_iload_n (n := 55) dX8_lift_54 rfl rfl ?_
          refine v_iadd (n := 56) dX8_lift_55 rfl ?_
          obtain ⟨j8, ej8, hj8, h⟩ := h
          refine v_iald (n := 57) (j := j8) dX8_lift_56 rfl zokc_26 (by decide) rfl ej8 hj8 (congrArg Value.int (up_k (by decide))) ?_
          refine v_goto (n := 122) dX8_lift_57 (by decide) ?_
          exact v_iret dX8_lift_122 rfl (Nat.le_of_ble_eq_true rfl) (Nat.le_of_ble_eq_true rfl) h
      · replace h := h.2 hq
        refine v_iconst (n := 39) (x := nI 0) dX8_lift_38 rfl (by decide) ?_
        exact v_iret dX8_lift_39 rfl (Nat.le_of_ble_eq_true rfl) (Nat.le_of_ble_eq_true rfl) h
  · replace h := h.2 (bI_f hq)
    refine v_iconst (n := 10) (x := nI 1) dX8_lift_9 rfl (by decide) ?_
    refine v_goto (n := 28) dX8_lift_10 (by decide) ?_
    refine v_putf (n := 31) dX8_lift_28 rfl fw_X8_41 zokc_10 (fun _ => rfl) rfl rfl ?_
    refine v_aload_n (n := 32) dX8_lift_31 rfl rfl ?_
    refine v_getf (n := 35) dX8_lift_32 rfl fl_X8_41 zokc_10 (congrArg Value.int (up_self _ _ _ _ _ _)) ?_
    refine v_if_le (n := 38) (t := 40) dX8_lift_35 rfl (by decide) (fun hq => ?_) (fun hq => ?_)
    · replace h := h.1 hq
      refine v_iload_n (n := 41) dX8_lift_40 rfl rfl ?_
      refine v_bipush (n := 43) (x := nI 7) dX8_lift_41 rfl (by decide) ?_
      refine v_icmp_ge (n := 46) (t := 60) dX8_lift_43 rfl (by decide) (fun hq => ?_) (fun hq => ?_)
      · replace h := h.1 hq
        refine v_iload_n (n := 61) dX8_lift_60 rfl rfl ?_
        refine v_bipush (n := 63) (x := nI 7) dX8_lift_61 rfl (by decide) ?_
        refine v_icmp_ne (n := 66) (t := 74) dX8_lift_63 rfl (by decide) (fun hq => ?_) (fun hq => ?_)
        · replace h := h.1 hq
          refine v_iload_n (n := 75) dX8_lift_74 rfl rfl ?_
          refine v_bipush (n := 77) (x := nI 8) dX8_lift_75 rfl (by decide) ?_
          refine v_icmp_ne (n := 80) (t := 95) dX8_lift_77 rfl (by decide) (fun hq => ?_) (fun hq => ?_)
          · replace h := h.1 hq
            refine v_iload_n (n := 96) dX8_lift_95 rfl rfl ?_
            refine v_bipush (n := 98) (x := nI 9) dX8_lift_96 rfl (by decide) ?_
            refine v_icmp_ne (n := 101) (t := 116) dX8_lift_98 rfl (by decide) (fun hq => ?_) (fun hq => ?_)
            · replace h := h.1 hq
              refine v_aload_n (n := 117) dX8_lift_116 rfl rfl ?_
              refine v_iconst (n := 118) (x := nI 2) dX8_lift_117 rfl (by decide) ?_
              refine v_iload_n (n := 119) dX8_lift_118 rfl rfl ?_
              refine v_callV (n := 122) (k := 10) (b := 0) (i := 0) (As := [.int (nI 2), .int x1]) (rest := []) dX8_lift_119 rfl lk_X8_77 rfl rfl (Nat.le_of_ble_eq_true rfl) ⟨Nat.le_of_ble_eq_true rfl, Nat.le_of_ble_eq_true rfl, Nat.le_of_ble_eq_true rfl, Nat.le_of_ble_eq_true rfl⟩ zokc_10 h (fun v μ3 h => ?_) (fun _ _ hp => False.elim hp)
              obtain ⟨r3, rfl, h⟩ := h
              refine v_norm (st' := [.int r3]) (cells' := 0) (slots' := 0) rfl rfl rfl ?_
              exact v_iret dX8_lift_122 rfl (Nat.le_of_ble_eq_true rfl) (Nat.le_of_ble_eq_true rfl) h
            · replace h := h.2 hq
              refine v_aload_n (n := 102) dX8_lift_101 rfl rfl ?_
              refine v_getf (n := 105) dX8_lift_102 rfl fl_X8_9 zokc_10 rfl ?_
              refine v_iload_n (n := 106) dX8_lift_105 rfl rfl ?_
              refine v_callS (n := 109) (As := [.int x1]) (rest := [.ref (zad G.1 26 0 0)]) dX8_lift_106 rfl lk_X8_51 rfl rfl (Nat.le_of_ble_eq_true rfl) ⟨Nat.le_of_ble_eq_true rfl, Nat.le_of_ble_eq_true rfl, Nat.le_of_ble_eq_true rfl, Nat.le_of_ble_eq_true rfl⟩ (s_X8_lift0 G x1 (up μ 10 0 0 6 (nI 1))) (fun v μ9 hp => ?_) (fun _ _ hp => False.elim hp)
              rw [hp.1, hp.2]
              refine v_norm (st' := [.int (nI 6 + nI 21 * x1), .ref (zad G.1 26 0 0)]) (cells' := 0) (slots' := 0) rfl rfl rfl ?_
              refine v_bipush (n := 111) (x := nI 10) dX8_lift_109 rfl (by decide) ?_
              refine v_iadd (n := 112) dX8_lift_111 rfl ?_
              obtain ⟨j9, ej9, hj9, h⟩ := h
              refine v_iald (n := 113) (j := j9) dX8_lift_112 rfl zokc_26 (by decide) rfl ej9 hj9 (congrArg Value.int (up_k (by decide))) ?_
              refine v_goto (n := 122) dX8_lift_113 (by decide) ?_
              exact v_iret dX8_lift_122 rfl (Nat.le_of_ble_eq_true rfl) (Nat.le_of_ble_eq_true rfl) h
          · replace h := h.2 hq
            refine v_aload_n (n := 81) dX8_lift_80 rfl rfl ?_
            refine v_getf (n := 84) dX8_lift_81 rfl fl_X8_9 zokc_10 rfl ?_
            refine v_iload_n (n := 85) dX8_lift_84 rfl rfl ?_
            refine v_callS (n := 88) (As := [.int x1]) (rest := [.ref (zad G.1 26 0 0)]) dX8_lift_85 rfl lk_X8_51 rfl rfl (Nat.le_of_ble_eq_true rfl) ⟨Nat.le_of_ble_eq_true rfl, Nat.le_of_ble_eq_true rfl, Nat.le_of_ble_eq_true rfl, Nat.le_of_ble_eq_true rfl⟩ (s_X8_lift0 G x1 (up μ 10 0 0 6 (nI 1))) (fun v μ9 hp => ?_) (fun _ _ hp => False.elim hp)
            rw [hp.1, hp.2]
            refine v_norm (st' := [.int (nI 6 + nI 21 * x1), .ref (zad G.1 26 0 0)]) (cells' := 0) (slots' := 0) rfl rfl rfl ?_
            refine v_bipush (n := 90) (x := nI 7) dX8_lift_88 rfl (by decide) ?_
            refine v_iadd (n := 91) dX8_lift_90 rfl ?_
            obtain ⟨j10, ej10, hj10, h⟩ := h
            refine v_iald (n := 92) (j := j10) dX8_lift_91 rfl zokc_26 (by decide) rfl ej10 hj10 (congrArg Value.int (up_k (by decide))) ?_
            refine v_goto (n := 122) dX8_lift_92 (by decide) ?_
            exact v_iret dX8_lift_122 rfl (Nat.le_of_ble_eq_true rfl) (Nat.le_of_ble_eq_true rfl) h
        · replace h := h.2 hq
          refine v_aload_n (n := 67) dX8_lift_66 rfl rfl ?_
          refine v_iload_n (n := 68) dX8_lift_67 rfl rfl ?_
          obtain ⟨j11, ej11, hj11, h⟩ := h
          refine v_callV (n := 71) (k := 10) (b := 0) (i := 0) (As := [.int x1]) (rest := []) dX8_lift_68 rfl lk_X8_55 rfl rfl (Nat.le_of_ble_eq_true rfl) ⟨Nat.le_of_ble_eq_true rfl, Nat.le_of_ble_eq_true rfl, Nat.le_of_ble_eq_true rfl, Nat.le_of_ble_eq_true rfl⟩ zokc_10 (s_X8_stateOf G x1 j11 ej11 hj11 (up μ 10 0 0 6 (nI 1))) (fun v μ9 hp => ?_) (fun _ _ hp => False.elim hp)
          rw [hp.1, hp.2]
          refine v_norm (st' := [.int (msf (up μ 10 0 0 6 (nI 1)) j11)]) (cells' := 0) (slots' := 0) rfl rfl rfl ?_
          refine v_goto (n := 122) dX8_lift_71 (by decide) ?_
          exact v_iret dX8_lift_122 rfl (Nat.le_of_ble_eq_true rfl) (Nat.le_of_ble_eq_true rfl) h
      · replace h := h.2 hq
        refine v_aload_n (n := 47) dX8_lift_46 rfl rfl ?_
        refine v_getf (n := 50) dX8_lift_47 rfl fl_X8_9 zokc_10 rfl ?_
        refine v_iload_n (n := 51) dX8_lift_50 rfl rfl ?_
        refine v_callS (n := 54) (As := [.int x1]) (rest := [.ref (zad G.1 26 0 0)]) dX8_lift_51 rfl lk_X8_51 rfl rfl (Nat.le_of_ble_eq_true rfl) ⟨Nat.le_of_ble_eq_true rfl, Nat.le_of_ble_eq_true rfl, Nat.le_of_ble_eq_true rfl, Nat.le_of_ble_eq_true rfl⟩ (s_X8_lift0 G x1 (up μ 10 0 0 6 (nI 1))) (fun v μ9 hp => ?_) (fun _ _ hp => False.elim hp)
        rw [hp.1, hp.2]
        refine v_norm (st' := [.int (nI 6 + nI 21 * x1), .ref (zad G.1 26 0 0)]) (cells' := 0) (slots' := 0) rfl rfl rfl ?_
        refine v_iload_n (n := 55) dX8_lift_54 rfl rfl ?_
        refine v_iadd (n := 56) dX8_lift_55 rfl ?_
        obtain ⟨j12, ej12, hj12, h⟩ := h
        refine v_iald (n := 57) (j := j12) dX8_lift_56 rfl zokc_26 (by decide) rfl ej12 hj12 (congrArg Value.int (up_k (by decide))) ?_
        refine v_goto (n := 122) dX8_lift_57 (by decide) ?_
        exact v_iret dX8_lift_122 rfl (Nat.le_of_ble_eq_true rfl) (Nat.le_of_ble_eq_true rfl) h
    · replace h := h.2 hq
      refine v_iconst (n := 39) (x := nI 0) dX8_lift_38 rfl (by decide) ?_
      exact v_iret dX8_lift_39 rfl (Nat.le_of_ble_eq_true rfl) (Nat.le_of_ble_eq_true rfl) h

set_option maxRecDepth 20000 in
set_option maxHeartbeats 4000000 in
theorem wX8_piste (G : Gl) {P : Option Value → St → Prop} {X : String → St → Prop} (x1 : Int32) (x2 : Int32) (μ : St)
    (h : ((mix μ 4 x1 = true → ((btw x2 (nI 0) (nI 7) = true → ((nI 0 ≤ 0 → ((nI 7 ≤ x2 → Con G mX8_guestsWho [.ref (zad G.1 10 0 0), .int (nI 3), .int x1] (up μ 10 0 0 6 (nI 0)) (fun v μ1 => ∃ r1 : Int32, v = some (.int r1) ∧ P (some (.int r1)) μ1) noX) ∧ (¬ nI 7 ≤ x2 → ∃ j1 : Nat, (nI 132 + nI 8 * x1) + x2 = nI j1 ∧ j1 < 372 ∧ P (some (.int (μ 26 0 0 j1))) (up μ 10 0 0 6 (nI 0))))) ∧ (¬ nI 0 ≤ 0 → P (some (.int (nI 0))) (up μ 10 0 0 6 (nI 0))))) ∧ (btw x2 (nI 0) (nI 7) = false → ((nI 2 ≤ 0 → ((nI 7 ≤ x2 → Con G mX8_guestsWho [.ref (zad G.1 10 0 0), .int (nI 3), .int x1] (up μ 10 0 0 6 (nI 2)) (fun v μ2 => ∃ r2 : Int32, v = some (.int r2) ∧ P (some (.int r2)) μ2) noX) ∧ (¬ nI 7 ≤ x2 → ∃ j2 : Nat, (nI 132 + nI 8 * x1) + x2 = nI j2 ∧ j2 < 372 ∧ P (some (.int (μ 26 0 0 j2))) (up μ 10 0 0 6 (nI 2))))) ∧ (¬ nI 2 ≤ 0 → P (some (.int (nI 0))) (up μ 10 0 0 6 (nI 2))))))) ∧ (mix μ 4 x1 = false → ((nI 1 ≤ 0 → ((nI 7 ≤ x2 → Con G mX8_guestsWho [.ref (zad G.1 10 0 0), .int (nI 3), .int x1] (up μ 10 0 0 6 (nI 1)) (fun v μ3 => ∃ r3 : Int32, v = some (.int r3) ∧ P (some (.int r3)) μ3) noX) ∧ (¬ nI 7 ≤ x2 → ∃ j3 : Nat, (nI 132 + nI 8 * x1) + x2 = nI j3 ∧ j3 < 372 ∧ P (some (.int (μ 26 0 0 j3))) (up μ 10 0 0 6 (nI 1))))) ∧ (¬ nI 1 ≤ 0 → P (some (.int (nI 0))) (up μ 10 0 0 6 (nI 1))))))) :
    Con G mX8_piste [.ref (zad G.1 10 0 0), .int x1, .int x2] μ P X := by
  refine con_of pn_X8 rfl (Nat.le_of_ble_eq_true rfl) ?_
  show VL G mX8_piste P X 0 [(0, .ref (zad G.1 10 0 0)), (1, .int x1), (2, .int x2)] [] μ
  refine v_aload_n (n := 1) dX8_piste_0 rfl rfl ?_
  refine v_aload_n (n := 2) dX8_piste_1 rfl rfl ?_
  refine v_iload_n (n := 3) dX8_piste_2 rfl rfl ?_
  refine v_callV (n := 6) (k := 10) (b := 0) (i := 0) (As := [.int x1]) (rest := [.ref (zad G.1 10 0 0)]) dX8_piste_3 rfl lk_X8_81 rfl rfl (Nat.le_of_ble_eq_true rfl) ⟨Nat.le_of_ble_eq_true rfl, Nat.le_of_ble_eq_true rfl, Nat.le_of_ble_eq_true rfl, Nat.le_of_ble_eq_true rfl⟩ zokc_10 (s_X8_isPiste G x1 μ) (fun v μ9 hp => ?_) (fun _ _ hp => False.elim hp)
  rw [hp.1, hp.2]
  refine v_norm (st' := [.int (bI (mix μ 4 x1)), .ref (zad G.1 10 0 0)]) (cells' := 0) (slots' := 0) rfl rfl rfl ?_
  refine v_if_ne (n := 9) (t := 13) dX8_piste_6 rfl (by decide) (fun hq => ?_) (fun hq => ?_)
  · replace h := h.1 (bI_nf hq)
    refine v_iload_n (n := 14) dX8_piste_13 rfl rfl ?_
    refine v_iconst (n := 15) (x := nI 0) dX8_piste_14 rfl (by decide) ?_
    refine v_bipush (n := 17) (x := nI 7) dX8_piste_15 rfl (by decide) ?_
    refine v_callS (n := 20) (As := [.int x2, .int (nI 0), .int (nI 7)]) (rest := [.ref (zad G.1 10 0 0)]) dX8_piste_17 rfl lk_X8_47 rfl rfl (Nat.le_of_ble_eq_true rfl) ⟨Nat.le_of_ble_eq_true rfl, Nat.le_of_ble_eq_true rfl, Nat.le_of_ble_eq_true rfl, Nat.le_of_ble_eq_true rfl⟩ (s_X8_in G x2 (nI 0) (nI 7) μ) (fun v μ9 hp => ?_) (fun _ _ hp => False.elim hp)
    rw [hp.1, hp.2]
    refine v_norm (st' := [.int (bI (btw x2 (nI 0) (nI 7))), .ref (zad G.1 10 0 0)]) (cells' := 0) (slots' := 0) rfl rfl rfl ?_
    refine v_if_ne (n := 23) (t := 27) dX8_piste_20 rfl (by decide) (fun hq => ?_) (fun hq => ?_)
    · replace h := h.1 (bI_nf hq)
      refine v_iconst (n := 28) (x := nI 0) dX8_piste_27 rfl (by decide) ?_
      refine v_putf (n := 31) dX8_piste_28 rfl fw_X8_41 zokc_10 (fun _ => rfl) rfl rfl ?_
      refine v_aload_n (n := 32) dX8_piste_31 rfl rfl ?_
      refine v_getf (n := 35) dX8_piste_32 rfl fl_X8_41 zokc_10 (congrArg Value.int (up_self _ _ _ _ _ _)) ?_
      refine v_if_le (n := 38) (t := 40) dX8_piste_35 rfl (by decide) (fun hq => ?_) (fun hq => ?_)
      · replace h := h.1 hq
        refine v_iload_n (n := 41) dX8_piste_40 rfl rfl ?_
        refine v_bipush (n := 43) (x := nI 7) dX8_piste_41 rfl (by decide) ?_
        refine v_icmp_ge (n := 46) (t := 60) dX8_piste_43 rfl (by decide) (fun hq => ?_) (fun hq => ?_)
        · replace h := h.1 hq
          refine v_aload_n (n := 61) dX8_piste_60 rfl rfl ?_
          refine v_iconst (n := 62) (x := nI 3) dX8_piste_61 rfl (by decide) ?_
          refine v_iload_n (n := 63) dX8_piste_62 rfl rfl ?_
          refine v_callV (n := 66) (k := 10) (b := 0) (i := 0) (As := [.int (nI 3), .int x1]) (rest := []) dX8_piste_63 rfl lk_X8_77 rfl rfl (Nat.le_of_ble_eq_true rfl) ⟨Nat.le_of_ble_eq_true rfl, Nat.le_of_ble_eq_true rfl, Nat.le_of_ble_eq_true rfl, Nat.le_of_ble_eq_true rfl⟩ zokc_10 h (fun v μ1 h => ?_) (fun _ _ hp => False.elim hp)
          obtain ⟨r1, rfl, h⟩ := h
          refine v_norm (st' := [.int r1]) (cells' := 0) (slots' := 0) rfl rfl rfl ?_
          exact v_iret dX8_piste_66 rfl (Nat.le_of_ble_eq_true rfl) (Nat.le_of_ble_eq_true rfl) h
        · replace h := h.2 hq
          refine v_aload_n (n := 47) dX8_piste_46 rfl rfl ?_
          refine v_getf (n := 50) dX8_piste_47 rfl fl_X8_9 zokc_10 rfl ?_
          refine v_iload_n (n := 51) dX8_piste_50 rfl rfl ?_
          refine v_callS (n := 54) (As := [.int x1]) (rest := [.ref (zad G.1 26 0 0)]) dX8_piste_51 rfl lk_X8_68 rfl rfl (Nat.le_of_ble_eq_true rfl) ⟨Nat.le_of_ble_eq_true rfl, Nat.le_of_ble_eq_true rfl, Nat.le_of_ble_eq_true rfl, Nat.le_of_ble_eq_true rfl⟩ (s_X8_piste0 G x1 (up μ 10 0 0 6 (nI 0))) (fun v μ9 hp => ?_) (fun _ _ hp => False.elim hp)
          rw [hp.1, hp.2]
          refine v_norm (st' := [.int (nI 132 + nI 8 * x1), .ref (zad G.1 26 0 0)]) (cells' := 0) (slots' := 0) rfl rfl rfl ?_
          refine v_iload_n (n := 55) dX8_piste_54 rfl rfl ?_
          refine v_iadd (n := 56) dX8_piste_55 rfl ?_
          obtain ⟨j1, ej1, hj1, h⟩ := h
          refine v_iald (n := 57) (j := j1) dX8_piste_56 rfl zokc_26 (by decide) rfl ej1 hj1 (congrArg Value.int (up_k (by decide))) ?_
          refine v_goto (n := 66) dX8_piste_57 (by decide) ?_
          exact v_iret dX8_piste_66 rfl (Nat.le_of_ble_eq_true rfl) (Nat.le_of_ble_eq_true rfl) h
      · replace h := h.2 hq
        refine v_iconst (n := 39) (x := nI 0) dX8_piste_38 rfl (by decide) ?_
        exact v_iret dX8_piste_39 rfl (Nat.le_of_ble_eq_true rfl) (Nat.le_of_ble_eq_true rfl) h
    · replace h := h.2 (bI_f hq)
      refine v_iconst (n := 24) (x := nI 2) dX8_piste_23 rfl (by decide) ?_
      refine v_goto (n := 28) dX8_piste_24 (by decide) ?_
      refine v_putf (n := 31) dX8_piste_28 rfl fw_X8_41 zokc_10 (fun _ => rfl) rfl rfl ?_
      refine v_aload_n (n := 32) dX8_piste_31 rfl rfl ?_
      refine v_getf (n := 35) dX8_piste_32 rfl fl_X8_41 zokc_10 (congrArg Value.int (up_self _ _ _ _ _ _)) ?_
      refine v_if_le (n := 38) (t := 40) dX8_piste_35 rfl (by decide) (fun hq => ?_) (fun hq => ?_)
      · replace h := h.1 hq
        refine v_iload_n (n := 41) dX8_piste_40 rfl rfl ?_
        refine v_bipush (n := 43) (x := nI 7) dX8_piste_41 rfl (by decide) ?_
        refine v_icmp_ge (n := 46) (t := 60) dX8_piste_43 rfl (by decide) (fun hq => ?_) (fun hq => ?_)
        · replace h := h.1 hq
          refine v_aload_n (n := 61) dX8_piste_60 rfl rfl ?_
          refine v_iconst (n := 62) (x := nI 3) dX8_piste_61 rfl (by decide) ?_
          refine v_iload_n (n := 63) dX8_piste_62 rfl rfl ?_
          refine v_callV (n := 66) (k := 10) (b := 0) (i := 0) (As := [.int (nI 3), .int x1]) (rest := []) dX8_piste_63 rfl lk_X8_77 rfl rfl (Nat.le_of_ble_eq_true rfl) ⟨Nat.le_of_ble_eq_true rfl, Nat.le_of_ble_eq_true rfl, Nat.le_of_ble_eq_true rfl, Nat.le_of_ble_eq_true rfl⟩ zokc_10 h (fun v μ2 h => ?_) (fun _ _ hp => False.elim hp)
          obtain ⟨r2, rfl, h⟩ := h
          refine v_norm (st' := [.int r2]) (cells' := 0) (slots' := 0) rfl rfl rfl ?_
          exact v_iret dX8_piste_66 rfl (Nat.le_of_ble_eq_true rfl) (Nat.le_of_ble_eq_true rfl) h
        · replace h := h.2 hq
          refine v_aload_n (n := 47) dX8_piste_46 rfl rfl ?_
          refine v_getf (n := 50) dX8_piste_47 rfl fl_X8_9 zokc_10 rfl ?_
          refine v_iload_n (n := 51) dX8_piste_50 rfl rfl ?_
          refine v_callS (n := 54) (As := [.int x1]) (rest := [.ref (zad G.1 26 0 0)]) dX8_piste_51 rfl lk_X8_68 rfl rfl (Nat.le_of_ble_eq_true rfl) ⟨Nat.le_of_ble_eq_true rfl, Nat.le_of_ble_eq_true rfl, Nat.le_of_ble_eq_true rfl, Nat.le_of_ble_eq_true rfl⟩ (s_X8_piste0 G x1 (up μ 10 0 0 6 (nI 2))) (fun v μ9 hp => ?_) (fun _ _ hp => False.elim hp)
          rw [hp.1, hp.2]
          refine v_norm (st' := [.int (nI 132 + nI 8 * x1), .ref (zad G.1 26 0 0)]) (cells' := 0) (slots' := 0) rfl rfl rfl ?_
          refine v_iload_n (n := 55) dX8_piste_54 rfl rfl ?_
          refine v_iadd (n := 56) dX8_piste_55 rfl ?_
          obtain ⟨j2, ej2, hj2, h⟩ := h
          refine v_iald (n := 57) (j := j2) dX8_piste_56 rfl zokc_26 (by decide) rfl ej2 hj2 (congrArg Value.int (up_k (by decide))) ?_
          refine v_goto (n := 66) dX8_piste_57 (by decide) ?_
          exact v_iret dX8_piste_66 rfl (Nat.le_of_ble_eq_true rfl) (Nat.le_of_ble_eq_true rfl) h
      · replace h := h.2 hq
        refine v_iconst (n := 39) (x := nI 0) dX8_piste_38 rfl (by decide) ?_
        exact v_iret dX8_piste_39 rfl (Nat.le_of_ble_eq_true rfl) (Nat.le_of_ble_eq_true rfl) h
  · replace h := h.2 (bI_f hq)
    refine v_iconst (n := 10) (x := nI 1) dX8_piste_9 rfl (by decide) ?_
    refine v_goto (n := 28) dX8_piste_10 (by decide) ?_
    refine v_putf (n := 31) dX8_piste_28 rfl fw_X8_41 zokc_10 (fun _ => rfl) rfl rfl ?_
    refine v_aload_n (n := 32) dX8_piste_31 rfl rfl ?_
    refine v_getf (n := 35) dX8_piste_32 rfl fl_X8_41 zokc_10 (congrArg Value.int (up_self _ _ _ _ _ _)) ?_
    refine v_if_le (n := 38) (t := 40) dX8_piste_35 rfl (by decide) (fun hq => ?_) (fun hq => ?_)
    · replace h := h.1 hq
      refine v_iload_n (n := 41) dX8_piste_40 rfl rfl ?_
      refine v_bipush (n := 43) (x := nI 7) dX8_piste_41 rfl (by decide) ?_
      refine v_icmp_ge (n := 46) (t := 60) dX8_piste_43 rfl (by decide) (fun hq => ?_) (fun hq => ?_)
      · replace h := h.1 hq
        refine v_aload_n (n := 61) dX8_piste_60 rfl rfl ?_
        refine v_iconst (n := 62) (x := nI 3) dX8_piste_61 rfl (by decide) ?_
        refine v_iload_n (n := 63) dX8_piste_62 rfl rfl ?_
        refine v_callV (n := 66) (k := 10) (b := 0) (i := 0) (As := [.int (nI 3), .int x1]) (rest := []) dX8_piste_63 rfl lk_X8_77 rfl rfl (Nat.le_of_ble_eq_true rfl) ⟨Nat.le_of_ble_eq_true rfl, Nat.le_of_ble_eq_true rfl, Nat.le_of_ble_eq_true rfl, Nat.le_of_ble_eq_true rfl⟩ zokc_10 h (fun v μ3 h => ?_) (fun _ _ hp => False.elim hp)
        obtain ⟨r3, rfl, h⟩ := h
        refine v_norm (st' := [.int r3]) (cells' := 0) (slots' := 0) rfl rfl rfl ?_
        exact v_iret dX8_piste_66 rfl (Nat.le_of_ble_eq_true rfl) (Nat.le_of_ble_eq_true rfl) h
      · replace h := h.2 hq
        refine v_aload_n (n := 47) dX8_piste_46 rfl rfl ?_
        refine v_getf (n := 50) dX8_piste_47 rfl fl_X8_9 zokc_10 rfl ?_
        refine v_iload_n (n := 51) dX8_piste_50 rfl rfl ?_
        refine v_callS (n := 54) (As := [.int x1]) (rest := [.ref (zad G.1 26 0 0)]) dX8_piste_51 rfl lk_X8_68 rfl rfl (Nat.le_of_ble_eq_true rfl) ⟨Nat.le_of_ble_eq_true rfl, Nat.le_of_ble_eq_true rfl, Nat.le_of_ble_eq_true rfl, Nat.le_of_ble_eq_true rfl⟩ (s_X8_piste0 G x1 (up μ 10 0 0 6 (nI 1))) (fun v μ9 hp => ?_) (fun _ _ hp => False.elim hp)
        rw [hp.1, hp.2]
        refine v_norm (st' := [.int (nI 132 + nI 8 * x1), .ref (zad G.1 26 0 0)]) (cells' := 0) (slots' := 0) rfl rfl rfl ?_
        refine v_iload_n (n := 55) dX8_piste_54 rfl rfl ?_
        refine v_iadd (n := 56) dX8_piste_55 rfl ?_
        obtain ⟨j3, ej3, hj3, h⟩ := h
        refine v_iald (n := 57) (j := j3) dX8_piste_56 rfl zokc_26 (by decide) rfl ej3 hj3 (congrArg Value.int (up_k (by decide))) ?_
        refine v_goto (n := 66) dX8_piste_57 (by decide) ?_
        exact v_iret dX8_piste_66 rfl (Nat.le_of_ble_eq_true rfl) (Nat.le_of_ble_eq_true rfl) h
    · replace h := h.2 hq
      refine v_iconst (n := 39) (x := nI 0) dX8_piste_38 rfl (by decide) ?_
      exact v_iret dX8_piste_39 rfl (Nat.le_of_ble_eq_true rfl) (Nat.le_of_ble_eq_true rfl) h

set_option maxRecDepth 20000 in
set_option maxHeartbeats 4000000 in
theorem wX8_open (G : Gl) {P : Option Value → St → Prop} {X : String → St → Prop} (x1 : Int32) (x2 : Bool) (μ : St)
    (h : ((mix μ 4 x1 = true → ((x2 = false → ((nI 0 ≤ 0 → Con G mX8_keep [.ref (zad G.1 10 0 0)] (up μ 10 0 0 6 (nI 0)) (fun v μ1 => v = none ∧ ∃ j1 : Nat, (nI 132 + nI 8 * x1) + (nI 4) = nI j1 ∧ j1 < 372 ∧ ((x2 = false → ∃ j2 : Nat, (nI 132 + nI 8 * x1) + (nI 4) = nI j2 ∧ j2 < 372 ∧ ∃ j3 : Nat, (nI 132 + nI 8 * x1) + (nI 6) = nI j3 ∧ j3 < 372 ∧ P (some (.int (μ1 26 0 0 j1))) (up (up μ1 26 0 0 j2 (nI 1)) 26 0 0 j3 (nI 0))) ∧ (x2 = true → ∃ j4 : Nat, (nI 132 + nI 8 * x1) + (nI 4) = nI j4 ∧ j4 < 372 ∧ ∃ j5 : Nat, (nI 132 + nI 8 * x1) + (nI 6) = nI j5 ∧ j5 < 372 ∧ P (some (.int (μ1 26 0 0 j1))) (up (up μ1 26 0 0 j4 (nI 0)) 26 0 0 j5 (nI 0))))) noX) ∧ (¬ nI 0 ≤ 0 → P (some (.int (nI 0))) (up μ 10 0 0 6 (nI 0))))) ∧ (x2 = true → ∃ j6 : Nat, (nI 132 + nI 8 * x1) + (nI 5) = nI j6 ∧ j6 < 372 ∧ ((μ 26 0 0 j6 < nI 20 → ((nI 0 ≤ 0 → Con G mX8_keep [.ref (zad G.1 10 0 0)] (up μ 10 0 0 6 (nI 0)) (fun v μ2 => v = none ∧ ∃ j7 : Nat, (nI 132 + nI 8 * x1) + (nI 4) = nI j7 ∧ j7 < 372 ∧ ((x2 = false → ∃ j8 : Nat, (nI 132 + nI 8 * x1) + (nI 4) = nI j8 ∧ j8 < 372 ∧ ∃ j9 : Nat, (nI 132 + nI 8 * x1) + (nI 6) = nI j9 ∧ j9 < 372 ∧ P (some (.int (μ2 26 0 0 j7))) (up (up μ2 26 0 0 j8 (nI 1)) 26 0 0 j9 (nI 0))) ∧ (x2 = true → ∃ j10 : Nat, (nI 132 + nI 8 * x1) + (nI 4) = nI j10 ∧ j10 < 372 ∧ ∃ j11 : Nat, (nI 132 + nI 8 * x1) + (nI 6) = nI j11 ∧ j11 < 372 ∧ P (some (.int (μ2 26 0 0 j7))) (up (up μ2 26 0 0 j10 (nI 0)) 26 0 0 j11 (nI 0))))) noX) ∧ (¬ nI 0 ≤ 0 → P (some (.int (nI 0))) (up μ 10 0 0 6 (nI 0))))) ∧ (¬ μ 26 0 0 j6 < nI 20 → ((nI 2 ≤ 0 → Con G mX8_keep [.ref (zad G.1 10 0 0)] (up μ 10 0 0 6 (nI 2)) (fun v μ3 => v = none ∧ ∃ j12 : Nat, (nI 132 + nI 8 * x1) + (nI 4) = nI j12 ∧ j12 < 372 ∧ ((x2 = false → ∃ j13 : Nat, (nI 132 + nI 8 * x1) + (nI 4) = nI j13 ∧ j13 < 372 ∧ ∃ j14 : Nat, (nI 132 + nI 8 * x1) + (nI 6) = nI j14 ∧ j14 < 372 ∧ P (some (.int (μ3 26 0 0 j12))) (up (up μ3 26 0 0 j13 (nI 1)) 26 0 0 j14 (nI 0))) ∧ (x2 = true → ∃ j15 : Nat, (nI 132 + nI 8 * x1) + (nI 4) = nI j15 ∧ j15 < 372 ∧ ∃ j16 : Nat, (nI 132 + nI 8 * x1) + (nI 6) = nI j16 ∧ j16 < 372 ∧ P (some (.int (μ3 26 0 0 j12))) (up (up μ3 26 0 0 j15 (nI 0)) 26 0 0 j16 (nI 0))))) noX) ∧ (¬ nI 2 ≤ 0 → P (some (.int (nI 0))) (up μ 10 0 0 6 (nI 2))))))))) ∧ (mix μ 4 x1 = false → ((nI 1 ≤ 0 → Con G mX8_keep [.ref (zad G.1 10 0 0)] (up μ 10 0 0 6 (nI 1)) (fun v μ4 => v = none ∧ ∃ j17 : Nat, (nI 132 + nI 8 * x1) + (nI 4) = nI j17 ∧ j17 < 372 ∧ ((x2 = false → ∃ j18 : Nat, (nI 132 + nI 8 * x1) + (nI 4) = nI j18 ∧ j18 < 372 ∧ ∃ j19 : Nat, (nI 132 + nI 8 * x1) + (nI 6) = nI j19 ∧ j19 < 372 ∧ P (some (.int (μ4 26 0 0 j17))) (up (up μ4 26 0 0 j18 (nI 1)) 26 0 0 j19 (nI 0))) ∧ (x2 = true → ∃ j20 : Nat, (nI 132 + nI 8 * x1) + (nI 4) = nI j20 ∧ j20 < 372 ∧ ∃ j21 : Nat, (nI 132 + nI 8 * x1) + (nI 6) = nI j21 ∧ j21 < 372 ∧ P (some (.int (μ4 26 0 0 j17))) (up (up μ4 26 0 0 j20 (nI 0)) 26 0 0 j21 (nI 0))))) noX) ∧ (¬ nI 1 ≤ 0 → P (some (.int (nI 0))) (up μ 10 0 0 6 (nI 1))))))) :
    Con G mX8_open [.ref (zad G.1 10 0 0), .int x1, .int (bI x2)] μ P X := by
  refine con_of pn_X8 rfl (Nat.le_of_ble_eq_true rfl) ?_
  show VL G mX8_open P X 0 [(0, .ref (zad G.1 10 0 0)), (1, .int x1), (2, .int (bI x2))] [] μ
  refine v_aload_n (n := 1) dX8_open_0 rfl rfl ?_
  refine v_aload_n (n := 2) dX8_open_1 rfl rfl ?_
  refine v_iload_n (n := 3) dX8_open_2 rfl rfl ?_
  refine v_callV (n := 6) (k := 10) (b := 0) (i := 0) (As := [.int x1]) (rest := [.ref (zad G.1 10 0 0)]) dX8_open_3 rfl lk_X8_81 rfl rfl (Nat.le_of_ble_eq_true rfl) ⟨Nat.le_of_ble_eq_true rfl, Nat.le_of_ble_eq_true rfl, Nat.le_of_ble_eq_true rfl, Nat.le_of_ble_eq_true rfl⟩ zokc_10 (s_X8_isPiste G x1 μ) (fun v μ9 hp => ?_) (fun _ _ hp => False.elim hp)
  rw [hp.1, hp.2]
  refine v_norm (st' := [.int (bI (mix μ 4 x1)), .ref (zad G.1 10 0 0)]) (cells' := 0) (slots' := 0) rfl rfl rfl ?_
  refine v_if_ne (n := 9) (t := 13) dX8_open_6 rfl (by decide) (fun hq => ?_) (fun hq => ?_)
  · replace h := h.1 (bI_nf hq)
    refine v_iload_n (n := 14) dX8_open_13 rfl rfl ?_
    refine v_if_eq (n := 17) (t := 37) dX8_open_14 rfl (by decide) (fun hq => ?_) (fun hq => ?_)
    · replace h := h.1 (bI_f hq)
      refine v_iconst (n := 38) (x := nI 0) dX8_open_37 rfl (by decide) ?_
      refine v_putf (n := 41) dX8_open_38 rfl fw_X8_41 zokc_10 (fun _ => rfl) rfl rfl ?_
      refine v_aload_n (n := 42) dX8_open_41 rfl rfl ?_
      refine v_getf (n := 45) dX8_open_42 rfl fl_X8_41 zokc_10 (congrArg Value.int (up_self _ _ _ _ _ _)) ?_
      refine v_if_le (n := 48) (t := 50) dX8_open_45 rfl (by decide) (fun hq => ?_) (fun hq => ?_)
      · replace h := h.1 hq
        refine v_aload_n (n := 51) dX8_open_50 rfl rfl ?_
        refine v_callV (n := 54) (k := 10) (b := 0) (i := 0) (As := []) (rest := []) dX8_open_51 rfl lk_X8_65 rfl rfl (Nat.le_of_ble_eq_true rfl) ⟨Nat.le_of_ble_eq_true rfl, Nat.le_of_ble_eq_true rfl, Nat.le_of_ble_eq_true rfl, Nat.le_of_ble_eq_true rfl⟩ zokc_10 h (fun v μ1 h => ?_) (fun _ _ hp => False.elim hp)
        obtain ⟨rfl, h⟩ := h
        refine v_norm (st' := []) (cells' := 0) (slots' := 0) rfl rfl rfl ?_
        refine v_iload_n (n := 55) dX8_open_54 rfl rfl ?_
        refine v_callS (n := 58) (As := [.int x1]) (rest := []) dX8_open_55 rfl lk_X8_68 rfl rfl (Nat.le_of_ble_eq_true rfl) ⟨Nat.le_of_ble_eq_true rfl, Nat.le_of_ble_eq_true rfl, Nat.le_of_ble_eq_true rfl, Nat.le_of_ble_eq_true rfl⟩ (s_X8_piste0 G x1 μ1) (fun v μ9 hp => ?_) (fun _ _ hp => False.elim hp)
        rw [hp.1, hp.2]
        refine v_norm (st' := [.int (nI 132 + nI 8 * x1)]) (cells' := 0) (slots' := 0) rfl rfl rfl ?_
        refine v_istore_n (n := 59) (L' := [(0, .ref (zad G.1 10 0 0)), (1, .int x1), (2, .int (bI x2)), (3, .int (nI 132 + nI 8 * x1))]) dX8_open_58 rfl (by decide) rfl ?_
        refine v_aload_n (n := 60) dX8_open_59 rfl rfl ?_
        refine v_getf (n := 63) dX8_open_60 rfl fl_X8_9 zokc_10 rfl ?_
        refine v_iload_n (n := 64) dX8_open_63 rfl rfl ?_
        refine v_iconst (n := 65) (x := nI 4) dX8_open_64 rfl (by decide) ?_
        refine v_iadd (n := 66) dX8_open_65 rfl ?_
        obtain ⟨j1, ej1, hj1, h⟩ := h
        refine v_iald (n := 67) (j := j1) dX8_open_66 rfl zokc_26 (by decide) rfl ej1 hj1 (rfl) ?_
        refine v_istore (n := 69) (L' := [(0, .ref (zad G.1 10 0 0)), (1, .int x1), (2, .int (bI x2)), (3, .int (nI 132 + nI 8 * x1)), (4, .int (μ1 26 0 0 j1))]) dX8_open_67 rfl (by decide) rfl ?_
        refine v_aload_n (n := 70) dX8_open_69 rfl rfl ?_
        refine v_getf (n := 73) dX8_open_70 rfl fl_X8_9 zokc_10 rfl ?_
        refine v_iload_n (n := 74) dX8_open_73 rfl rfl ?_
        refine v_iconst (n := 75) (x := nI 4) dX8_open_74 rfl (by decide) ?_
        refine v_iadd (n := 76) dX8_open_75 rfl ?_
        refine v_iload_n (n := 77) dX8_open_76 rfl rfl ?_
        refine v_if_eq (n := 80) (t := 84) dX8_open_77 rfl (by decide) (fun hq => ?_) (fun hq => ?_)
        · replace h := h.1 (bI_f hq)
          refine v_iconst (n := 85) (x := nI 1) dX8_open_84 rfl (by decide) ?_
          obtain ⟨j2, ej2, hj2, h⟩ := h
          refine v_iast (n := 86) (j := j2) dX8_open_85 rfl zokc_26 (by decide) (by decide) rfl ej2 hj2 (fun _ => rfl) ?_
          refine v_aload_n (n := 87) dX8_open_86 rfl rfl ?_
          refine v_getf (n := 90) dX8_open_87 rfl fl_X8_9 zokc_10 rfl ?_
          refine v_iload_n (n := 91) dX8_open_90 rfl rfl ?_
          refine v_bipush (n := 93) (x := nI 6) dX8_open_91 rfl (by decide) ?_
          refine v_iadd (n := 94) dX8_open_93 rfl ?_
          refine v_iconst (n := 95) (x := nI 0) dX8_open_94 rfl (by decide) ?_
          obtain ⟨j3, ej3, hj3, h⟩ := h
          refine v_iast (n := 96) (j := j3) dX8_open_95 rfl zokc_26 (by decide) (by decide) rfl ej3 hj3 (fun _ => rfl) ?_
          refine v_iload (n := 98) dX8_open_96 rfl rfl ?_
          exact v_iret dX8_open_98 rfl (Nat.le_of_ble_eq_true rfl) (Nat.le_of_ble_eq_true rfl) h
        · replace h := h.2 (bI_nf hq)
          refine v_iconst (n := 81) (x := nI 0) dX8_open_80 rfl (by decide) ?_
          refine v_goto (n := 85) dX8_open_81 (by decide) ?_
          obtain ⟨j4, ej4, hj4, h⟩ := h
          refine v_iast (n := 86) (j := j4) dX8_open_85 rfl zokc_26 (by decide) (by decide) rfl ej4 hj4 (fun _ => rfl) ?_
          refine v_aload_n (n := 87) dX8_open_86 rfl rfl ?_
          refine v_getf (n := 90) dX8_open_87 rfl fl_X8_9 zokc_10 rfl ?_
          refine v_iload_n (n := 91) dX8_open_90 rfl rfl ?_
          refine v_bipush (n := 93) (x := nI 6) dX8_open_91 rfl (by decide) ?_
          refine v_iadd (n := 94) dX8_open_93 rfl ?_
          refine v_iconst (n := 95) (x := nI 0) dX8_open_94 rfl (by decide) ?_
          obtain ⟨j5, ej5, hj5, h⟩ := h
          refine v_iast (n := 96) (j := j5) dX8_open_95 rfl zokc_26 (by decide) (by decide) rfl ej5 hj5 (fun _ => rfl) ?_
          refine v_iload (n := 98) dX8_open_96 rfl rfl ?_
          exact v_iret dX8_open_98 rfl (Nat.le_of_ble_eq_true rfl) (Nat.le_of_ble_eq_true rfl) h
      · replace h := h.2 hq
        refine v_iconst (n := 49) (x := nI 0) dX8_open_48 rfl (by decide) ?_
        exact v_iret dX8_open_49 rfl (Nat.le_of_ble_eq_true rfl) (Nat.le_of_ble_eq_true rfl) h
    · replace h := h.2 (bI_nf hq)
      refine v_aload_n (n := 18) dX8_open_17 rfl rfl ?_
      refine v_getf (n := 21) dX8_open_18 rfl fl_X8_9 zokc_10 rfl ?_
      refine v_iload_n (n := 22) dX8_open_21 rfl rfl ?_
      refine v_callS (n := 25) (As := [.int x1]) (rest := [.ref (zad G.1 26 0 0), .ref (zad G.1 10 0 0)]) dX8_open_22 rfl lk_X8_68 rfl rfl (Nat.le_of_ble_eq_true rfl) ⟨Nat.le_of_ble_eq_true rfl, Nat.le_of_ble_eq_true rfl, Nat.le_of_ble_eq_true rfl, Nat.le_of_ble_eq_true rfl⟩ (s_X8_piste0 G x1 μ) (fun v μ9 hp => ?_) (fun _ _ hp => False.elim hp)
      rw [hp.1, hp.2]
      refine v_norm (st' := [.int (nI 132 + nI 8 * x1), .ref (zad G.1 26 0 0), .ref (zad G.1 10 0 0)]) (cells' := 0) (slots' := 0) rfl rfl rfl ?_
      refine v_iconst (n := 26) (x := nI 5) dX8_open_25 rfl (by decide) ?_
      refine v_iadd (n := 27) dX8_open_26 rfl ?_
      obtain ⟨j6, ej6, hj6, h⟩ := h
      refine v_iald (n := 28) (j := j6) dX8_open_27 rfl zokc_26 (by decide) rfl ej6 hj6 (rfl) ?_
      refine v_bipush (n := 30) (x := nI 20) dX8_open_28 rfl (by decide) ?_
      refine v_icmp_lt (n := 33) (t := 37) dX8_open_30 rfl (by decide) (fun hq => ?_) (fun hq => ?_)
      · replace h := h.1 hq
        refine v_iconst (n := 38) (x := nI 0) dX8_open_37 rfl (by decide) ?_
        refine v_putf (n := 41) dX8_open_38 rfl fw_X8_41 zokc_10 (fun _ => rfl) rfl rfl ?_
        refine v_aload_n (n := 42) dX8_open_41 rfl rfl ?_
        refine v_getf (n := 45) dX8_open_42 rfl fl_X8_41 zokc_10 (congrArg Value.int (up_self _ _ _ _ _ _)) ?_
        refine v_if_le (n := 48) (t := 50) dX8_open_45 rfl (by decide) (fun hq => ?_) (fun hq => ?_)
        · replace h := h.1 hq
          refine v_aload_n (n := 51) dX8_open_50 rfl rfl ?_
          refine v_callV (n := 54) (k := 10) (b := 0) (i := 0) (As := []) (rest := []) dX8_open_51 rfl lk_X8_65 rfl rfl (Nat.le_of_ble_eq_true rfl) ⟨Nat.le_of_ble_eq_true rfl, Nat.le_of_ble_eq_true rfl, Nat.le_of_ble_eq_true rfl, Nat.le_of_ble_eq_true rfl⟩ zokc_10 h (fun v μ2 h => ?_) (fun _ _ hp => False.elim hp)
          obtain ⟨rfl, h⟩ := h
          refine v_norm (st' := []) (cells' := 0) (slots' := 0) rfl rfl rfl ?_
          refine v_iload_n (n := 55) dX8_open_54 rfl rfl ?_
          refine v_callS (n := 58) (As := [.int x1]) (rest := []) dX8_open_55 rfl lk_X8_68 rfl rfl (Nat.le_of_ble_eq_true rfl) ⟨Nat.le_of_ble_eq_true rfl, Nat.le_of_ble_eq_true rfl, Nat.le_of_ble_eq_true rfl, Nat.le_of_ble_eq_true rfl⟩ (s_X8_piste0 G x1 μ2) (fun v μ9 hp => ?_) (fun _ _ hp => False.elim hp)
          rw [hp.1, hp.2]
          refine v_norm (st' := [.int (nI 132 + nI 8 * x1)]) (cells' := 0) (slots' := 0) rfl rfl rfl ?_
          refine v_istore_n (n := 59) (L' := [(0, .ref (zad G.1 10 0 0)), (1, .int x1), (2, .int (bI x2)), (3, .int (nI 132 + nI 8 * x1))]) dX8_open_58 rfl (by decide) rfl ?_
          refine v_aload_n (n := 60) dX8_open_59 rfl rfl ?_
          refine v_getf (n := 63) dX8_open_60 rfl fl_X8_9 zokc_10 rfl ?_
          refine v_iload_n (n := 64) dX8_open_63 rfl rfl ?_
          refine v_iconst (n := 65) (x := nI 4) dX8_open_64 rfl (by decide) ?_
          refine v_iadd (n := 66) dX8_open_65 rfl ?_
          obtain ⟨j7, ej7, hj7, h⟩ := h
          refine v_iald (n := 67) (j := j7) dX8_open_66 rfl zokc_26 (by decide) rfl ej7 hj7 (rfl) ?_
          refine v_istore (n := 69) (L' := [(0, .ref (zad G.1 10 0 0)), (1, .int x1), (2, .int (bI x2)), (3, .int (nI 132 + nI 8 * x1)), (4, .int (μ2 26 0 0 j7))]) dX8_open_67 rfl (by decide) rfl ?_
          refine v_aload_n (n := 70) dX8_open_69 rfl rfl ?_
          refine v_getf (n := 73) dX8_open_70 rfl fl_X8_9 zokc_10 rfl ?_
          refine v_iload_n (n := 74) dX8_open_73 rfl rfl ?_
          refine v_iconst (n := 75) (x := nI 4) dX8_open_74 rfl (by decide) ?_
          refine v_iadd (n := 76) dX8_open_75 rfl ?_
          refine v_iload_n (n := 77) dX8_open_76 rfl rfl ?_
          refine v_if_eq (n := 80) (t := 84) dX8_open_77 rfl (by decide) (fun hq => ?_) (fun hq => ?_)
          · replace h := h.1 (bI_f hq)
            refine v_iconst (n := 85) (x := nI 1) dX8_open_84 rfl (by decide) ?_
            obtain ⟨j8, ej8, hj8, h⟩ := h
            refine v_iast (n := 86) (j := j8) dX8_open_85 rfl zokc_26 (by decide) (by decide) rfl ej8 hj8 (fun _ => rfl) ?_
            refine v_aload_n (n := 87) dX8_open_86 rfl rfl ?_
            refine v_getf (n := 90) dX8_open_87 rfl fl_X8_9 zokc_10 rfl ?_
            refine v_iload_n (n := 91) dX8_open_90 rfl rfl ?_
            refine v_bipush (n := 93) (x := nI 6) dX8_open_91 rfl (by decide) ?_
            refine v_iadd (n := 94) dX8_open_93 rfl ?_
            refine v_iconst (n := 95) (x := nI 0) dX8_open_94 rfl (by decide) ?_
            obtain ⟨j9, ej9, hj9, h⟩ := h
            refine v_iast (n := 96) (j := j9) dX8_open_95 rfl zokc_26 (by decide) (by decide) rfl ej9 hj9 (fun _ => rfl) ?_
            refine v_iload (n := 98) dX8_open_96 rfl rfl ?_
            exact v_iret dX8_open_98 rfl (Nat.le_of_ble_eq_true rfl) (Nat.le_of_ble_eq_true rfl) h
          · replace h := h.2 (bI_nf hq)
            refine v_iconst (n := 81) (x := nI 0) dX8_open_80 rfl (by decide) ?_
            refine v_goto (n := 85) dX8_open_81 (by decide) ?_
            obtain ⟨j10, ej10, hj10, h⟩ := h
            refine v_iast (n := 86) (j := j10) dX8_open_85 rfl zokc_26 (by decide) (by decide) rfl ej10 hj10 (fun _ => rfl) ?_
            refine v_aload_n (n := 87) dX8_open_86 rfl rfl ?_
            refine v_getf (n := 90) dX8_open_87 rfl fl_X8_9 zokc_10 rfl ?_
            refine v_iload_n (n := 91) dX8_open_90 rfl rfl ?_
            refine v_bipush (n := 93) (x := nI 6) dX8_open_91 rfl (by decide) ?_
            refine v_iadd (n := 94) dX8_open_93 rfl ?_
            refine v_iconst (n := 95) (x := nI 0) dX8_open_94 rfl (by decide) ?_
            obtain ⟨j11, ej11, hj11, h⟩ := h
            refine v_iast (n := 96) (j := j11) dX8_open_95 rfl zokc_26 (by decide) (by decide) rfl ej11 hj11 (fun _ => rfl) ?_
            refine v_iload (n := 98) dX8_open_96 rfl rfl ?_
            exact v_iret dX8_open_98 rfl (Nat.le_of_ble_eq_true rfl) (Nat.le_of_ble_eq_true rfl) h
        · replace h := h.2 hq
          refine v_iconst (n := 49) (x := nI 0) dX8_open_48 rfl (by decide) ?_
          exact v_iret dX8_open_49 rfl (Nat.le_of_ble_eq_true rfl) (Nat.le_of_ble_eq_true rfl) h
      · replace h := h.2 hq
        refine v_iconst (n := 34) (x := nI 2) dX8_open_33 rfl (by decide) ?_
        refine v_goto (n := 38) dX8_open_34 (by decide) ?_
        refine v_putf (n := 41) dX8_open_38 rfl fw_X8_41 zokc_10 (fun _ => rfl) rfl rfl ?_
        refine v_aload_n (n := 42) dX8_open_41 rfl rfl ?_
        refine v_getf (n := 45) dX8_open_42 rfl fl_X8_41 zokc_10 (congrArg Value.int (up_self _ _ _ _ _ _)) ?_
        refine v_if_le (n := 48) (t := 50) dX8_open_45 rfl (by decide) (fun hq => ?_) (fun hq => ?_)
        · replace h := h.1 hq
          refine v_aload_n (n := 51) dX8_open_50 rfl rfl ?_
          refine v_callV (n := 54) (k := 10) (b := 0) (i := 0) (As := []) (rest := []) dX8_open_51 rfl lk_X8_65 rfl rfl (Nat.le_of_ble_eq_true rfl) ⟨Nat.le_of_ble_eq_true rfl, Nat.le_of_ble_eq_true rfl, Nat.le_of_ble_eq_true rfl, Nat.le_of_ble_eq_true rfl⟩ zokc_10 h (fun v μ3 h => ?_) (fun _ _ hp => False.elim hp)
          obtain ⟨rfl, h⟩ := h
          refine v_norm (st' := []) (cells' := 0) (slots' := 0) rfl rfl rfl ?_
          refine v_iload_n (n := 55) dX8_open_54 rfl rfl ?_
          refine v_callS (n := 58) (As := [.int x1]) (rest := []) dX8_open_55 rfl lk_X8_68 rfl rfl (Nat.le_of_ble_eq_true rfl) ⟨Nat.le_of_ble_eq_true rfl, Nat.le_of_ble_eq_true rfl, Nat.le_of_ble_eq_true rfl, Nat.le_of_ble_eq_true rfl⟩ (s_X8_piste0 G x1 μ3) (fun v μ9 hp => ?_) (fun _ _ hp => False.elim hp)
          rw [hp.1, hp.2]
          refine v_norm (st' := [.int (nI 132 + nI 8 * x1)]) (cells' := 0) (slots' := 0) rfl rfl rfl ?_
          refine v_istore_n (n := 59) (L' := [(0, .ref (zad G.1 10 0 0)), (1, .int x1), (2, .int (bI x2)), (3, .int (nI 132 + nI 8 * x1))]) dX8_open_58 rfl (by decide) rfl ?_
          refine v_aload_n (n := 60) dX8_open_59 rfl rfl ?_
          refine v_getf (n := 63) dX8_open_60 rfl fl_X8_9 zokc_10 rfl ?_
          refine v_iload_n (n := 64) dX8_open_63 rfl rfl ?_
          refine v_iconst (n := 65) (x := nI 4) dX8_open_64 rfl (by decide) ?_
          refine v_iadd (n := 66) dX8_open_65 rfl ?_
          obtain ⟨j12, ej12, hj12, h⟩ := h
          refine v_iald (n := 67) (j := j12) dX8_open_66 rfl zokc_26 (by decide) rfl ej12 hj12 (rfl) ?_
          refine v_istore (n := 69) (L' := [(0, .ref (zad G.1 10 0 0)), (1, .int x1), (2, .int (bI x2)), (3, .int (nI 132 + nI 8 * x1)), (4, .int (μ3 26 0 0 j12))]) dX8_open_67 rfl (by decide) rfl ?_
          refine v_aload_n (n := 70) dX8_open_69 rfl rfl ?_
          refine v_getf (n := 73) dX8_open_70 rfl fl_X8_9 zokc_10 rfl ?_
          refine v_iload_n (n := 74) dX8_open_73 rfl rfl ?_
          refine v_iconst (n := 75) (x := nI 4) dX8_open_74 rfl (by decide) ?_
          refine v_iadd (n := 76) dX8_open_75 rfl ?_
          refine v_iload_n (n := 77) dX8_open_76 rfl rfl ?_
          refine v_if_eq (n := 80) (t := 84) dX8_open_77 rfl (by decide) (fun hq => ?_) (fun hq => ?_)
          · replace h := h.1 (bI_f hq)
            refine v_iconst (n := 85) (x := nI 1) dX8_open_84 rfl (by decide) ?_
            obtain ⟨j13, ej13, hj13, h⟩ := h
            refine v_iast (n := 86) (j := j13) dX8_open_85 rfl zokc_26 (by decide) (by decide) rfl ej13 hj13 (fun _ => rfl) ?_
            refine v_aload_n (n := 87) dX8_open_86 rfl rfl ?_
            refine v_getf (n := 90) dX8_open_87 rfl fl_X8_9 zokc_10 rfl ?_
            refine v_iload_n (n := 91) dX8_open_90 rfl rfl ?_
            refine v_bipush (n := 93) (x := nI 6) dX8_open_91 rfl (by decide) ?_
            refine v_iadd (n := 94) dX8_open_93 rfl ?_
            refine v_iconst (n := 95) (x := nI 0) dX8_open_94 rfl (by decide) ?_
            obtain ⟨j14, ej14, hj14, h⟩ := h
            refine v_iast (n := 96) (j := j14) dX8_open_95 rfl zokc_26 (by decide) (by decide) rfl ej14 hj14 (fun _ => rfl) ?_
            refine v_iload (n := 98) dX8_open_96 rfl rfl ?_
            exact v_iret dX8_open_98 rfl (Nat.le_of_ble_eq_true rfl) (Nat.le_of_ble_eq_true rfl) h
          · replace h := h.2 (bI_nf hq)
            refine v_iconst (n := 81) (x := nI 0) dX8_open_80 rfl (by decide) ?_
            refine v_goto (n := 85) dX8_open_81 (by decide) ?_
            obtain ⟨j15, ej15, hj15, h⟩ := h
            refine v_iast (n := 86) (j := j15) dX8_open_85 rfl zokc_26 (by decide) (by decide) rfl ej15 hj15 (fun _ => rfl) ?_
            refine v_aload_n (n := 87) dX8_open_86 rfl rfl ?_
            refine v_getf (n := 90) dX8_open_87 rfl fl_X8_9 zokc_10 rfl ?_
            refine v_iload_n (n := 91) dX8_open_90 rfl rfl ?_
            refine v_bipush (n := 93) (x := nI 6) dX8_open_91 rfl (by decide) ?_
            refine v_iadd (n := 94) dX8_open_93 rfl ?_
            refine v_iconst (n := 95) (x := nI 0) dX8_open_94 rfl (by decide) ?_
            obtain ⟨j16, ej16, hj16, h⟩ := h
            refine v_iast (n := 96) (j := j16) dX8_open_95 rfl zokc_26 (by decide) (by decide) rfl ej16 hj16 (fun _ => rfl) ?_
            refine v_iload (n := 98) dX8_open_96 rfl rfl ?_
            exact v_iret dX8_open_98 rfl (Nat.le_of_ble_eq_true rfl) (Nat.le_of_ble_eq_true rfl) h
        · replace h := h.2 hq
          refine v_iconst (n := 49) (x := nI 0) dX8_open_48 rfl (by decide) ?_
          exact v_iret dX8_open_49 rfl (Nat.le_of_ble_eq_true rfl) (Nat.le_of_ble_eq_true rfl) h
  · replace h := h.2 (bI_f hq)
    refine v_iconst (n := 10) (x := nI 1) dX8_open_9 rfl (by decide) ?_
    refine v_goto (n := 38) dX8_open_10 (by decide) ?_
    refine v_putf (n := 41) dX8_open_38 rfl fw_X8_41 zokc_10 (fun _ => rfl) rfl rfl ?_
    refine v_aload_n (n := 42) dX8_open_41 rfl rfl ?_
    refine v_getf (n := 45) dX8_open_42 rfl fl_X8_41 zokc_10 (congrArg Value.int (up_self _ _ _ _ _ _)) ?_
    refine v_if_le (n := 48) (t := 50) dX8_open_45 rfl (by decide) (fun hq => ?_) (fun hq => ?_)
    · replace h := h.1 hq
      refine v_aload_n (n := 51) dX8_open_50 rfl rfl ?_
      refine v_callV (n := 54) (k := 10) (b := 0) (i := 0) (As := []) (rest := []) dX8_open_51 rfl lk_X8_65 rfl rfl (Nat.le_of_ble_eq_true rfl) ⟨Nat.le_of_ble_eq_true rfl, Nat.le_of_ble_eq_true rfl, Nat.le_of_ble_eq_true rfl, Nat.le_of_ble_eq_true rfl⟩ zokc_10 h (fun v μ4 h => ?_) (fun _ _ hp => False.elim hp)
      obtain ⟨rfl, h⟩ := h
      refine v_norm (st' := []) (cells' := 0) (slots' := 0) rfl rfl rfl ?_
      refine v_iload_n (n := 55) dX8_open_54 rfl rfl ?_
      refine v_callS (n := 58) (As := [.int x1]) (rest := []) dX8_open_55 rfl lk_X8_68 rfl rfl (Nat.le_of_ble_eq_true rfl) ⟨Nat.le_of_ble_eq_true rfl, Nat.le_of_ble_eq_true rfl, Nat.le_of_ble_eq_true rfl, Nat.le_of_ble_eq_true rfl⟩ (s_X8_piste0 G x1 μ4) (fun v μ9 hp => ?_) (fun _ _ hp => False.elim hp)
      rw [hp.1, hp.2]
      refine v_norm (st' := [.int (nI 132 + nI 8 * x1)]) (cells' := 0) (slots' := 0) rfl rfl rfl ?_
      refine v_istore_n (n := 59) (L' := [(0, .ref (zad G.1 10 0 0)), (1, .int x1), (2, .int (bI x2)), (3, .int (nI 132 + nI 8 * x1))]) dX8_open_58 rfl (by decide) rfl ?_
      refine v_aload_n (n := 60) dX8_open_59 rfl rfl ?_
      refine v_getf (n := 63) dX8_open_60 rfl fl_X8_9 zokc_10 rfl ?_
      refine v_iload_n (n := 64) dX8_open_63 rfl rfl ?_
      refine v_iconst (n := 65) (x := nI 4) dX8_open_64 rfl (by decide) ?_
      refine v_iadd (n := 66) dX8_open_65 rfl ?_
      obtain ⟨j17, ej17, hj17, h⟩ := h
      refine v_iald (n := 67) (j := j17) dX8_open_66 rfl zokc_26 (by decide) rfl ej17 hj17 (rfl) ?_
      refine v_istore (n := 69) (L' := [(0, .ref (zad G.1 10 0 0)), (1, .int x1), (2, .int (bI x2)), (3, .int (nI 132 + nI 8 * x1)), (4, .int (μ4 26 0 0 j17))]) dX8_open_67 rfl (by decide) rfl ?_
      refine v_aload_n (n := 70) dX8_open_69 rfl rfl ?_
      refine v_getf (n := 73) dX8_open_70 rfl fl_X8_9 zokc_10 rfl ?_
      refine v_iload_n (n := 74) dX8_open_73 rfl rfl ?_
      refine v_iconst (n := 75) (x := nI 4) dX8_open_74 rfl (by decide) ?_
      refine v_iadd (n := 76) dX8_open_75 rfl ?_
      refine v_iload_n (n := 77) dX8_open_76 rfl rfl ?_
      refine v_if_eq (n := 80) (t := 84) dX8_open_77 rfl (by decide) (fun hq => ?_) (fun hq => ?_)
      · replace h := h.1 (bI_f hq)
        refine v_iconst (n := 85) (x := nI 1) dX8_open_84 rfl (by decide) ?_
        obtain ⟨j18, ej18, hj18, h⟩ := h
        refine v_iast (n := 86) (j := j18) dX8_open_85 rfl zokc_26 (by decide) (by decide) rfl ej18 hj18 (fun _ => rfl) ?_
        refine v_aload_n (n := 87) dX8_open_86 rfl rfl ?_
        refine v_getf (n := 90) dX8_open_87 rfl fl_X8_9 zokc_10 rfl ?_
        refine v_iload_n (n := 91) dX8_open_90 rfl rfl ?_
        refine v_bipush (n := 93) (x := nI 6) dX8_open_91 rfl (by decide) ?_
        refine v_iadd (n := 94) dX8_open_93 rfl ?_
        refine v_iconst (n := 95) (x := nI 0) dX8_open_94 rfl (by decide) ?_
        obtain ⟨j19, ej19, hj19, h⟩ := h
        refine v_iast (n := 96) (j := j19) dX8_open_95 rfl zokc_26 (by decide) (by decide) rfl ej19 hj19 (fun _ => rfl) ?_
        refine v_iload (n := 98) dX8_open_96 rfl rfl ?_
        exact v_iret dX8_open_98 rfl (Nat.le_of_ble_eq_true rfl) (Nat.le_of_ble_eq_true rfl) h
      · replace h := h.2 (bI_nf hq)
        refine v_iconst (n := 81) (x := nI 0) dX8_open_80 rfl (by decide) ?_
        refine v_goto (n := 85) dX8_open_81 (by decide) ?_
        obtain ⟨j20, ej20, hj20, h⟩ := h
        refine v_iast (n := 86) (j := j20) dX8_open_85 rfl zokc_26 (by decide) (by decide) rfl ej20 hj20 (fun _ => rfl) ?_
        refine v_aload_n (n := 87) dX8_open_86 rfl rfl ?_
        refine v_getf (n := 90) dX8_open_87 rfl fl_X8_9 zokc_10 rfl ?_
        refine v_iload_n (n := 91) dX8_open_90 rfl rfl ?_
        refine v_bipush (n := 93) (x := nI 6) dX8_open_91 rfl (by decide) ?_
        refine v_iadd (n := 94) dX8_open_93 rfl ?_
        refine v_iconst (n := 95) (x := nI 0) dX8_open_94 rfl (by decide) ?_
        obtain ⟨j21, ej21, hj21, h⟩ := h
        refine v_iast (n := 96) (j := j21) dX8_open_95 rfl zokc_26 (by decide) (by decide) rfl ej21 hj21 (fun _ => rfl) ?_
        refine v_iload (n := 98) dX8_open_96 rfl rfl ?_
        exact v_iret dX8_open_98 rfl (Nat.le_of_ble_eq_true rfl) (Nat.le_of_ble_eq_true rfl) h
    · replace h := h.2 hq
      refine v_iconst (n := 49) (x := nI 0) dX8_open_48 rfl (by decide) ?_
      exact v_iret dX8_open_49 rfl (Nat.le_of_ble_eq_true rfl) (Nat.le_of_ble_eq_true rfl) h

set_option maxRecDepth 20000 in
set_option maxHeartbeats 4000000 in
theorem wX8_groom (G : Gl) {P : Option Value → St → Prop} {X : String → St → Prop} (x1 : Int32) (μ : St)
    (h : ((mix μ 4 x1 = true → ∃ j1 : Nat, (nI 132 + nI 8 * x1) + (nI 4) = nI j1 ∧ j1 < 372 ∧ ((μ 26 0 0 j1 = nI 1 → ((nI 0 ≤ 0 → Con G mX8_keep [.ref (zad G.1 10 0 0)] (up μ 10 0 0 6 (nI 0)) (fun v μ1 => v = none ∧ ∃ j2 : Nat, (nI 132 + nI 8 * x1) + (nI 4) = nI j2 ∧ j2 < 372 ∧ ∃ j3 : Nat, (nI 132 + nI 8 * x1) + (nI 5) = nI j3 ∧ j3 < 372 ∧ ∃ j4 : Nat, (nI 132 + nI 8 * x1) + (nI 6) = nI j4 ∧ j4 < 372 ∧ ∃ j5 : Nat, (nI 132 + nI 8 * x1) + (nI 6) = nI j5 ∧ j5 < 372 ∧ P (some (.int ((up (up μ1 26 0 0 j2 (nI 2)) 26 0 0 j4 ((nI 1) + (((up μ1 26 0 0 j2 (nI 2)) 26 0 0 j3) / (nI 5)))) 26 0 0 j5))) (up (up μ1 26 0 0 j2 (nI 2)) 26 0 0 j4 ((nI 1) + (((up μ1 26 0 0 j2 (nI 2)) 26 0 0 j3) / (nI 5))))) noX) ∧ (¬ nI 0 ≤ 0 → P (some (.int (nI 0))) (up μ 10 0 0 6 (nI 0))))) ∧ (¬ μ 26 0 0 j1 = nI 1 → ((nI 2 ≤ 0 → Con G mX8_keep [.ref (zad G.1 10 0 0)] (up μ 10 0 0 6 (nI 2)) (fun v μ2 => v = none ∧ ∃ j6 : Nat, (nI 132 + nI 8 * x1) + (nI 4) = nI j6 ∧ j6 < 372 ∧ ∃ j7 : Nat, (nI 132 + nI 8 * x1) + (nI 5) = nI j7 ∧ j7 < 372 ∧ ∃ j8 : Nat, (nI 132 + nI 8 * x1) + (nI 6) = nI j8 ∧ j8 < 372 ∧ ∃ j9 : Nat, (nI 132 + nI 8 * x1) + (nI 6) = nI j9 ∧ j9 < 372 ∧ P (some (.int ((up (up μ2 26 0 0 j6 (nI 2)) 26 0 0 j8 ((nI 1) + (((up μ2 26 0 0 j6 (nI 2)) 26 0 0 j7) / (nI 5)))) 26 0 0 j9))) (up (up μ2 26 0 0 j6 (nI 2)) 26 0 0 j8 ((nI 1) + (((up μ2 26 0 0 j6 (nI 2)) 26 0 0 j7) / (nI 5))))) noX) ∧ (¬ nI 2 ≤ 0 → P (some (.int (nI 0))) (up μ 10 0 0 6 (nI 2))))))) ∧ (mix μ 4 x1 = false → ((nI 1 ≤ 0 → Con G mX8_keep [.ref (zad G.1 10 0 0)] (up μ 10 0 0 6 (nI 1)) (fun v μ3 => v = none ∧ ∃ j10 : Nat, (nI 132 + nI 8 * x1) + (nI 4) = nI j10 ∧ j10 < 372 ∧ ∃ j11 : Nat, (nI 132 + nI 8 * x1) + (nI 5) = nI j11 ∧ j11 < 372 ∧ ∃ j12 : Nat, (nI 132 + nI 8 * x1) + (nI 6) = nI j12 ∧ j12 < 372 ∧ ∃ j13 : Nat, (nI 132 + nI 8 * x1) + (nI 6) = nI j13 ∧ j13 < 372 ∧ P (some (.int ((up (up μ3 26 0 0 j10 (nI 2)) 26 0 0 j12 ((nI 1) + (((up μ3 26 0 0 j10 (nI 2)) 26 0 0 j11) / (nI 5)))) 26 0 0 j13))) (up (up μ3 26 0 0 j10 (nI 2)) 26 0 0 j12 ((nI 1) + (((up μ3 26 0 0 j10 (nI 2)) 26 0 0 j11) / (nI 5))))) noX) ∧ (¬ nI 1 ≤ 0 → P (some (.int (nI 0))) (up μ 10 0 0 6 (nI 1))))))) :
    Con G mX8_groom [.ref (zad G.1 10 0 0), .int x1] μ P X := by
  refine con_of pn_X8 rfl (Nat.le_of_ble_eq_true rfl) ?_
  show VL G mX8_groom P X 0 [(0, .ref (zad G.1 10 0 0)), (1, .int x1)] [] μ
  refine v_aload_n (n := 1) dX8_groom_0 rfl rfl ?_
  refine v_aload_n (n := 2) dX8_groom_1 rfl rfl ?_
  refine v_iload_n (n := 3) dX8_groom_2 rfl rfl ?_
  refine v_callV (n := 6) (k := 10) (b := 0) (i := 0) (As := [.int x1]) (rest := [.ref (zad G.1 10 0 0)]) dX8_groom_3 rfl lk_X8_81 rfl rfl (Nat.le_of_ble_eq_true rfl) ⟨Nat.le_of_ble_eq_true rfl, Nat.le_of_ble_eq_true rfl, Nat.le_of_ble_eq_true rfl, Nat.le_of_ble_eq_true rfl⟩ zokc_10 (s_X8_isPiste G x1 μ) (fun v μ9 hp => ?_) (fun _ _ hp => False.elim hp)
  rw [hp.1, hp.2]
  refine v_norm (st' := [.int (bI (mix μ 4 x1)), .ref (zad G.1 10 0 0)]) (cells' := 0) (slots' := 0) rfl rfl rfl ?_
  refine v_if_ne (n := 9) (t := 13) dX8_groom_6 rfl (by decide) (fun hq => ?_) (fun hq => ?_)
  · replace h := h.1 (bI_nf hq)
    refine v_aload_n (n := 14) dX8_groom_13 rfl rfl ?_
    refine v_getf (n := 17) dX8_groom_14 rfl fl_X8_9 zokc_10 rfl ?_
    refine v_iload_n (n := 18) dX8_groom_17 rfl rfl ?_
    refine v_callS (n := 21) (As := [.int x1]) (rest := [.ref (zad G.1 26 0 0), .ref (zad G.1 10 0 0)]) dX8_groom_18 rfl lk_X8_68 rfl rfl (Nat.le_of_ble_eq_true rfl) ⟨Nat.le_of_ble_eq_true rfl, Nat.le_of_ble_eq_true rfl, Nat.le_of_ble_eq_true rfl, Nat.le_of_ble_eq_true rfl⟩ (s_X8_piste0 G x1 μ) (fun v μ9 hp => ?_) (fun _ _ hp => False.elim hp)
    rw [hp.1, hp.2]
    refine v_norm (st' := [.int (nI 132 + nI 8 * x1), .ref (zad G.1 26 0 0), .ref (zad G.1 10 0 0)]) (cells' := 0) (slots' := 0) rfl rfl rfl ?_
    refine v_iconst (n := 22) (x := nI 4) dX8_groom_21 rfl (by decide) ?_
    refine v_iadd (n := 23) dX8_groom_22 rfl ?_
    obtain ⟨j1, ej1, hj1, h⟩ := h
    refine v_iald (n := 24) (j := j1) dX8_groom_23 rfl zokc_26 (by decide) rfl ej1 hj1 (rfl) ?_
    refine v_iconst (n := 25) (x := nI 1) dX8_groom_24 rfl (by decide) ?_
    refine v_icmp_eq (n := 28) (t := 32) dX8_groom_25 rfl (by decide) (fun hq => ?_) (fun hq => ?_)
    · replace h := h.1 hq
      refine v_iconst (n := 33) (x := nI 0) dX8_groom_32 rfl (by decide) ?_
      refine v_putf (n := 36) dX8_groom_33 rfl fw_X8_41 zokc_10 (fun _ => rfl) rfl rfl ?_
      refine v_aload_n (n := 37) dX8_groom_36 rfl rfl ?_
      refine v_getf (n := 40) dX8_groom_37 rfl fl_X8_41 zokc_10 (congrArg Value.int (up_self _ _ _ _ _ _)) ?_
      refine v_if_le (n := 43) (t := 45) dX8_groom_40 rfl (by decide) (fun hq => ?_) (fun hq => ?_)
      · replace h := h.1 hq
        refine v_aload_n (n := 46) dX8_groom_45 rfl rfl ?_
        refine v_callV (n := 49) (k := 10) (b := 0) (i := 0) (As := []) (rest := []) dX8_groom_46 rfl lk_X8_65 rfl rfl (Nat.le_of_ble_eq_true rfl) ⟨Nat.le_of_ble_eq_true rfl, Nat.le_of_ble_eq_true rfl, Nat.le_of_ble_eq_true rfl, Nat.le_of_ble_eq_true rfl⟩ zokc_10 h (fun v μ1 h => ?_) (fun _ _ hp => False.elim hp)
        obtain ⟨rfl, h⟩ := h
        refine v_norm (st' := []) (cells' := 0) (slots' := 0) rfl rfl rfl ?_
        refine v_iload_n (n := 50) dX8_groom_49 rfl rfl ?_
        refine v_callS (n := 53) (As := [.int x1]) (rest := []) dX8_groom_50 rfl lk_X8_68 rfl rfl (Nat.le_of_ble_eq_true rfl) ⟨Nat.le_of_ble_eq_true rfl, Nat.le_of_ble_eq_true rfl, Nat.le_of_ble_eq_true rfl, Nat.le_of_ble_eq_true rfl⟩ (s_X8_piste0 G x1 μ1) (fun v μ9 hp => ?_) (fun _ _ hp => False.elim hp)
        rw [hp.1, hp.2]
        refine v_norm (st' := [.int (nI 132 + nI 8 * x1)]) (cells' := 0) (slots' := 0) rfl rfl rfl ?_
        refine v_istore_n (n := 54) (L' := [(0, .ref (zad G.1 10 0 0)), (1, .int x1), (2, .int (nI 132 + nI 8 * x1))]) dX8_groom_53 rfl (by decide) rfl ?_
        refine v_aload_n (n := 55) dX8_groom_54 rfl rfl ?_
        refine v_getf (n := 58) dX8_groom_55 rfl fl_X8_9 zokc_10 rfl ?_
        refine v_iload_n (n := 59) dX8_groom_58 rfl rfl ?_
        refine v_iconst (n := 60) (x := nI 4) dX8_groom_59 rfl (by decide) ?_
        refine v_iadd (n := 61) dX8_groom_60 rfl ?_
        refine v_iconst (n := 62) (x := nI 2) dX8_groom_61 rfl (by decide) ?_
        obtain ⟨j2, ej2, hj2, h⟩ := h
        refine v_iast (n := 63) (j := j2) dX8_groom_62 rfl zokc_26 (by decide) (by decide) rfl ej2 hj2 (fun _ => rfl) ?_
        refine v_aload_n (n := 64) dX8_groom_63 rfl rfl ?_
        refine v_getf (n := 67) dX8_groom_64 rfl fl_X8_9 zokc_10 rfl ?_
        refine v_iload_n (n := 68) dX8_groom_67 rfl rfl ?_
        refine v_bipush (n := 70) (x := nI 6) dX8_groom_68 rfl (by decide) ?_
        refine v_iadd (n := 71) dX8_groom_70 rfl ?_
        refine v_iconst (n := 72) (x := nI 1) dX8_groom_71 rfl (by decide) ?_
        refine v_aload_n (n := 73) dX8_groom_72 rfl rfl ?_
        refine v_getf (n := 76) dX8_groom_73 rfl fl_X8_9 zokc_10 rfl ?_
        refine v_iload_n (n := 77) dX8_groom_76 rfl rfl ?_
        refine v_iconst (n := 78) (x := nI 5) dX8_groom_77 rfl (by decide) ?_
        refine v_iadd (n := 79) dX8_groom_78 rfl ?_
        obtain ⟨j3, ej3, hj3, h⟩ := h
        refine v_iald (n := 80) (j := j3) dX8_groom_79 rfl zokc_26 (by decide) rfl ej3 hj3 (rfl) ?_
        refine v_iconst (n := 81) (x := nI 5) dX8_groom_80 rfl (by decide) ?_
        refine v_idiv (n := 82) dX8_groom_81 rfl (by decide) ?_
        refine v_iadd (n := 83) dX8_groom_82 rfl ?_
        obtain ⟨j4, ej4, hj4, h⟩ := h
        refine v_iast (n := 84) (j := j4) dX8_groom_83 rfl zokc_26 (by decide) (by decide) rfl ej4 hj4 (fun _ => rfl) ?_
        refine v_aload_n (n := 85) dX8_groom_84 rfl rfl ?_
        refine v_getf (n := 88) dX8_groom_85 rfl fl_X8_9 zokc_10 rfl ?_
        refine v_iload_n (n := 89) dX8_groom_88 rfl rfl ?_
        refine v_bipush (n := 91) (x := nI 6) dX8_groom_89 rfl (by decide) ?_
        refine v_iadd (n := 92) dX8_groom_91 rfl ?_
        obtain ⟨j5, ej5, hj5, h⟩ := h
        refine v_iald (n := 93) (j := j5) dX8_groom_92 rfl zokc_26 (by decide) rfl ej5 hj5 (rfl) ?_
        exact v_iret dX8_groom_93 rfl (Nat.le_of_ble_eq_true rfl) (Nat.le_of_ble_eq_true rfl) h
      · replace h := h.2 hq
        refine v_iconst (n := 44) (x := nI 0) dX8_groom_43 rfl (by decide) ?_
        exact v_iret dX8_groom_44 rfl (Nat.le_of_ble_eq_true rfl) (Nat.le_of_ble_eq_true rfl) h
    · replace h := h.2 hq
      refine v_iconst (n := 29) (x := nI 2) dX8_groom_28 rfl (by decide) ?_
      refine v_goto (n := 33) dX8_groom_29 (by decide) ?_
      refine v_putf (n := 36) dX8_groom_33 rfl fw_X8_41 zokc_10 (fun _ => rfl) rfl rfl ?_
      refine v_aload_n (n := 37) dX8_groom_36 rfl rfl ?_
      refine v_getf (n := 40) dX8_groom_37 rfl fl_X8_41 zokc_10 (congrArg Value.int (up_self _ _ _ _ _ _)) ?_
      refine v_if_le (n := 43) (t := 45) dX8_groom_40 rfl (by decide) (fun hq => ?_) (fun hq => ?_)
      · replace h := h.1 hq
        refine v_aload_n (n := 46) dX8_groom_45 rfl rfl ?_
        refine v_callV (n := 49) (k := 10) (b := 0) (i := 0) (As := []) (rest := []) dX8_groom_46 rfl lk_X8_65 rfl rfl (Nat.le_of_ble_eq_true rfl) ⟨Nat.le_of_ble_eq_true rfl, Nat.le_of_ble_eq_true rfl, Nat.le_of_ble_eq_true rfl, Nat.le_of_ble_eq_true rfl⟩ zokc_10 h (fun v μ2 h => ?_) (fun _ _ hp => False.elim hp)
        obtain ⟨rfl, h⟩ := h
        refine v_norm (st' := []) (cells' := 0) (slots' := 0) rfl rfl rfl ?_
        refine v_iload_n (n := 50) dX8_groom_49 rfl rfl ?_
        refine v_callS (n := 53) (As := [.int x1]) (rest := []) dX8_groom_50 rfl lk_X8_68 rfl rfl (Nat.le_of_ble_eq_true rfl) ⟨Nat.le_of_ble_eq_true rfl, Nat.le_of_ble_eq_true rfl, Nat.le_of_ble_eq_true rfl, Nat.le_of_ble_eq_true rfl⟩ (s_X8_piste0 G x1 μ2) (fun v μ9 hp => ?_) (fun _ _ hp => False.elim hp)
        rw [hp.1, hp.2]
        refine v_norm (st' := [.int (nI 132 + nI 8 * x1)]) (cells' := 0) (slots' := 0) rfl rfl rfl ?_
        refine v_istore_n (n := 54) (L' := [(0, .ref (zad G.1 10 0 0)), (1, .int x1), (2, .int (nI 132 + nI 8 * x1))]) dX8_groom_53 rfl (by decide) rfl ?_
        refine v_aload_n (n := 55) dX8_groom_54 rfl rfl ?_
        refine v_getf (n := 58) dX8_groom_55 rfl fl_X8_9 zokc_10 rfl ?_
        refine v_iload_n (n := 59) dX8_groom_58 rfl rfl ?_
        refine v_iconst (n := 60) (x := nI 4) dX8_groom_59 rfl (by decide) ?_
        refine v_iadd (n := 61) dX8_groom_60 rfl ?_
        refine v_iconst (n := 62) (x := nI 2) dX8_groom_61 rfl (by decide) ?_
        obtain ⟨j6, ej6, hj6, h⟩ := h
        refine v_iast (n := 63) (j := j6) dX8_groom_62 rfl zokc_26 (by decide) (by decide) rfl ej6 hj6 (fun _ => rfl) ?_
        refine v_aload_n (n := 64) dX8_groom_63 rfl rfl ?_
        refine v_getf (n := 67) dX8_groom_64 rfl fl_X8_9 zokc_10 rfl ?_
        refine v_iload_n (n := 68) dX8_groom_67 rfl rfl ?_
        refine v_bipush (n := 70) (x := nI 6) dX8_groom_68 rfl (by decide) ?_
        refine v_iadd (n := 71) dX8_groom_70 rfl ?_
        refine v_iconst (n := 72) (x := nI 1) dX8_groom_71 rfl (by decide) ?_
        refine v_aload_n (n := 73) dX8_groom_72 rfl rfl ?_
        refine v_getf (n := 76) dX8_groom_73 rfl fl_X8_9 zokc_10 rfl ?_
        refine v_iload_n (n := 77) dX8_groom_76 rfl rfl ?_
        refine v_iconst (n := 78) (x := nI 5) dX8_groom_77 rfl (by decide) ?_
        refine v_iadd (n := 79) dX8_groom_78 rfl ?_
        obtain ⟨j7, ej7, hj7, h⟩ := h
        refine v_iald (n := 80) (j := j7) dX8_groom_79 rfl zokc_26 (by decide) rfl ej7 hj7 (rfl) ?_
        refine v_iconst (n := 81) (x := nI 5) dX8_groom_80 rfl (by decide) ?_
        refine v_idiv (n := 82) dX8_groom_81 rfl (by decide) ?_
        refine v_iadd (n := 83) dX8_groom_82 rfl ?_
        obtain ⟨j8, ej8, hj8, h⟩ := h
        refine v_iast (n := 84) (j := j8) dX8_groom_83 rfl zokc_26 (by decide) (by decide) rfl ej8 hj8 (fun _ => rfl) ?_
        refine v_aload_n (n := 85) dX8_groom_84 rfl rfl ?_
        refine v_getf (n := 88) dX8_groom_85 rfl fl_X8_9 zokc_10 rfl ?_
        refine v_iload_n (n := 89) dX8_groom_88 rfl rfl ?_
        refine v_bipush (n := 91) (x := nI 6) dX8_groom_89 rfl (by decide) ?_
        refine v_iadd (n := 92) dX8_groom_91 rfl ?_
        obtain ⟨j9, ej9, hj9, h⟩ := h
        refine v_iald (n := 93) (j := j9) dX8_groom_92 rfl zokc_26 (by decide) rfl ej9 hj9 (rfl) ?_
        exact v_iret dX8_groom_93 rfl (Nat.le_of_ble_eq_true rfl) (Nat.le_of_ble_eq_true rfl) h
      · replace h := h.2 hq
        refine v_iconst (n := 44) (x := nI 0) dX8_groom_43 rfl (by decide) ?_
        exact v_iret dX8_groom_44 rfl (Nat.le_of_ble_eq_true rfl) (Nat.le_of_ble_eq_true rfl) h
  · replace h := h.2 (bI_f hq)
    refine v_iconst (n := 10) (x := nI 1) dX8_groom_9 rfl (by decide) ?_
    refine v_goto (n := 33) dX8_groom_10 (by decide) ?_
    refine v_putf (n := 36) dX8_groom_33 rfl fw_X8_41 zokc_10 (fun _ => rfl) rfl rfl ?_
    refine v_aload_n (n := 37) dX8_groom_36 rfl rfl ?_
    refine v_getf (n := 40) dX8_groom_37 rfl fl_X8_41 zokc_10 (congrArg Value.int (up_self _ _ _ _ _ _)) ?_
    refine v_if_le (n := 43) (t := 45) dX8_groom_40 rfl (by decide) (fun hq => ?_) (fun hq => ?_)
    · replace h := h.1 hq
      refine v_aload_n (n := 46) dX8_groom_45 rfl rfl ?_
      refine v_callV (n := 49) (k := 10) (b := 0) (i := 0) (As := []) (rest := []) dX8_groom_46 rfl lk_X8_65 rfl rfl (Nat.le_of_ble_eq_true rfl) ⟨Nat.le_of_ble_eq_true rfl, Nat.le_of_ble_eq_true rfl, Nat.le_of_ble_eq_true rfl, Nat.le_of_ble_eq_true rfl⟩ zokc_10 h (fun v μ3 h => ?_) (fun _ _ hp => False.elim hp)
      obtain ⟨rfl, h⟩ := h
      refine v_norm (st' := []) (cells' := 0) (slots' := 0) rfl rfl rfl ?_
      refine v_iload_n (n := 50) dX8_groom_49 rfl rfl ?_
      refine v_callS (n := 53) (As := [.int x1]) (rest := []) dX8_groom_50 rfl lk_X8_68 rfl rfl (Nat.le_of_ble_eq_true rfl) ⟨Nat.le_of_ble_eq_true rfl, Nat.le_of_ble_eq_true rfl, Nat.le_of_ble_eq_true rfl, Nat.le_of_ble_eq_true rfl⟩ (s_X8_piste0 G x1 μ3) (fun v μ9 hp => ?_) (fun _ _ hp => False.elim hp)
      rw [hp.1, hp.2]
      refine v_norm (st' := [.int (nI 132 + nI 8 * x1)]) (cells' := 0) (slots' := 0) rfl rfl rfl ?_
      refine v_istore_n (n := 54) (L' := [(0, .ref (zad G.1 10 0 0)), (1, .int x1), (2, .int (nI 132 + nI 8 * x1))]) dX8_groom_53 rfl (by decide) rfl ?_
      refine v_aload_n (n := 55) dX8_groom_54 rfl rfl ?_
      refine v_getf (n := 58) dX8_groom_55 rfl fl_X8_9 zokc_10 rfl ?_
      refine v_iload_n (n := 59) dX8_groom_58 rfl rfl ?_
      refine v_iconst (n := 60) (x := nI 4) dX8_groom_59 rfl (by decide) ?_
      refine v_iadd (n := 61) dX8_groom_60 rfl ?_
      refine v_iconst (n := 62) (x := nI 2) dX8_groom_61 rfl (by decide) ?_
      obtain ⟨j10, ej10, hj10, h⟩ := h
      refine v_iast (n := 63) (j := j10) dX8_groom_62 rfl zokc_26 (by decide) (by decide) rfl ej10 hj10 (fun _ => rfl) ?_
      refine v_aload_n (n := 64) dX8_groom_63 rfl rfl ?_
      refine v_getf (n := 67) dX8_groom_64 rfl fl_X8_9 zokc_10 rfl ?_
      refine v_iload_n (n := 68) dX8_groom_67 rfl rfl ?_
      refine v_bipush (n := 70) (x := nI 6) dX8_groom_68 rfl (by decide) ?_
      refine v_iadd (n := 71) dX8_groom_70 rfl ?_
      refine v_iconst (n := 72) (x := nI 1) dX8_groom_71 rfl (by decide) ?_
      refine v_aload_n (n := 73) dX8_groom_72 rfl rfl ?_
      refine v_getf (n := 76) dX8_groom_73 rfl fl_X8_9 zokc_10 rfl ?_
      refine v_iload_n (n := 77) dX8_groom_76 rfl rfl ?_
      refine v_iconst (n := 78) (x := nI 5) dX8_groom_77 rfl (by decide) ?_
      refine v_iadd (n := 79) dX8_groom_78 rfl ?_
      obtain ⟨j11, ej11, hj11, h⟩ := h
      refine v_iald (n := 80) (j := j11) dX8_groom_79 rfl zokc_26 (by decide) rfl ej11 hj11 (rfl) ?_
      refine v_iconst (n := 81) (x := nI 5) dX8_groom_80 rfl (by decide) ?_
      refine v_idiv (n := 82) dX8_groom_81 rfl (by decide) ?_
      refine v_iadd (n := 83) dX8_groom_82 rfl ?_
      obtain ⟨j12, ej12, hj12, h⟩ := h
      refine v_iast (n := 84) (j := j12) dX8_groom_83 rfl zokc_26 (by decide) (by decide) rfl ej12 hj12 (fun _ => rfl) ?_
      refine v_aload_n (n := 85) dX8_groom_84 rfl rfl ?_
      refine v_getf (n := 88) dX8_groom_85 rfl fl_X8_9 zokc_10 rfl ?_
      refine v_iload_n (n := 89) dX8_groom_88 rfl rfl ?_
      refine v_bipush (n := 91) (x := nI 6) dX8_groom_89 rfl (by decide) ?_
      refine v_iadd (n := 92) dX8_groom_91 rfl ?_
      obtain ⟨j13, ej13, hj13, h⟩ := h
      refine v_iald (n := 93) (j := j13) dX8_groom_92 rfl zokc_26 (by decide) rfl ej13 hj13 (rfl) ?_
      exact v_iret dX8_groom_93 rfl (Nat.le_of_ble_eq_true rfl) (Nat.le_of_ble_eq_true rfl) h
    · replace h := h.2 hq
      refine v_iconst (n := 44) (x := nI 0) dX8_groom_43 rfl (by decide) ?_
      exact v_iret dX8_groom_44 rfl (Nat.le_of_ble_eq_true rfl) (Nat.le_of_ble_eq_true rfl) h

set_option maxRecDepth 20000 in
set_option maxHeartbeats 4000000 in
theorem wX8_openPistes (G : Gl) {P : Option Value → St → Prop} {X : String → St → Prop}  (μ : St)
    (h : VL G mX8_openPistes P X 4 [(0, .ref (zad G.1 10 0 0)), (1, .int (nI 0)), (2, .int (nI 0))] [] μ) :
    Con G mX8_openPistes [.ref (zad G.1 10 0 0)] μ P X := by
  refine con_of pn_X8 rfl (Nat.le_of_ble_eq_true rfl) ?_
  show VL G mX8_openPistes P X 0 [(0, .ref (zad G.1 10 0 0))] [] μ
  refine v_iconst (n := 1) (x := nI 0) dX8_openPistes_0 rfl (by decide) ?_
  refine v_istore_n (n := 2) (L' := [(0, .ref (zad G.1 10 0 0)), (1, .int (nI 0))]) dX8_openPistes_1 rfl (by decide) rfl ?_
  refine v_iconst (n := 3) (x := nI 0) dX8_openPistes_2 rfl (by decide) ?_
  refine v_istore_n (n := 4) (L' := [(0, .ref (zad G.1 10 0 0)), (1, .int (nI 0)), (2, .int (nI 0))]) dX8_openPistes_3 rfl (by decide) rfl ?_
  exact h

set_option maxRecDepth 20000 in
set_option maxHeartbeats 4000000 in
theorem wX8_openPistes_4 (G : Gl) {P : Option Value → St → Prop} {X : String → St → Prop} (y1 : Int32) (i2 : Nat) (μ : St)
    (h : ((μ 26 0 0 4 ≤ nI i2 → P (some (.int y1)) μ) ∧ (¬ μ 26 0 0 4 ≤ nI i2 → 132 + 8 * i2 + 4 < 372 ∧ ((¬ μ 26 0 0 (132 + 8 * i2 + 4) = 0 → VL G mX8_openPistes P X 4 [(0, .ref (zad G.1 10 0 0)), (1, .int (y1 + (nI 0))), (2, .int (nI (i2 + 1)))] [] μ) ∧ (μ 26 0 0 (132 + 8 * i2 + 4) = 0 → VL G mX8_openPistes P X 4 [(0, .ref (zad G.1 10 0 0)), (1, .int (y1 + (nI 1))), (2, .int (nI (i2 + 1)))] [] μ))))) :
    VL G mX8_openPistes P X 4 [(0, .ref (zad G.1 10 0 0)), (1, .int y1), (2, .int (nI i2))] [] μ := by
  refine v_iload_n (n := 5) dX8_openPistes_4 rfl rfl ?_
  refine v_aload_n (n := 6) dX8_openPistes_5 rfl rfl ?_
  refine v_getf (n := 9) dX8_openPistes_6 rfl fl_X8_9 zokc_10 rfl ?_
  refine v_iconst (n := 10) (x := nI 4) dX8_openPistes_9 rfl (by decide) ?_
  refine v_iald (n := 11) (j := 4) dX8_openPistes_10 rfl zokc_26 (by decide) rfl rfl (by decide) (rfl) ?_
  refine v_icmp_ge (n := 14) (t := 42) dX8_openPistes_11 rfl (by decide) (fun hq => ?_) (fun hq => ?_)
  · replace h := h.1 hq
    refine v_iload_n (n := 43) dX8_openPistes_42 rfl rfl ?_
    exact v_iret dX8_openPistes_43 rfl (Nat.le_of_ble_eq_true rfl) (Nat.le_of_ble_eq_true rfl) h
  · replace h := h.2 hq
    refine v_iload_n (n := 15) dX8_openPistes_14 rfl rfl ?_
    refine v_aload_n (n := 16) dX8_openPistes_15 rfl rfl ?_
    refine v_getf (n := 19) dX8_openPistes_16 rfl fl_X8_9 zokc_10 rfl ?_
    refine v_iload_n (n := 20) dX8_openPistes_19 rfl rfl ?_
    refine v_callS (n := 23) (As := [.int (nI i2)]) (rest := [.ref (zad G.1 26 0 0), .int y1]) dX8_openPistes_20 rfl lk_X8_68 rfl rfl (Nat.le_of_ble_eq_true rfl) ⟨Nat.le_of_ble_eq_true rfl, Nat.le_of_ble_eq_true rfl, Nat.le_of_ble_eq_true rfl, Nat.le_of_ble_eq_true rfl⟩ (s_X8_piste0N G i2 μ) (fun v μ9 hp => ?_) (fun _ _ hp => False.elim hp)
    rw [hp.1, hp.2]
    refine v_norm (st' := [.int (nI (132 + 8 * i2)), .ref (zad G.1 26 0 0), .int y1]) (cells' := 0) (slots' := 0) rfl rfl rfl ?_
    refine v_iconst (n := 24) (x := nI 4) dX8_openPistes_23 rfl (by decide) ?_
    refine v_iadd (n := 25) dX8_openPistes_24 rfl ?_
    refine v_top (y := nI (132 + 8 * i2 + 4)) (nI_add (132 + 8 * i2) 4) ?_
    obtain ⟨hf1, h⟩ := h
    refine v_iald (n := 26) (j := (132 + 8 * i2 + 4)) dX8_openPistes_25 rfl zokc_26 (by decide) rfl rfl hf1 (rfl) ?_
    refine v_if_ne (n := 29) (t := 33) dX8_openPistes_26 rfl (by decide) (fun hq => ?_) (fun hq => ?_)
    · replace h := h.1 hq
      refine v_iconst (n := 34) (x := nI 0) dX8_openPistes_33 rfl (by decide) ?_
      refine v_iadd (n := 35) dX8_openPistes_34 rfl ?_
      refine v_istore_n (n := 36) (L' := [(0, .ref (zad G.1 10 0 0)), (1, .int (y1 + (nI 0))), (2, .int (nI i2))]) dX8_openPistes_35 rfl (by decide) rfl ?_
      refine v_iinc (n := 39) (x := nI i2) (y := nI (i2 + 1)) (L' := [(0, .ref (zad G.1 10 0 0)), (1, .int (y1 + (nI 0))), (2, .int (nI (i2 + 1)))]) dX8_openPistes_36 rfl rfl (nI_1 i2) (by decide) rfl ?_
      refine v_goto (n := 4) dX8_openPistes_39 (by decide) ?_
      exact h
    · replace h := h.2 hq
      refine v_iconst (n := 30) (x := nI 1) dX8_openPistes_29 rfl (by decide) ?_
      refine v_goto (n := 34) dX8_openPistes_30 (by decide) ?_
      refine v_iadd (n := 35) dX8_openPistes_34 rfl ?_
      refine v_istore_n (n := 36) (L' := [(0, .ref (zad G.1 10 0 0)), (1, .int (y1 + (nI 1))), (2, .int (nI i2))]) dX8_openPistes_35 rfl (by decide) rfl ?_
      refine v_iinc (n := 39) (x := nI i2) (y := nI (i2 + 1)) (L' := [(0, .ref (zad G.1 10 0 0)), (1, .int (y1 + (nI 1))), (2, .int (nI (i2 + 1)))]) dX8_openPistes_36 rfl rfl (nI_1 i2) (by decide) rfl ?_
      refine v_goto (n := 4) dX8_openPistes_39 (by decide) ?_
      exact h

set_option maxRecDepth 20000 in
set_option maxHeartbeats 4000000 in
theorem wX8_count (G : Gl) {P : Option Value → St → Prop} {X : String → St → Prop} (x1 : Int32) (μ : St)
    (h : ((btw x1 (nI 0) (nI 11) = false → ((nI 1 ≤ 0 → ((nI 3 ≤ x1 → ((nI 6 ≤ x1 → ((nI 11 ≤ x1 → Con G mX8_openPistes [.ref (zad G.1 10 0 0)] (up μ 10 0 0 6 (nI 1)) (fun v μ1 => ∃ r1 : Int32, v = some (.int r1) ∧ P (some (.int r1)) μ1) noX) ∧ (¬ nI 11 ≤ x1 → Con G mX8_guestsWho [.ref (zad G.1 10 0 0), .int (x1 - (nI 6)), .int (-1 : Int32)] (up μ 10 0 0 6 (nI 1)) (fun v μ2 => ∃ r2 : Int32, v = some (.int r2) ∧ P (some (.int r2)) μ2) noX))) ∧ (¬ nI 6 ≤ x1 → ∃ j1 : Nat, ((nI 0) + x1) - (nI 3) = nI j1 ∧ j1 < 372 ∧ P (some (.int (μ 26 0 0 j1))) (up μ 10 0 0 6 (nI 1))))) ∧ (¬ nI 3 ≤ x1 → ∃ j2 : Nat, (nI 3) + x1 = nI j2 ∧ j2 < 372 ∧ P (some (.int (μ 26 0 0 j2))) (up μ 10 0 0 6 (nI 1))))) ∧ (¬ nI 1 ≤ 0 → P (some (.int (nI 0))) (up μ 10 0 0 6 (nI 1))))) ∧ (btw x1 (nI 0) (nI 11) = true → ((nI 0 ≤ 0 → ((nI 3 ≤ x1 → ((nI 6 ≤ x1 → ((nI 11 ≤ x1 → Con G mX8_openPistes [.ref (zad G.1 10 0 0)] (up μ 10 0 0 6 (nI 0)) (fun v μ3 => ∃ r3 : Int32, v = some (.int r3) ∧ P (some (.int r3)) μ3) noX) ∧ (¬ nI 11 ≤ x1 → Con G mX8_guestsWho [.ref (zad G.1 10 0 0), .int (x1 - (nI 6)), .int (-1 : Int32)] (up μ 10 0 0 6 (nI 0)) (fun v μ4 => ∃ r4 : Int32, v = some (.int r4) ∧ P (some (.int r4)) μ4) noX))) ∧ (¬ nI 6 ≤ x1 → ∃ j3 : Nat, ((nI 0) + x1) - (nI 3) = nI j3 ∧ j3 < 372 ∧ P (some (.int (μ 26 0 0 j3))) (up μ 10 0 0 6 (nI 0))))) ∧ (¬ nI 3 ≤ x1 → ∃ j4 : Nat, (nI 3) + x1 = nI j4 ∧ j4 < 372 ∧ P (some (.int (μ 26 0 0 j4))) (up μ 10 0 0 6 (nI 0))))) ∧ (¬ nI 0 ≤ 0 → P (some (.int (nI 0))) (up μ 10 0 0 6 (nI 0))))))) :
    Con G mX8_count [.ref (zad G.1 10 0 0), .int x1] μ P X := by
  refine con_of pn_X8 rfl (Nat.le_of_ble_eq_true rfl) ?_
  show VL G mX8_count P X 0 [(0, .ref (zad G.1 10 0 0)), (1, .int x1)] [] μ
  refine v_aload_n (n := 1) dX8_count_0 rfl rfl ?_
  refine v_iload_n (n := 2) dX8_count_1 rfl rfl ?_
  refine v_iconst (n := 3) (x := nI 0) dX8_count_2 rfl (by decide) ?_
  refine v_bipush (n := 5) (x := nI 11) dX8_count_3 rfl (by decide) ?_
  refine v_callS (n := 8) (As := [.int x1, .int (nI 0), .int (nI 11)]) (rest := [.ref (zad G.1 10 0 0)]) dX8_count_5 rfl lk_X8_47 rfl rfl (Nat.le_of_ble_eq_true rfl) ⟨Nat.le_of_ble_eq_true rfl, Nat.le_of_ble_eq_true rfl, Nat.le_of_ble_eq_true rfl, Nat.le_of_ble_eq_true rfl⟩ (s_X8_in G x1 (nI 0) (nI 11) μ) (fun v μ9 hp => ?_) (fun _ _ hp => False.elim hp)
  rw [hp.1, hp.2]
  refine v_norm (st' := [.int (bI (btw x1 (nI 0) (nI 11))), .ref (zad G.1 10 0 0)]) (cells' := 0) (slots' := 0) rfl rfl rfl ?_
  refine v_if_eq (n := 11) (t := 15) dX8_count_8 rfl (by decide) (fun hq => ?_) (fun hq => ?_)
  · replace h := h.1 (bI_f hq)
    refine v_iconst (n := 16) (x := nI 1) dX8_count_15 rfl (by decide) ?_
    refine v_putf (n := 19) dX8_count_16 rfl fw_X8_41 zokc_10 (fun _ => rfl) rfl rfl ?_
    refine v_aload_n (n := 20) dX8_count_19 rfl rfl ?_
    refine v_getf (n := 23) dX8_count_20 rfl fl_X8_41 zokc_10 (congrArg Value.int (up_self _ _ _ _ _ _)) ?_
    refine v_if_le (n := 26) (t := 28) dX8_count_23 rfl (by decide) (fun hq => ?_) (fun hq => ?_)
    · replace h := h.1 hq
      refine v_iload_n (n := 29) dX8_count_28 rfl rfl ?_
      refine v_iconst (n := 30) (x := nI 3) dX8_count_29 rfl (by decide) ?_
      refine v_icmp_ge (n := 33) (t := 44) dX8_count_30 rfl (by decide) (fun hq => ?_) (fun hq => ?_)
      · replace h := h.1 hq
        refine v_iload_n (n := 45) dX8_count_44 rfl rfl ?_
        refine v_bipush (n := 47) (x := nI 6) dX8_count_45 rfl (by decide) ?_
        refine v_icmp_ge (n := 50) (t := 63) dX8_count_47 rfl (by decide) (fun hq => ?_) (fun hq => ?_)
        · replace h := h.1 hq
          refine v_iload_n (n := 64) dX8_count_63 rfl rfl ?_
          refine v_bipush (n := 66) (x := nI 11) dX8_count_64 rfl (by decide) ?_
          refine v_icmp_ge (n := 69) (t := 81) dX8_count_66 rfl (by decide) (fun hq => ?_) (fun hq => ?_)
          · replace h := h.1 hq
            refine v_aload_n (n := 82) dX8_count_81 rfl rfl ?_
            refine v_callV (n := 85) (k := 10) (b := 0) (i := 0) (As := []) (rest := []) dX8_count_82 rfl lk_X8_84 rfl rfl (Nat.le_of_ble_eq_true rfl) ⟨Nat.le_of_ble_eq_true rfl, Nat.le_of_ble_eq_true rfl, Nat.le_of_ble_eq_true rfl, Nat.le_of_ble_eq_true rfl⟩ zokc_10 h (fun v μ1 h => ?_) (fun _ _ hp => False.elim hp)
            obtain ⟨r1, rfl, h⟩ := h
            refine v_norm (st' := [.int r1]) (cells' := 0) (slots' := 0) rfl rfl rfl ?_
            exact v_iret dX8_count_85 rfl (Nat.le_of_ble_eq_true rfl) (Nat.le_of_ble_eq_true rfl) h
          · replace h := h.2 hq
            refine v_aload_n (n := 70) dX8_count_69 rfl rfl ?_
            refine v_iload_n (n := 71) dX8_count_70 rfl rfl ?_
            refine v_bipush (n := 73) (x := nI 6) dX8_count_71 rfl (by decide) ?_
            refine v_isub (n := 74) dX8_count_73 rfl ?_
            refine v_iconst (n := 75) (x := (-1 : Int32)) dX8_count_74 rfl (by decide) ?_
            refine v_callV (n := 78) (k := 10) (b := 0) (i := 0) (As := [.int (x1 - (nI 6)), .int (-1 : Int32)]) (rest := []) dX8_count_75 rfl lk_X8_77 rfl rfl (Nat.le_of_ble_eq_true rfl) ⟨Nat.le_of_ble_eq_true rfl, Nat.le_of_ble_eq_true rfl, Nat.le_of_ble_eq_true rfl, Nat.le_of_ble_eq_true rfl⟩ zokc_10 h (fun v μ2 h => ?_) (fun _ _ hp => False.elim hp)
            obtain ⟨r2, rfl, h⟩ := h
            refine v_norm (st' := [.int r2]) (cells' := 0) (slots' := 0) rfl rfl rfl ?_
            refine v_goto (n := 85) dX8_count_78 (by decide) ?_
            exact v_iret dX8_count_85 rfl (Nat.le_of_ble_eq_true rfl) (Nat.le_of_ble_eq_true rfl) h
        · replace h := h.2 hq
          refine v_aload_n (n := 51) dX8_count_50 rfl rfl ?_
          refine v_getf (n := 54) dX8_count_51 rfl fl_X8_9 zokc_10 rfl ?_
          refine v_iconst (n := 55) (x := nI 0) dX8_count_54 rfl (by decide) ?_
          refine v_iload_n (n := 56) dX8_count_55 rfl rfl ?_
          refine v_iadd (n := 57) dX8_count_56 rfl ?_
          refine v_iconst (n := 58) (x := nI 3) dX8_count_57 rfl (by decide) ?_
          refine v_isub (n := 59) dX8_count_58 rfl ?_
          obtain ⟨j1, ej1, hj1, h⟩ := h
          refine v_iald (n := 60) (j := j1) dX8_count_59 rfl zokc_26 (by decide) rfl ej1 hj1 (congrArg Value.int (up_k (by decide))) ?_
          refine v_goto (n := 85) dX8_count_60 (by decide) ?_
          exact v_iret dX8_count_85 rfl (Nat.le_of_ble_eq_true rfl) (Nat.le_of_ble_eq_true rfl) h
      · replace h := h.2 hq
        refine v_aload_n (n := 34) dX8_count_33 rfl rfl ?_
        refine v_getf (n := 37) dX8_count_34 rfl fl_X8_9 zokc_10 rfl ?_
        refine v_iconst (n := 38) (x := nI 3) dX8_count_37 rfl (by decide) ?_
        refine v_iload_n (n := 39) dX8_count_38 rfl rfl ?_
        refine v_iadd (n := 40) dX8_count_39 rfl ?_
        obtain ⟨j2, ej2, hj2, h⟩ := h
        refine v_iald (n := 41) (j := j2) dX8_count_40 rfl zokc_26 (by decide) rfl ej2 hj2 (congrArg Value.int (up_k (by decide))) ?_
        refine v_goto (n := 85) dX8_count_41 (by decide) ?_
        exact v_iret dX8_count_85 rfl (Nat.le_of_ble_eq_true rfl) (Nat.le_of_ble_eq_true rfl) h
    · replace h := h.2 hq
      refine v_iconst (n := 27) (x := nI 0) dX8_count_26 rfl (by decide) ?_
      exact v_iret dX8_count_27 rfl (Nat.le_of_ble_eq_true rfl) (Nat.le_of_ble_eq_true rfl) h
  · replace h := h.2 (bI_nf hq)
    refine v_iconst (n := 12) (x := nI 0) dX8_count_11 rfl (by decide) ?_
    refine v_goto (n := 16) dX8_count_12 (by decide) ?_
    refine v_putf (n := 19) dX8_count_16 rfl fw_X8_41 zokc_10 (fun _ => rfl) rfl rfl ?_
    refine v_aload_n (n := 20) dX8_count_19 rfl rfl ?_
    refine v_getf (n := 23) dX8_count_20 rfl fl_X8_41 zokc_10 (congrArg Value.int (up_self _ _ _ _ _ _)) ?_
    refine v_if_le (n := 26) (t := 28) dX8_count_23 rfl (by decide) (fun hq => ?_) (fun hq => ?_)
    · replace h := h.1 hq
      refine v_iload_n (n := 29) dX8_count_28 rfl rfl ?_
      refine v_iconst (n := 30) (x := nI 3) dX8_count_29 rfl (by decide) ?_
      refine v_icmp_ge (n := 33) (t := 44) dX8_count_30 rfl (by decide) (fun hq => ?_) (fun hq => ?_)
      · replace h := h.1 hq
        refine v_iload_n (n := 45) dX8_count_44 rfl rfl ?_
        refine v_bipush (n := 47) (x := nI 6) dX8_count_45 rfl (by decide) ?_
        refine v_icmp_ge (n := 50) (t := 63) dX8_count_47 rfl (by decide) (fun hq => ?_) (fun hq => ?_)
        · replace h := h.1 hq
          refine v_iload_n (n := 64) dX8_count_63 rfl rfl ?_
          refine v_bipush (n := 66) (x := nI 11) dX8_count_64 rfl (by decide) ?_
          refine v_icmp_ge (n := 69) (t := 81) dX8_count_66 rfl (by decide) (fun hq => ?_) (fun hq => ?_)
          · replace h := h.1 hq
            refine v_aload_n (n := 82) dX8_count_81 rfl rfl ?_
            refine v_callV (n := 85) (k := 10) (b := 0) (i := 0) (As := []) (rest := []) dX8_count_82 rfl lk_X8_84 rfl rfl (Nat.le_of_ble_eq_true rfl) ⟨Nat.le_of_ble_eq_true rfl, Nat.le_of_ble_eq_true rfl, Nat.le_of_ble_eq_true rfl, Nat.le_of_ble_eq_true rfl⟩ zokc_10 h (fun v μ3 h => ?_) (fun _ _ hp => False.elim hp)
            obtain ⟨r3, rfl, h⟩ := h
            refine v_norm (st' := [.int r3]) (cells' := 0) (slots' := 0) rfl rfl rfl ?_
            exact v_iret dX8_count_85 rfl (Nat.le_of_ble_eq_true rfl) (Nat.le_of_ble_eq_true rfl) h
          · replace h := h.2 hq
            refine v_aload_n (n := 70) dX8_count_69 rfl rfl ?_
            refine v_iload_n (n := 71) dX8_count_70 rfl rfl ?_
            refine v_bipush (n := 73) (x := nI 6) dX8_count_71 rfl (by decide) ?_
            refine v_isub (n := 74) dX8_count_73 rfl ?_
            refine v_iconst (n := 75) (x := (-1 : Int32)) dX8_count_74 rfl (by decide) ?_
            refine v_callV (n := 78) (k := 10) (b := 0) (i := 0) (As := [.int (x1 - (nI 6)), .int (-1 : Int32)]) (rest := []) dX8_count_75 rfl lk_X8_77 rfl rfl (Nat.le_of_ble_eq_true rfl) ⟨Nat.le_of_ble_eq_true rfl, Nat.le_of_ble_eq_true rfl, Nat.le_of_ble_eq_true rfl, Nat.le_of_ble_eq_true rfl⟩ zokc_10 h (fun v μ4 h => ?_) (fun _ _ hp => False.elim hp)
            obtain ⟨r4, rfl, h⟩ := h
            refine v_norm (st' := [.int r4]) (cells' := 0) (slots' := 0) rfl rfl rfl ?_
            refine v_goto (n := 85) dX8_count_78 (by decide) ?_
            exact v_iret dX8_count_85 rfl (Nat.le_of_ble_eq_true rfl) (Nat.le_of_ble_eq_true rfl) h
        · replace h := h.2 hq
          refine v_aload_n (n := 51) dX8_count_50 rfl rfl ?_
          refine v_getf (n := 54) dX8_count_51 rfl fl_X8_9 zokc_10 rfl ?_
          refine v_iconst (n := 55) (x := nI 0) dX8_count_54 rfl (by decide) ?_
          refine v_iload_n (n := 56) dX8_count_55 rfl rfl ?_
          refine v_iadd (n := 57) dX8_count_56 rfl ?_
          refine v_iconst (n := 58) (x := nI 3) dX8_count_57 rfl (by decide) ?_
          refine v_isub (n := 59) dX8_count_58 rfl ?_
          obtain ⟨j3, ej3, hj3, h⟩ := h
          refine v_iald (n := 60) (j := j3) dX8_count_59 rfl zokc_26 (by decide) rfl ej3 hj3 (congrArg Value.int (up_k (by decide))) ?_
          refine v_goto (n := 85) dX8_count_60 (by decide) ?_
          exact v_iret dX8_count_85 rfl (Nat.le_of_ble_eq_true rfl) (Nat.le_of_ble_eq_true rfl) h
      · replace h := h.2 hq
        refine v_aload_n (n := 34) dX8_count_33 rfl rfl ?_
        refine v_getf (n := 37) dX8_count_34 rfl fl_X8_9 zokc_10 rfl ?_
        refine v_iconst (n := 38) (x := nI 3) dX8_count_37 rfl (by decide) ?_
        refine v_iload_n (n := 39) dX8_count_38 rfl rfl ?_
        refine v_iadd (n := 40) dX8_count_39 rfl ?_
        obtain ⟨j4, ej4, hj4, h⟩ := h
        refine v_iald (n := 41) (j := j4) dX8_count_40 rfl zokc_26 (by decide) rfl ej4 hj4 (congrArg Value.int (up_k (by decide))) ?_
        refine v_goto (n := 85) dX8_count_41 (by decide) ?_
        exact v_iret dX8_count_85 rfl (Nat.le_of_ble_eq_true rfl) (Nat.le_of_ble_eq_true rfl) h
    · replace h := h.2 hq
      refine v_iconst (n := 27) (x := nI 0) dX8_count_26 rfl (by decide) ?_
      exact v_iret dX8_count_27 rfl (Nat.le_of_ble_eq_true rfl) (Nat.le_of_ble_eq_true rfl) h

set_option maxRecDepth 20000 in
set_option maxHeartbeats 4000000 in
theorem wX8_arrives (G : Gl) {P : Option Value → St → Prop} {X : String → St → Prop} (x1 : Int32) (x2 : Int32) (x3 : Int32) (x4 : Int32) (x5 : Int32) (μ : St)
    (h : VL G mX8_arrives P X 14 [(0, .ref (zad G.1 10 0 0)), (1, .int x1), (2, .int x2), (3, .int x3), (4, .int x4), (5, .int x5), (6, .int (nI 212 + nI 10 * (μ 26 0 0 5))), (7, .int (nI 0))] [] μ) :
    Con G mX8_arrives [.ref (zad G.1 10 0 0), .int x1, .int x2, .int x3, .int x4, .int x5] μ P X := by
  refine con_of pn_X8 rfl (Nat.le_of_ble_eq_true rfl) ?_
  show VL G mX8_arrives P X 0 [(0, .ref (zad G.1 10 0 0)), (1, .int x1), (2, .int x2), (3, .int x3), (4, .int x4), (5, .int x5)] [] μ
  refine v_aload_n (n := 1) dX8_arrives_0 rfl rfl ?_
  refine v_getf (n := 4) dX8_arrives_1 rfl fl_X8_9 zokc_10 rfl ?_
  refine v_iconst (n := 5) (x := nI 5) dX8_arrives_4 rfl (by decide) ?_
  refine v_iald (n := 6) (j := 5) dX8_arrives_5 rfl zokc_26 (by decide) rfl rfl (by decide) (rfl) ?_
  refine v_callS (n := 9) (As := [.int (μ 26 0 0 5)]) (rest := []) dX8_arrives_6 rfl lk_X8_71 rfl rfl (Nat.le_of_ble_eq_true rfl) ⟨Nat.le_of_ble_eq_true rfl, Nat.le_of_ble_eq_true rfl, Nat.le_of_ble_eq_true rfl, Nat.le_of_ble_eq_true rfl⟩ (s_X8_guest0 G (μ 26 0 0 5) μ) (fun v μ9 hp => ?_) (fun _ _ hp => False.elim hp)
  rw [hp.1, hp.2]
  refine v_norm (st' := [.int (nI 212 + nI 10 * (μ 26 0 0 5))]) (cells' := 0) (slots' := 0) rfl rfl rfl ?_
  refine v_istore (n := 11) (L' := [(0, .ref (zad G.1 10 0 0)), (1, .int x1), (2, .int x2), (3, .int x3), (4, .int x4), (5, .int x5), (6, .int (nI 212 + nI 10 * (μ 26 0 0 5)))]) dX8_arrives_9 rfl (by decide) rfl ?_
  refine v_iconst (n := 12) (x := nI 0) dX8_arrives_11 rfl (by decide) ?_
  refine v_istore (n := 14) (L' := [(0, .ref (zad G.1 10 0 0)), (1, .int x1), (2, .int x2), (3, .int x3), (4, .int x4), (5, .int x5), (6, .int (nI 212 + nI 10 * (μ 26 0 0 5))), (7, .int (nI 0))]) dX8_arrives_12 rfl (by decide) rfl ?_
  exact h

set_option maxRecDepth 20000 in
set_option maxHeartbeats 4000000 in
theorem wX8_arrives_14 (G : Gl) {P : Option Value → St → Prop} {X : String → St → Prop} (x1 : Int32) (x2 : Int32) (x3 : Int32) (x4 : Int32) (x5 : Int32) (y6 : Int32) (i7 : Nat) (μ : St)
    (h : ((nI 10 ≤ nI i7 → ∃ j1 : Nat, y6 = nI j1 ∧ j1 < 372 ∧ ∃ j2 : Nat, y6 + (nI 1) = nI j2 ∧ j2 < 372 ∧ ∃ j3 : Nat, y6 + (nI 2) = nI j3 ∧ j3 < 372 ∧ ∃ j4 : Nat, y6 + (nI 3) = nI j4 ∧ j4 < 372 ∧ ∃ j5 : Nat, y6 + (nI 5) = nI j5 ∧ j5 < 372 ∧ P none (up (up (up (up (up (up μ 26 0 0 j1 x2) 26 0 0 j2 x3) 26 0 0 j3 x4) 26 0 0 j4 x5) 26 0 0 j5 x1) 26 0 0 5 (((up (up (up (up (up μ 26 0 0 j1 x2) 26 0 0 j2 x3) 26 0 0 j3 x4) 26 0 0 j4 x5) 26 0 0 j5 x1) 26 0 0 5) + (nI 1)))) ∧ (¬ nI 10 ≤ nI i7 → ∃ j6 : Nat, y6 + (nI i7) = nI j6 ∧ j6 < 372 ∧ VL G mX8_arrives P X 14 [(0, .ref (zad G.1 10 0 0)), (1, .int x1), (2, .int x2), (3, .int x3), (4, .int x4), (5, .int x5), (6, .int y6), (7, .int (nI (i7 + 1)))] [] (up μ 26 0 0 j6 (nI 0))))) :
    VL G mX8_arrives P X 14 [(0, .ref (zad G.1 10 0 0)), (1, .int x1), (2, .int x2), (3, .int x3), (4, .int x4), (5, .int x5), (6, .int y6), (7, .int (nI i7))] [] μ := by
  refine v_iload (n := 16) dX8_arrives_14 rfl rfl ?_
  refine v_bipush (n := 18) (x := nI 10) dX8_arrives_16 rfl (by decide) ?_
  refine v_icmp_ge (n := 21) (t := 38) dX8_arrives_18 rfl (by decide) (fun hq => ?_) (fun hq => ?_)
  · replace h := h.1 hq
    refine v_aload_n (n := 39) dX8_arrives_38 rfl rfl ?_
    refine v_getf (n := 42) dX8_arrives_39 rfl fl_X8_9 zokc_10 rfl ?_
    refine v_iload (n := 44) dX8_arrives_42 rfl rfl ?_
    refine v_iload_n (n := 45) dX8_arrives_44 rfl rfl ?_
    obtain ⟨j1, ej1, hj1, h⟩ := h
    refine v_iast (n := 46) (j := j1) dX8_arrives_45 rfl zokc_26 (by decide) (by decide) rfl ej1 hj1 (fun _ => rfl) ?_
    refine v_aload_n (n := 47) dX8_arrives_46 rfl rfl ?_
    refine v_getf (n := 50) dX8_arrives_47 rfl fl_X8_9 zokc_10 rfl ?_
    refine v_iload (n := 52) dX8_arrives_50 rfl rfl ?_
    refine v_iconst (n := 53) (x := nI 1) dX8_arrives_52 rfl (by decide) ?_
    refine v_iadd (n := 54) dX8_arrives_53 rfl ?_
    refine v_iload_n (n := 55) dX8_arrives_54 rfl rfl ?_
    obtain ⟨j2, ej2, hj2, h⟩ := h
    refine v_iast (n := 56) (j := j2) dX8_arrives_55 rfl zokc_26 (by decide) (by decide) rfl ej2 hj2 (fun _ => rfl) ?_
    refine v_aload_n (n := 57) dX8_arrives_56 rfl rfl ?_
    refine v_getf (n := 60) dX8_arrives_57 rfl fl_X8_9 zokc_10 rfl ?_
    refine v_iload (n := 62) dX8_arrives_60 rfl rfl ?_
    refine v_iconst (n := 63) (x := nI 2) dX8_arrives_62 rfl (by decide) ?_
    refine v_iadd (n := 64) dX8_arrives_63 rfl ?_
    refine v_iload (n := 66) dX8_arrives_64 rfl rfl ?_
    obtain ⟨j3, ej3, hj3, h⟩ := h
    refine v_iast (n := 67) (j := j3) dX8_arrives_66 rfl zokc_26 (by decide) (by decide) rfl ej3 hj3 (fun _ => rfl) ?_
    refine v_aload_n (n := 68) dX8_arrives_67 rfl rfl ?_
    refine v_getf (n := 71) dX8_arrives_68 rfl fl_X8_9 zokc_10 rfl ?_
    refine v_iload (n := 73) dX8_arrives_71 rfl rfl ?_
    refine v_iconst (n := 74) (x := nI 3) dX8_arrives_73 rfl (by decide) ?_
    refine v_iadd (n := 75) dX8_arrives_74 rfl ?_
    refine v_iload (n := 77) dX8_arrives_75 rfl rfl ?_
    obtain ⟨j4, ej4, hj4, h⟩ := h
    refine v_iast (n := 78) (j := j4) dX8_arrives_77 rfl zokc_26 (by decide) (by decide) rfl ej4 hj4 (fun _ => rfl) ?_
    refine v_aload_n (n := 79) dX8_arrives_78 rfl rfl ?_
    refine v_getf (n := 82) dX8_arrives_79 rfl fl_X8_9 zokc_10 rfl ?_
    refine v_iload (n := 84) dX8_arrives_82 rfl rfl ?_
    refine v_iconst (n := 85) (x := nI 5) dX8_arrives_84 rfl (by decide) ?_
    refine v_iadd (n := 86) dX8_arrives_85 rfl ?_
    refine v_iload_n (n := 87) dX8_arrives_86 rfl rfl ?_
    obtain ⟨j5, ej5, hj5, h⟩ := h
    refine v_iast (n := 88) (j := j5) dX8_arrives_87 rfl zokc_26 (by decide) (by decide) rfl ej5 hj5 (fun _ => rfl) ?_
    refine v_aload_n (n := 89) dX8_arrives_88 rfl rfl ?_
    refine v_getf (n := 92) dX8_arrives_89 rfl fl_X8_9 zokc_10 rfl ?_
    refine v_iconst (n := 93) (x := nI 5) dX8_arrives_92 rfl (by decide) ?_
    refine v_dup2 (n := 94) dX8_arrives_93 rfl rfl rfl ?_
    refine v_iald (n := 95) (j := 5) dX8_arrives_94 rfl zokc_26 (by decide) rfl rfl (by decide) (rfl) ?_
    refine v_iconst (n := 96) (x := nI 1) dX8_arrives_95 rfl (by decide) ?_
    refine v_iadd (n := 97) dX8_arrives_96 rfl ?_
    refine v_iast (n := 98) (j := 5) dX8_arrives_97 rfl zokc_26 (by decide) (by decide) rfl rfl (by decide) (fun _ => rfl) ?_
    exact v_vret dX8_arrives_98 rfl (Nat.le_of_ble_eq_true rfl) (Nat.le_of_ble_eq_true rfl) h
  · replace h := h.2 hq
    refine v_aload_n (n := 22) dX8_arrives_21 rfl rfl ?_
    refine v_getf (n := 25) dX8_arrives_22 rfl fl_X8_9 zokc_10 rfl ?_
    refine v_iload (n := 27) dX8_arrives_25 rfl rfl ?_
    refine v_iload (n := 29) dX8_arrives_27 rfl rfl ?_
    refine v_iadd (n := 30) dX8_arrives_29 rfl ?_
    refine v_iconst (n := 31) (x := nI 0) dX8_arrives_30 rfl (by decide) ?_
    obtain ⟨j6, ej6, hj6, h⟩ := h
    refine v_iast (n := 32) (j := j6) dX8_arrives_31 rfl zokc_26 (by decide) (by decide) rfl ej6 hj6 (fun _ => rfl) ?_
    refine v_iinc (n := 35) (x := nI i7) (y := nI (i7 + 1)) (L' := [(0, .ref (zad G.1 10 0 0)), (1, .int x1), (2, .int x2), (3, .int x3), (4, .int x4), (5, .int x5), (6, .int y6), (7, .int (nI (i7 + 1)))]) dX8_arrives_32 rfl rfl (nI_1 i7) (by decide) rfl ?_
    refine v_goto (n := 14) dX8_arrives_35 (by decide) ?_
    exact h

set_option maxRecDepth 20000 in
set_option maxHeartbeats 4000000 in
theorem wX8_addGuest (G : Gl) {P : Option Value → St → Prop} {X : String → St → Prop} (x1 : Int32) (x2 : Int32) (x3 : Int32) (x4 : Int32) (x5 : Int32) (μ : St)
    (h : ((isSt x1 = true → ((btw x2 (nI 1) (nI 3) = false → P (some (.int (nI 0))) (up (up μ 10 0 0 6 (nI 0)) 10 0 0 6 (nI 2))) ∧ (btw x2 (nI 1) (nI 3) = true → ((btw x3 (nI 0) (nI 15) = false → P (some (.int (nI 0))) (up (up μ 10 0 0 6 (nI 0)) 10 0 0 6 (nI 2))) ∧ (btw x3 (nI 0) (nI 15) = true → ((btw x4 (nI 0) (nI 1000) = false → P (some (.int (nI 0))) (up (up μ 10 0 0 6 (nI 0)) 10 0 0 6 (nI 2))) ∧ (btw x4 (nI 0) (nI 1000) = true → ((btw x5 (nI 0) (nI 1000) = true → ((¬ μ 26 0 0 5 = nI 16 → Con G mX8_keep [.ref (zad G.1 10 0 0)] (up μ 10 0 0 6 (nI 0)) (fun v μ1 => v = none ∧ Con G mX8_arrives [.ref (zad G.1 10 0 0), .int x1, .int x2, .int x3, .int x4, .int x5] μ1 (fun v μ2 => v = none ∧ P (some (.int ((μ2 26 0 0 5) - (nI 1)))) μ2) noX) noX) ∧ (μ 26 0 0 5 = nI 16 → P (some (.int (nI 0))) (up (up μ 10 0 0 6 (nI 0)) 10 0 0 6 (nI 3))))) ∧ (btw x5 (nI 0) (nI 1000) = false → P (some (.int (nI 0))) (up (up μ 10 0 0 6 (nI 0)) 10 0 0 6 (nI 2))))))))))) ∧ (isSt x1 = false → P (some (.int (nI 0))) (up (up μ 10 0 0 6 (nI 0)) 10 0 0 6 (nI 1))))) :
    Con G mX8_addGuest [.ref (zad G.1 10 0 0), .int x1, .int x2, .int x3, .int x4, .int x5] μ P X := by
  refine con_of pn_X8 rfl (Nat.le_of_ble_eq_true rfl) ?_
  show VL G mX8_addGuest P X 0 [(0, .ref (zad G.1 10 0 0)), (1, .int x1), (2, .int x2), (3, .int x3), (4, .int x4), (5, .int x5)] [] μ
  refine v_aload_n (n := 1) dX8_addGuest_0 rfl rfl ?_
  refine v_iconst (n := 2) (x := nI 0) dX8_addGuest_1 rfl (by decide) ?_
  refine v_putf (n := 5) dX8_addGuest_2 rfl fw_X8_41 zokc_10 (fun _ => rfl) rfl rfl ?_
  refine v_iload_n (n := 6) dX8_addGuest_5 rfl rfl ?_
  refine v_callS (n := 9) (As := [.int x1]) (rest := []) dX8_addGuest_6 rfl lk_X8_58 rfl rfl (Nat.le_of_ble_eq_true rfl) ⟨Nat.le_of_ble_eq_true rfl, Nat.le_of_ble_eq_true rfl, Nat.le_of_ble_eq_true rfl, Nat.le_of_ble_eq_true rfl⟩ (s_X8_isStation G x1 (up μ 10 0 0 6 (nI 0))) (fun v μ9 hp => ?_) (fun _ _ hp => False.elim hp)
  rw [hp.1, hp.2]
  refine v_norm (st' := [.int (bI (isSt x1))]) (cells' := 0) (slots' := 0) rfl rfl rfl ?_
  refine v_if_ne (n := 12) (t := 18) dX8_addGuest_9 rfl (by decide) (fun hq => ?_) (fun hq => ?_)
  · replace h := h.1 (bI_nf hq)
    refine v_iload_n (n := 19) dX8_addGuest_18 rfl rfl ?_
    refine v_iconst (n := 20) (x := nI 1) dX8_addGuest_19 rfl (by decide) ?_
    refine v_iconst (n := 21) (x := nI 3) dX8_addGuest_20 rfl (by decide) ?_
    refine v_callS (n := 24) (As := [.int x2, .int (nI 1), .int (nI 3)]) (rest := []) dX8_addGuest_21 rfl lk_X8_47 rfl rfl (Nat.le_of_ble_eq_true rfl) ⟨Nat.le_of_ble_eq_true rfl, Nat.le_of_ble_eq_true rfl, Nat.le_of_ble_eq_true rfl, Nat.le_of_ble_eq_true rfl⟩ (s_X8_in G x2 (nI 1) (nI 3) (up μ 10 0 0 6 (nI 0))) (fun v μ9 hp => ?_) (fun _ _ hp => False.elim hp)
    rw [hp.1, hp.2]
    refine v_norm (st' := [.int (bI (btw x2 (nI 1) (nI 3)))]) (cells' := 0) (slots' := 0) rfl rfl rfl ?_
    refine v_if_eq (n := 27) (t := 61) dX8_addGuest_24 rfl (by decide) (fun hq => ?_) (fun hq => ?_)
    · replace h := h.1 (bI_f hq)
      refine v_aload_n (n := 62) dX8_addGuest_61 rfl rfl ?_
      refine v_iconst (n := 63) (x := nI 2) dX8_addGuest_62 rfl (by decide) ?_
      refine v_callV (n := 66) (k := 10) (b := 0) (i := 0) (As := [.int (nI 2)]) (rest := []) dX8_addGuest_63 rfl lk_X8_62 rfl rfl (Nat.le_of_ble_eq_true rfl) ⟨Nat.le_of_ble_eq_true rfl, Nat.le_of_ble_eq_true rfl, Nat.le_of_ble_eq_true rfl, Nat.le_of_ble_eq_true rfl⟩ zokc_10 (s_X8_refuse G (nI 2) (up μ 10 0 0 6 (nI 0))) (fun v μ9 hp => ?_) (fun _ _ hp => False.elim hp)
      rw [hp.1, hp.2]
      refine v_norm (st' := [.int (nI 0)]) (cells' := 0) (slots' := 0) rfl rfl rfl ?_
      exact v_iret dX8_addGuest_66 rfl (Nat.le_of_ble_eq_true rfl) (Nat.le_of_ble_eq_true rfl) h
    · replace h := h.2 (bI_nf hq)
      refine v_iload_n (n := 28) dX8_addGuest_27 rfl rfl ?_
      refine v_iconst (n := 29) (x := nI 0) dX8_addGuest_28 rfl (by decide) ?_
      refine v_bipush (n := 31) (x := nI 15) dX8_addGuest_29 rfl (by decide) ?_
      refine v_callS (n := 34) (As := [.int x3, .int (nI 0), .int (nI 15)]) (rest := []) dX8_addGuest_31 rfl lk_X8_47 rfl rfl (Nat.le_of_ble_eq_true rfl) ⟨Nat.le_of_ble_eq_true rfl, Nat.le_of_ble_eq_true rfl, Nat.le_of_ble_eq_true rfl, Nat.le_of_ble_eq_true rfl⟩ (s_X8_in G x3 (nI 0) (nI 15) (up μ 10 0 0 6 (nI 0))) (fun v μ9 hp => ?_) (fun _ _ hp => False.elim hp)
      rw [hp.1, hp.2]
      refine v_norm (st' := [.int (bI (btw x3 (nI 0) (nI 15)))]) (cells' := 0) (slots' := 0) rfl rfl rfl ?_
      refine v_if_eq (n := 37) (t := 61) dX8_addGuest_34 rfl (by decide) (fun hq => ?_) (fun hq => ?_)
      · replace h := h.1 (bI_f hq)
        refine v_aload_n (n := 62) dX8_addGuest_61 rfl rfl ?_
        refine v_iconst (n := 63) (x := nI 2) dX8_addGuest_62 rfl (by decide) ?_
        refine v_callV (n := 66) (k := 10) (b := 0) (i := 0) (As := [.int (nI 2)]) (rest := []) dX8_addGuest_63 rfl lk_X8_62 rfl rfl (Nat.le_of_ble_eq_true rfl) ⟨Nat.le_of_ble_eq_true rfl, Nat.le_of_ble_eq_true rfl, Nat.le_of_ble_eq_true rfl, Nat.le_of_ble_eq_true rfl⟩ zokc_10 (s_X8_refuse G (nI 2) (up μ 10 0 0 6 (nI 0))) (fun v μ9 hp => ?_) (fun _ _ hp => False.elim hp)
        rw [hp.1, hp.2]
        refine v_norm (st' := [.int (nI 0)]) (cells' := 0) (slots' := 0) rfl rfl rfl ?_
        exact v_iret dX8_addGuest_66 rfl (Nat.le_of_ble_eq_true rfl) (Nat.le_of_ble_eq_true rfl) h
      · replace h := h.2 (bI_nf hq)
        refine v_iload (n := 39) dX8_addGuest_37 rfl rfl ?_
        refine v_iconst (n := 40) (x := nI 0) dX8_addGuest_39 rfl (by decide) ?_
        refine v_sipush (n := 43) (x := nI 1000) dX8_addGuest_40 rfl (by decide) ?_
        refine v_callS (n := 46) (As := [.int x4, .int (nI 0), .int (nI 1000)]) (rest := []) dX8_addGuest_43 rfl lk_X8_47 rfl rfl (Nat.le_of_ble_eq_true rfl) ⟨Nat.le_of_ble_eq_true rfl, Nat.le_of_ble_eq_true rfl, Nat.le_of_ble_eq_true rfl, Nat.le_of_ble_eq_true rfl⟩ (s_X8_in G x4 (nI 0) (nI 1000) (up μ 10 0 0 6 (nI 0))) (fun v μ9 hp => ?_) (fun _ _ hp => False.elim hp)
        rw [hp.1, hp.2]
        refine v_norm (st' := [.int (bI (btw x4 (nI 0) (nI 1000)))]) (cells' := 0) (slots' := 0) rfl rfl rfl ?_
        refine v_if_eq (n := 49) (t := 61) dX8_addGuest_46 rfl (by decide) (fun hq => ?_) (fun hq => ?_)
        · replace h := h.1 (bI_f hq)
          refine v_aload_n (n := 62) dX8_addGuest_61 rfl rfl ?_
          refine v_iconst (n := 63) (x := nI 2) dX8_addGuest_62 rfl (by decide) ?_
          refine v_callV (n := 66) (k := 10) (b := 0) (i := 0) (As := [.int (nI 2)]) (rest := []) dX8_addGuest_63 rfl lk_X8_62 rfl rfl (Nat.le_of_ble_eq_true rfl) ⟨Nat.le_of_ble_eq_true rfl, Nat.le_of_ble_eq_true rfl, Nat.le_of_ble_eq_true rfl, Nat.le_of_ble_eq_true rfl⟩ zokc_10 (s_X8_refuse G (nI 2) (up μ 10 0 0 6 (nI 0))) (fun v μ9 hp => ?_) (fun _ _ hp => False.elim hp)
          rw [hp.1, hp.2]
          refine v_norm (st' := [.int (nI 0)]) (cells' := 0) (slots' := 0) rfl rfl rfl ?_
          exact v_iret dX8_addGuest_66 rfl (Nat.le_of_ble_eq_true rfl) (Nat.le_of_ble_eq_true rfl) h
        · replace h := h.2 (bI_nf hq)
          refine v_iload (n := 51) dX8_addGuest_49 rfl rfl ?_
          refine v_iconst (n := 52) (x := nI 0) dX8_addGuest_51 rfl (by decide) ?_
          refine v_sipush (n := 55) (x := nI 1000) dX8_addGuest_52 rfl (by decide) ?_
          refine v_callS (n := 58) (As := [.int x5, .int (nI 0), .int (nI 1000)]) (rest := []) dX8_addGuest_55 rfl lk_X8_47 rfl rfl (Nat.le_of_ble_eq_true rfl) ⟨Nat.le_of_ble_eq_true rfl, Nat.le_of_ble_eq_true rfl, Nat.le_of_ble_eq_true rfl, Nat.le_of_ble_eq_true rfl⟩ (s_X8_in G x5 (nI 0) (nI 1000) (up μ 10 0 0 6 (nI 0))) (fun v μ9 hp => ?_) (fun _ _ hp => False.elim hp)
          rw [hp.1, hp.2]
          refine v_norm (st' := [.int (bI (btw x5 (nI 0) (nI 1000)))]) (cells' := 0) (slots' := 0) rfl rfl rfl ?_
          refine v_if_ne (n := 61) (t := 67) dX8_addGuest_58 rfl (by decide) (fun hq => ?_) (fun hq => ?_)
          · replace h := h.1 (bI_nf hq)
            refine v_aload_n (n := 68) dX8_addGuest_67 rfl rfl ?_
            refine v_getf (n := 71) dX8_addGuest_68 rfl fl_X8_9 zokc_10 rfl ?_
            refine v_iconst (n := 72) (x := nI 5) dX8_addGuest_71 rfl (by decide) ?_
            refine v_iald (n := 73) (j := 5) dX8_addGuest_72 rfl zokc_26 (by decide) rfl rfl (by decide) (congrArg Value.int (up_k (by decide))) ?_
            refine v_bipush (n := 75) (x := nI 16) dX8_addGuest_73 rfl (by decide) ?_
            refine v_icmp_ne (n := 78) (t := 84) dX8_addGuest_75 rfl (by decide) (fun hq => ?_) (fun hq => ?_)
            · replace h := h.1 hq
              refine v_aload_n (n := 85) dX8_addGuest_84 rfl rfl ?_
              refine v_callV (n := 88) (k := 10) (b := 0) (i := 0) (As := []) (rest := []) dX8_addGuest_85 rfl lk_X8_65 rfl rfl (Nat.le_of_ble_eq_true rfl) ⟨Nat.le_of_ble_eq_true rfl, Nat.le_of_ble_eq_true rfl, Nat.le_of_ble_eq_true rfl, Nat.le_of_ble_eq_true rfl⟩ zokc_10 h (fun v μ1 h => ?_) (fun _ _ hp => False.elim hp)
              obtain ⟨rfl, h⟩ := h
              refine v_norm (st' := []) (cells' := 0) (slots' := 0) rfl rfl rfl ?_
              refine v_aload_n (n := 89) dX8_addGuest_88 rfl rfl ?_
              refine v_iload_n (n := 90) dX8_addGuest_89 rfl rfl ?_
              refine v_iload_n (n := 91) dX8_addGuest_90 rfl rfl ?_
              refine v_iload_n (n := 92) dX8_addGuest_91 rfl rfl ?_
              refine v_iload (n := 94) dX8_addGuest_92 rfl rfl ?_
              refine v_iload (n := 96) dX8_addGuest_94 rfl rfl ?_
              refine v_callV (n := 99) (k := 10) (b := 0) (i := 0) (As := [.int x1, .int x2, .int x3, .int x4, .int x5]) (rest := []) dX8_addGuest_96 rfl lk_X8_88 rfl rfl (Nat.le_of_ble_eq_true rfl) ⟨Nat.le_of_ble_eq_true rfl, Nat.le_of_ble_eq_true rfl, Nat.le_of_ble_eq_true rfl, Nat.le_of_ble_eq_true rfl⟩ zokc_10 h (fun v μ2 h => ?_) (fun _ _ hp => False.elim hp)
              obtain ⟨rfl, h⟩ := h
              refine v_norm (st' := []) (cells' := 0) (slots' := 0) rfl rfl rfl ?_
              refine v_aload_n (n := 100) dX8_addGuest_99 rfl rfl ?_
              refine v_getf (n := 103) dX8_addGuest_100 rfl fl_X8_9 zokc_10 rfl ?_
              refine v_iconst (n := 104) (x := nI 5) dX8_addGuest_103 rfl (by decide) ?_
              refine v_iald (n := 105) (j := 5) dX8_addGuest_104 rfl zokc_26 (by decide) rfl rfl (by decide) (rfl) ?_
              refine v_iconst (n := 106) (x := nI 1) dX8_addGuest_105 rfl (by decide) ?_
              refine v_isub (n := 107) dX8_addGuest_106 rfl ?_
              exact v_iret dX8_addGuest_107 rfl (Nat.le_of_ble_eq_true rfl) (Nat.le_of_ble_eq_true rfl) h
            · replace h := h.2 hq
              refine v_aload_n (n := 79) dX8_addGuest_78 rfl rfl ?_
              refine v_iconst (n := 80) (x := nI 3) dX8_addGuest_79 rfl (by decide) ?_
              refine v_callV (n := 83) (k := 10) (b := 0) (i := 0) (As := [.int (nI 3)]) (rest := []) dX8_addGuest_80 rfl lk_X8_62 rfl rfl (Nat.le_of_ble_eq_true rfl) ⟨Nat.le_of_ble_eq_true rfl, Nat.le_of_ble_eq_true rfl, Nat.le_of_ble_eq_true rfl, Nat.le_of_ble_eq_true rfl⟩ zokc_10 (s_X8_refuse G (nI 3) (up μ 10 0 0 6 (nI 0))) (fun v μ9 hp => ?_) (fun _ _ hp => False.elim hp)
              rw [hp.1, hp.2]
              refine v_norm (st' := [.int (nI 0)]) (cells' := 0) (slots' := 0) rfl rfl rfl ?_
              exact v_iret dX8_addGuest_83 rfl (Nat.le_of_ble_eq_true rfl) (Nat.le_of_ble_eq_true rfl) h
          · replace h := h.2 (bI_f hq)
            refine v_aload_n (n := 62) dX8_addGuest_61 rfl rfl ?_
            refine v_iconst (n := 63) (x := nI 2) dX8_addGuest_62 rfl (by decide) ?_
            refine v_callV (n := 66) (k := 10) (b := 0) (i := 0) (As := [.int (nI 2)]) (rest := []) dX8_addGuest_63 rfl lk_X8_62 rfl rfl (Nat.le_of_ble_eq_true rfl) ⟨Nat.le_of_ble_eq_true rfl, Nat.le_of_ble_eq_true rfl, Nat.le_of_ble_eq_true rfl, Nat.le_of_ble_eq_true rfl⟩ zokc_10 (s_X8_refuse G (nI 2) (up μ 10 0 0 6 (nI 0))) (fun v μ9 hp => ?_) (fun _ _ hp => False.elim hp)
            rw [hp.1, hp.2]
            refine v_norm (st' := [.int (nI 0)]) (cells' := 0) (slots' := 0) rfl rfl rfl ?_
            exact v_iret dX8_addGuest_66 rfl (Nat.le_of_ble_eq_true rfl) (Nat.le_of_ble_eq_true rfl) h
  · replace h := h.2 (bI_f hq)
    refine v_aload_n (n := 13) dX8_addGuest_12 rfl rfl ?_
    refine v_iconst (n := 14) (x := nI 1) dX8_addGuest_13 rfl (by decide) ?_
    refine v_callV (n := 17) (k := 10) (b := 0) (i := 0) (As := [.int (nI 1)]) (rest := []) dX8_addGuest_14 rfl lk_X8_62 rfl rfl (Nat.le_of_ble_eq_true rfl) ⟨Nat.le_of_ble_eq_true rfl, Nat.le_of_ble_eq_true rfl, Nat.le_of_ble_eq_true rfl, Nat.le_of_ble_eq_true rfl⟩ zokc_10 (s_X8_refuse G (nI 1) (up μ 10 0 0 6 (nI 0))) (fun v μ9 hp => ?_) (fun _ _ hp => False.elim hp)
    rw [hp.1, hp.2]
    refine v_norm (st' := [.int (nI 0)]) (cells' := 0) (slots' := 0) rfl rfl rfl ?_
    exact v_iret dX8_addGuest_17 rfl (Nat.le_of_ble_eq_true rfl) (Nat.le_of_ble_eq_true rfl) h

set_option maxRecDepth 20000 in
set_option maxHeartbeats 4000000 in
theorem wX8_placeOf (G : Gl) {P : Option Value → St → Prop} {X : String → St → Prop} (g : Nat) (hg : g < 16) (μ : St)
    (h : VL G mX8_placeOf P X 20 [(0, .ref (zad G.1 10 0 0)), (1, .int (nI g)), (2, .int ((nI 6 + nI 21 * (μ 26 0 0 (212 + 10 * g + 5))) + (nI 11))), (3, .int (nI 0))] [] μ) :
    Con G mX8_placeOf [.ref (zad G.1 10 0 0), .int (nI g)] μ P X := by
  refine con_of pn_X8 rfl (Nat.le_of_ble_eq_true rfl) ?_
  show VL G mX8_placeOf P X 0 [(0, .ref (zad G.1 10 0 0)), (1, .int (nI g))] [] μ
  refine v_aload_n (n := 1) dX8_placeOf_0 rfl rfl ?_
  refine v_getf (n := 4) dX8_placeOf_1 rfl fl_X8_9 zokc_10 rfl ?_
  refine v_iload_n (n := 5) dX8_placeOf_4 rfl rfl ?_
  refine v_callS (n := 8) (As := [.int (nI g)]) (rest := [.ref (zad G.1 26 0 0)]) dX8_placeOf_5 rfl lk_X8_71 rfl rfl (Nat.le_of_ble_eq_true rfl) ⟨Nat.le_of_ble_eq_true rfl, Nat.le_of_ble_eq_true rfl, Nat.le_of_ble_eq_true rfl, Nat.le_of_ble_eq_true rfl⟩ (s_X8_guest0N G g μ) (fun v μ9 hp => ?_) (fun _ _ hp => False.elim hp)
  rw [hp.1, hp.2]
  refine v_norm (st' := [.int (nI (212 + 10 * g)), .ref (zad G.1 26 0 0)]) (cells' := 0) (slots' := 0) rfl rfl rfl ?_
  refine v_iconst (n := 9) (x := nI 5) dX8_placeOf_8 rfl (by decide) ?_
  refine v_iadd (n := 10) dX8_placeOf_9 rfl ?_
  refine v_top (y := nI (212 + 10 * g + 5)) (nI_add (212 + 10 * g) 5) ?_
  refine v_iald (n := 11) (j := (212 + 10 * g + 5)) dX8_placeOf_10 rfl zokc_26 (by decide) rfl rfl (show 212 + 10 * g + 5 < 372 by omega) (rfl) ?_
  refine v_callS (n := 14) (As := [.int (μ 26 0 0 (212 + 10 * g + 5))]) (rest := []) dX8_placeOf_11 rfl lk_X8_51 rfl rfl (Nat.le_of_ble_eq_true rfl) ⟨Nat.le_of_ble_eq_true rfl, Nat.le_of_ble_eq_true rfl, Nat.le_of_ble_eq_true rfl, Nat.le_of_ble_eq_true rfl⟩ (s_X8_lift0 G (μ 26 0 0 (212 + 10 * g + 5)) μ) (fun v μ9 hp => ?_) (fun _ _ hp => False.elim hp)
  rw [hp.1, hp.2]
  refine v_norm (st' := [.int (nI 6 + nI 21 * (μ 26 0 0 (212 + 10 * g + 5)))]) (cells' := 0) (slots' := 0) rfl rfl rfl ?_
  refine v_bipush (n := 16) (x := nI 11) dX8_placeOf_14 rfl (by decide) ?_
  refine v_iadd (n := 17) dX8_placeOf_16 rfl ?_
  refine v_istore_n (n := 18) (L' := [(0, .ref (zad G.1 10 0 0)), (1, .int (nI g)), (2, .int ((nI 6 + nI 21 * (μ 26 0 0 (212 + 10 * g + 5))) + (nI 11)))]) dX8_placeOf_17 rfl (by decide) rfl ?_
  refine v_iconst (n := 19) (x := nI 0) dX8_placeOf_18 rfl (by decide) ?_
  refine v_istore_n (n := 20) (L' := [(0, .ref (zad G.1 10 0 0)), (1, .int (nI g)), (2, .int ((nI 6 + nI 21 * (μ 26 0 0 (212 + 10 * g + 5))) + (nI 11))), (3, .int (nI 0))]) dX8_placeOf_19 rfl (by decide) rfl ?_
  exact h

set_option maxRecDepth 20000 in
set_option maxHeartbeats 4000000 in
theorem wX8_placeOf_20 (G : Gl) {P : Option Value → St → Prop} {X : String → St → Prop} (g : Nat) (hg : g < 16) (y2 : Int32) (i3 : Nat) (μ : St)
    (h : ∃ j1 : Nat, y2 + (nI i3) = nI j1 ∧ j1 < 372 ∧ ((μ 26 0 0 j1 = nI g → P (some (.int (nI i3))) μ) ∧ (¬ μ 26 0 0 j1 = nI g → VL G mX8_placeOf P X 20 [(0, .ref (zad G.1 10 0 0)), (1, .int (nI g)), (2, .int y2), (3, .int (nI (i3 + 1)))] [] μ))) :
    VL G mX8_placeOf P X 20 [(0, .ref (zad G.1 10 0 0)), (1, .int (nI g)), (2, .int y2), (3, .int (nI i3))] [] μ := by
  refine v_aload_n (n := 21) dX8_placeOf_20 rfl rfl ?_
  refine v_getf (n := 24) dX8_placeOf_21 rfl fl_X8_9 zokc_10 rfl ?_
  refine v_iload_n (n := 25) dX8_placeOf_24 rfl rfl ?_
  refine v_iload_n (n := 26) dX8_placeOf_25 rfl rfl ?_
  refine v_iadd (n := 27) dX8_placeOf_26 rfl ?_
  obtain ⟨j1, ej1, hj1, h⟩ := h
  refine v_iald (n := 28) (j := j1) dX8_placeOf_27 rfl zokc_26 (by decide) rfl ej1 hj1 (rfl) ?_
  refine v_iload_n (n := 29) dX8_placeOf_28 rfl rfl ?_
  refine v_icmp_eq (n := 32) (t := 38) dX8_placeOf_29 rfl (by decide) (fun hq => ?_) (fun hq => ?_)
  · replace h := h.1 hq
    refine v_iload_n (n := 39) dX8_placeOf_38 rfl rfl ?_
    exact v_iret dX8_placeOf_39 rfl (Nat.le_of_ble_eq_true rfl) (Nat.le_of_ble_eq_true rfl) h
  · replace h := h.2 hq
    refine v_iinc (n := 35) (x := nI i3) (y := nI (i3 + 1)) (L' := [(0, .ref (zad G.1 10 0 0)), (1, .int (nI g)), (2, .int y2), (3, .int (nI (i3 + 1)))]) dX8_placeOf_32 rfl rfl (nI_1 i3) (by decide) rfl ?_
    refine v_goto (n := 20) dX8_placeOf_35 (by decide) ?_
    exact h

set_option maxRecDepth 20000 in
set_option maxHeartbeats 4000000 in
theorem wX8_guest (G : Gl) {P : Option Value → St → Prop} {X : String → St → Prop} (x1 : Int32) (x2 : Int32) (μ : St)
    (h : ((mix μ 5 x1 = true → ((btw x2 (nI 0) (nI 6) = true → ((nI 0 ≤ 0 → ∃ j1 : Nat, (nI 212 + nI 10 * x1) + (nI 4) = nI j1 ∧ j1 < 372 ∧ ((x2 = nI 0 → P (some (.int (μ 26 0 0 j1))) (up μ 10 0 0 6 (nI 0))) ∧ (¬ x2 = nI 0 → ((x2 = nI 1 → ((¬ μ 26 0 0 j1 = nI 4 → ∃ j2 : Nat, (nI 212 + nI 10 * x1) + (nI 5) = nI j2 ∧ j2 < 372 ∧ P (some (.int (μ 26 0 0 j2))) (up μ 10 0 0 6 (nI 0))) ∧ (μ 26 0 0 j1 = nI 4 → P (some (.int (-1 : Int32))) (up μ 10 0 0 6 (nI 0))))) ∧ (¬ x2 = nI 1 → ((x2 = nI 2 → ((¬ μ 26 0 0 j1 = nI 1 → ((μ 26 0 0 j1 = nI 2 → ∃ j3 : Nat, (nI 212 + nI 10 * x1) + (nI 6) = nI j3 ∧ j3 < 372 ∧ P (some (.int (μ 26 0 0 j3))) (up μ 10 0 0 6 (nI 0))) ∧ (¬ μ 26 0 0 j1 = nI 2 → ((¬ μ 26 0 0 j1 = nI 3 → P (some (.int (nI 0))) (up μ 10 0 0 6 (nI 0))) ∧ (μ 26 0 0 j1 = nI 3 → ∃ j4 : Nat, (nI 212 + nI 10 * x1) + (nI 6) = nI j4 ∧ j4 < 372 ∧ P (some (.int (μ 26 0 0 j4))) (up μ 10 0 0 6 (nI 0))))))) ∧ (μ 26 0 0 j1 = nI 1 → Con G mX8_placeOf [.ref (zad G.1 10 0 0), .int x1] (up μ 10 0 0 6 (nI 0)) (fun v μ1 => ∃ r1 : Int32, v = some (.int r1) ∧ P (some (.int r1)) μ1) noX))) ∧ (¬ x2 = nI 2 → ∃ j5 : Nat, ((nI 212 + nI 10 * x1) + x2) - (nI 3) = nI j5 ∧ j5 < 372 ∧ P (some (.int (μ 26 0 0 j5))) (up μ 10 0 0 6 (nI 0))))))))) ∧ (¬ nI 0 ≤ 0 → P (some (.int (nI 0))) (up μ 10 0 0 6 (nI 0))))) ∧ (btw x2 (nI 0) (nI 6) = false → ((nI 2 ≤ 0 → ∃ j6 : Nat, (nI 212 + nI 10 * x1) + (nI 4) = nI j6 ∧ j6 < 372 ∧ ((x2 = nI 0 → P (some (.int (μ 26 0 0 j6))) (up μ 10 0 0 6 (nI 2))) ∧ (¬ x2 = nI 0 → ((x2 = nI 1 → ((¬ μ 26 0 0 j6 = nI 4 → ∃ j7 : Nat, (nI 212 + nI 10 * x1) + (nI 5) = nI j7 ∧ j7 < 372 ∧ P (some (.int (μ 26 0 0 j7))) (up μ 10 0 0 6 (nI 2))) ∧ (μ 26 0 0 j6 = nI 4 → P (some (.int (-1 : Int32))) (up μ 10 0 0 6 (nI 2))))) ∧ (¬ x2 = nI 1 → ((x2 = nI 2 → ((¬ μ 26 0 0 j6 = nI 1 → ((μ 26 0 0 j6 = nI 2 → ∃ j8 : Nat, (nI 212 + nI 10 * x1) + (nI 6) = nI j8 ∧ j8 < 372 ∧ P (some (.int (μ 26 0 0 j8))) (up μ 10 0 0 6 (nI 2))) ∧ (¬ μ 26 0 0 j6 = nI 2 → ((¬ μ 26 0 0 j6 = nI 3 → P (some (.int (nI 0))) (up μ 10 0 0 6 (nI 2))) ∧ (μ 26 0 0 j6 = nI 3 → ∃ j9 : Nat, (nI 212 + nI 10 * x1) + (nI 6) = nI j9 ∧ j9 < 372 ∧ P (some (.int (μ 26 0 0 j9))) (up μ 10 0 0 6 (nI 2))))))) ∧ (μ 26 0 0 j6 = nI 1 → Con G mX8_placeOf [.ref (zad G.1 10 0 0), .int x1] (up μ 10 0 0 6 (nI 2)) (fun v μ2 => ∃ r2 : Int32, v = some (.int r2) ∧ P (some (.int r2)) μ2) noX))) ∧ (¬ x2 = nI 2 → ∃ j10 : Nat, ((nI 212 + nI 10 * x1) + x2) - (nI 3) = nI j10 ∧ j10 < 372 ∧ P (some (.int (μ 26 0 0 j10))) (up μ 10 0 0 6 (nI 2))))))))) ∧ (¬ nI 2 ≤ 0 → P (some (.int (nI 0))) (up μ 10 0 0 6 (nI 2))))))) ∧ (mix μ 5 x1 = false → ((nI 1 ≤ 0 → ∃ j11 : Nat, (nI 212 + nI 10 * x1) + (nI 4) = nI j11 ∧ j11 < 372 ∧ ((x2 = nI 0 → P (some (.int (μ 26 0 0 j11))) (up μ 10 0 0 6 (nI 1))) ∧ (¬ x2 = nI 0 → ((x2 = nI 1 → ((¬ μ 26 0 0 j11 = nI 4 → ∃ j12 : Nat, (nI 212 + nI 10 * x1) + (nI 5) = nI j12 ∧ j12 < 372 ∧ P (some (.int (μ 26 0 0 j12))) (up μ 10 0 0 6 (nI 1))) ∧ (μ 26 0 0 j11 = nI 4 → P (some (.int (-1 : Int32))) (up μ 10 0 0 6 (nI 1))))) ∧ (¬ x2 = nI 1 → ((x2 = nI 2 → ((¬ μ 26 0 0 j11 = nI 1 → ((μ 26 0 0 j11 = nI 2 → ∃ j13 : Nat, (nI 212 + nI 10 * x1) + (nI 6) = nI j13 ∧ j13 < 372 ∧ P (some (.int (μ 26 0 0 j13))) (up μ 10 0 0 6 (nI 1))) ∧ (¬ μ 26 0 0 j11 = nI 2 → ((¬ μ 26 0 0 j11 = nI 3 → P (some (.int (nI 0))) (up μ 10 0 0 6 (nI 1))) ∧ (μ 26 0 0 j11 = nI 3 → ∃ j14 : Nat, (nI 212 + nI 10 * x1) + (nI 6) = nI j14 ∧ j14 < 372 ∧ P (some (.int (μ 26 0 0 j14))) (up μ 10 0 0 6 (nI 1))))))) ∧ (μ 26 0 0 j11 = nI 1 → Con G mX8_placeOf [.ref (zad G.1 10 0 0), .int x1] (up μ 10 0 0 6 (nI 1)) (fun v μ3 => ∃ r3 : Int32, v = some (.int r3) ∧ P (some (.int r3)) μ3) noX))) ∧ (¬ x2 = nI 2 → ∃ j15 : Nat, ((nI 212 + nI 10 * x1) + x2) - (nI 3) = nI j15 ∧ j15 < 372 ∧ P (some (.int (μ 26 0 0 j15))) (up μ 10 0 0 6 (nI 1))))))))) ∧ (¬ nI 1 ≤ 0 → P (some (.int (nI 0))) (up μ 10 0 0 6 (nI 1))))))) :
    Con G mX8_guest [.ref (zad G.1 10 0 0), .int x1, .int x2] μ P X := by
  refine con_of pn_X8 rfl (Nat.le_of_ble_eq_true rfl) ?_
  show VL G mX8_guest P X 0 [(0, .ref (zad G.1 10 0 0)), (1, .int x1), (2, .int x2)] [] μ
  refine v_aload_n (n := 1) dX8_guest_0 rfl rfl ?_
  refine v_aload_n (n := 2) dX8_guest_1 rfl rfl ?_
  refine v_iload_n (n := 3) dX8_guest_2 rfl rfl ?_
  refine v_callV (n := 6) (k := 10) (b := 0) (i := 0) (As := [.int x1]) (rest := [.ref (zad G.1 10 0 0)]) dX8_guest_3 rfl lk_X8_92 rfl rfl (Nat.le_of_ble_eq_true rfl) ⟨Nat.le_of_ble_eq_true rfl, Nat.le_of_ble_eq_true rfl, Nat.le_of_ble_eq_true rfl, Nat.le_of_ble_eq_true rfl⟩ zokc_10 (s_X8_isGuest G x1 μ) (fun v μ9 hp => ?_) (fun _ _ hp => False.elim hp)
  rw [hp.1, hp.2]
  refine v_norm (st' := [.int (bI (mix μ 5 x1)), .ref (zad G.1 10 0 0)]) (cells' := 0) (slots' := 0) rfl rfl rfl ?_
  refine v_if_ne (n := 9) (t := 13) dX8_guest_6 rfl (by decide) (fun hq => ?_) (fun hq => ?_)
  · replace h := h.1 (bI_nf hq)
    refine v_iload_n (n := 14) dX8_guest_13 rfl rfl ?_
    refine v_iconst (n := 15) (x := nI 0) dX8_guest_14 rfl (by decide) ?_
    refine v_bipush (n := 17) (x := nI 6) dX8_guest_15 rfl (by decide) ?_
    refine v_callS (n := 20) (As := [.int x2, .int (nI 0), .int (nI 6)]) (rest := [.ref (zad G.1 10 0 0)]) dX8_guest_17 rfl lk_X8_47 rfl rfl (Nat.le_of_ble_eq_true rfl) ⟨Nat.le_of_ble_eq_true rfl, Nat.le_of_ble_eq_true rfl, Nat.le_of_ble_eq_true rfl, Nat.le_of_ble_eq_true rfl⟩ (s_X8_in G x2 (nI 0) (nI 6) μ) (fun v μ9 hp => ?_) (fun _ _ hp => False.elim hp)
    rw [hp.1, hp.2]
    refine v_norm (st' := [.int (bI (btw x2 (nI 0) (nI 6))), .ref (zad G.1 10 0 0)]) (cells' := 0) (slots' := 0) rfl rfl rfl ?_
    refine v_if_ne (n := 23) (t := 27) dX8_guest_20 rfl (by decide) (fun hq => ?_) (fun hq => ?_)
    · replace h := h.1 (bI_nf hq)
      refine v_iconst (n := 28) (x := nI 0) dX8_guest_27 rfl (by decide) ?_
      refine v_putf (n := 31) dX8_guest_28 rfl fw_X8_41 zokc_10 (fun _ => rfl) rfl rfl ?_
      refine v_aload_n (n := 32) dX8_guest_31 rfl rfl ?_
      refine v_getf (n := 35) dX8_guest_32 rfl fl_X8_41 zokc_10 (congrArg Value.int (up_self _ _ _ _ _ _)) ?_
      refine v_if_le (n := 38) (t := 40) dX8_guest_35 rfl (by decide) (fun hq => ?_) (fun hq => ?_)
      · replace h := h.1 hq
        refine v_iload_n (n := 41) dX8_guest_40 rfl rfl ?_
        refine v_callS (n := 44) (As := [.int x1]) (rest := []) dX8_guest_41 rfl lk_X8_71 rfl rfl (Nat.le_of_ble_eq_true rfl) ⟨Nat.le_of_ble_eq_true rfl, Nat.le_of_ble_eq_true rfl, Nat.le_of_ble_eq_true rfl, Nat.le_of_ble_eq_true rfl⟩ (s_X8_guest0 G x1 (up μ 10 0 0 6 (nI 0))) (fun v μ9 hp => ?_) (fun _ _ hp => False.elim hp)
        rw [hp.1, hp.2]
        refine v_norm (st' := [.int (nI 212 + nI 10 * x1)]) (cells' := 0) (slots' := 0) rfl rfl rfl ?_
        refine v_istore_n (n := 45) (L' := [(0, .ref (zad G.1 10 0 0)), (1, .int x1), (2, .int x2), (3, .int (nI 212 + nI 10 * x1))]) dX8_guest_44 rfl (by decide) rfl ?_
        refine v_aload_n (n := 46) dX8_guest_45 rfl rfl ?_
        refine v_getf (n := 49) dX8_guest_46 rfl fl_X8_9 zokc_10 rfl ?_
        refine v_iload_n (n := 50) dX8_guest_49 rfl rfl ?_
        refine v_iconst (n := 51) (x := nI 4) dX8_guest_50 rfl (by decide) ?_
        refine v_iadd (n := 52) dX8_guest_51 rfl ?_
        obtain ⟨j1, ej1, hj1, h⟩ := h
        refine v_iald (n := 53) (j := j1) dX8_guest_52 rfl zokc_26 (by decide) rfl ej1 hj1 (congrArg Value.int (up_k (by decide))) ?_
        refine v_istore (n := 55) (L' := [(0, .ref (zad G.1 10 0 0)), (1, .int x1), (2, .int x2), (3, .int (nI 212 + nI 10 * x1)), (4, .int (μ 26 0 0 j1))]) dX8_guest_53 rfl (by decide) rfl ?_
        refine v_iload_n (n := 56) dX8_guest_55 rfl rfl ?_
        by_cases hs0 : x2 = nI 0
        · replace h := h.1 hs0
          have hx : (x2).toInt = 0 := by rw [hs0]; rfl
          refine v_tableIn (n := 84) (off := 28) dX8_guest_56 (by rw [hx]; decide) (by rw [hx]; decide) (by rw [hx]; rfl) (by decide) ?_
          refine v_iload (n := 86) dX8_guest_84 rfl rfl ?_
          exact v_iret dX8_guest_86 rfl (Nat.le_of_ble_eq_true rfl) (Nat.le_of_ble_eq_true rfl) h
        replace h := h.2 hs0
        by_cases hs1 : x2 = nI 1
        · replace h := h.1 hs1
          have hx : (x2).toInt = 1 := by rw [hs1]; rfl
          refine v_tableIn (n := 87) (off := 31) dX8_guest_56 (by rw [hx]; decide) (by rw [hx]; decide) (by rw [hx]; rfl) (by decide) ?_
          refine v_iload (n := 89) dX8_guest_87 rfl rfl ?_
          refine v_iconst (n := 90) (x := nI 4) dX8_guest_89 rfl (by decide) ?_
          refine v_icmp_ne (n := 93) (t := 97) dX8_guest_90 rfl (by decide) (fun hq => ?_) (fun hq => ?_)
          · replace h := h.1 hq
            refine v_aload_n (n := 98) dX8_guest_97 rfl rfl ?_
            refine v_getf (n := 101) dX8_guest_98 rfl fl_X8_9 zokc_10 rfl ?_
            refine v_iload_n (n := 102) dX8_guest_101 rfl rfl ?_
            refine v_iconst (n := 103) (x := nI 5) dX8_guest_102 rfl (by decide) ?_
            refine v_iadd (n := 104) dX8_guest_103 rfl ?_
            obtain ⟨j2, ej2, hj2, h⟩ := h
            refine v_iald (n := 105) (j := j2) dX8_guest_104 rfl zokc_26 (by decide) rfl ej2 hj2 (congrArg Value.int (up_k (by decide))) ?_
            exact v_iret dX8_guest_105 rfl (Nat.le_of_ble_eq_true rfl) (Nat.le_of_ble_eq_true rfl) h
          · replace h := h.2 hq
            refine v_iconst (n := 94) (x := (-1 : Int32)) dX8_guest_93 rfl (by decide) ?_
            refine v_goto (n := 105) dX8_guest_94 (by decide) ?_
            exact v_iret dX8_guest_105 rfl (Nat.le_of_ble_eq_true rfl) (Nat.le_of_ble_eq_true rfl) h
        replace h := h.2 hs1
        by_cases hs2 : x2 = nI 2
        · replace h := h.1 hs2
          have hx : (x2).toInt = 2 := by rw [hs2]; rfl
          refine v_tableIn (n := 106) (off := 50) dX8_guest_56 (by rw [hx]; decide) (by rw [hx]; decide) (by rw [hx]; rfl) (by decide) ?_
          refine v_iload (n := 108) dX8_guest_106 rfl rfl ?_
          refine v_iconst (n := 109) (x := nI 1) dX8_guest_108 rfl (by decide) ?_
          refine v_icmp_ne (n := 112) (t := 120) dX8_guest_109 rfl (by decide) (fun hq => ?_) (fun hq => ?_)
          · replace h := h.1 hq
            refine v_iload (n := 122) dX8_guest_120 rfl rfl ?_
            refine v_iconst (n := 123) (x := nI 2) dX8_guest_122 rfl (by decide) ?_
            refine v_icmp_eq (n := 126) (t := 132) dX8_guest_123 rfl (by decide) (fun hq => ?_) (fun hq => ?_)
            · replace h := h.1 hq
              refine v_aload_n (n := 133) dX8_guest_132 rfl rfl ?_
              refine v_getf (n := 136) dX8_guest_133 rfl fl_X8_9 zokc_10 rfl ?_
              refine v_iload_n (n := 137) dX8_guest_136 rfl rfl ?_
              refine v_bipush (n := 139) (x := nI 6) dX8_guest_137 rfl (by decide) ?_
              refine v_iadd (n := 140) dX8_guest_139 rfl ?_
              obtain ⟨j3, ej3, hj3, h⟩ := h
              refine v_iald (n := 141) (j := j3) dX8_guest_140 rfl zokc_26 (by decide) rfl ej3 hj3 (congrArg Value.int (up_k (by decide))) ?_
              refine v_goto (n := 145) dX8_guest_141 (by decide) ?_
              exact v_iret dX8_guest_145 rfl (Nat.le_of_ble_eq_true rfl) (Nat.le_of_ble_eq_true rfl) h
            · replace h := h.2 hq
              refine v_iload (n := 128) dX8_guest_126 rfl rfl ?_
              refine v_iconst (n := 129) (x := nI 3) dX8_guest_128 rfl (by decide) ?_
              refine v_icmp_ne (n := 132) (t := 144) dX8_guest_129 rfl (by decide) (fun hq => ?_) (fun hq => ?_)
              · replace h := h.1 hq
                refine v_iconst (n := 145) (x := nI 0) dX8_guest_144 rfl (by decide) ?_
                exact v_iret dX8_guest_145 rfl (Nat.le_of_ble_eq_true rfl) (Nat.le_of_ble_eq_true rfl) h
              · replace h := h.2 hq
                refine v_aload_n (n := 133) dX8_guest_132 rfl rfl ?_
                refine v_getf (n := 136) dX8_guest_133 rfl fl_X8_9 zokc_10 rfl ?_
                refine v_iload_n (n := 137) dX8_guest_136 rfl rfl ?_
                refine v_bipush (n := 139) (x := nI 6) dX8_guest_137 rfl (by decide) ?_
                refine v_iadd (n := 140) dX8_guest_139 rfl ?_
                obtain ⟨j4, ej4, hj4, h⟩ := h
                refine v_iald (n := 141) (j := j4) dX8_guest_140 rfl zokc_26 (by decide) rfl ej4 hj4 (congrArg Value.int (up_k (by decide))) ?_
                refine v_goto (n := 145) dX8_guest_141 (by decide) ?_
                exact v_iret dX8_guest_145 rfl (Nat.le_of_ble_eq_true rfl) (Nat.le_of_ble_eq_true rfl) h
          · replace h := h.2 hq
            refine v_aload_n (n := 113) dX8_guest_112 rfl rfl ?_
            refine v_iload_n (n := 114) dX8_guest_113 rfl rfl ?_
            refine v_callV (n := 117) (k := 10) (b := 0) (i := 0) (As := [.int x1]) (rest := []) dX8_guest_114 rfl lk_X8_95 rfl rfl (Nat.le_of_ble_eq_true rfl) ⟨Nat.le_of_ble_eq_true rfl, Nat.le_of_ble_eq_true rfl, Nat.le_of_ble_eq_true rfl, Nat.le_of_ble_eq_true rfl⟩ zokc_10 h (fun v μ1 h => ?_) (fun _ _ hp => False.elim hp)
            obtain ⟨r1, rfl, h⟩ := h
            refine v_norm (st' := [.int r1]) (cells' := 0) (slots' := 0) rfl rfl rfl ?_
            refine v_goto (n := 145) dX8_guest_117 (by decide) ?_
            exact v_iret dX8_guest_145 rfl (Nat.le_of_ble_eq_true rfl) (Nat.le_of_ble_eq_true rfl) h
        replace h := h.2 hs2
        refine v_tableOut (n := 146) dX8_guest_56 (tsw_out 3 (fun k hk => by rcases (show k = 0 ∨ k = 1 ∨ k = 2 by omega) with rfl | rfl | rfl <;> assumption)) (by decide) ?_
        refine v_aload_n (n := 147) dX8_guest_146 rfl rfl ?_
        refine v_getf (n := 150) dX8_guest_147 rfl fl_X8_9 zokc_10 rfl ?_
        refine v_iload_n (n := 151) dX8_guest_150 rfl rfl ?_
        refine v_iload_n (n := 152) dX8_guest_151 rfl rfl ?_
        refine v_iadd (n := 153) dX8_guest_152 rfl ?_
        refine v_iconst (n := 154) (x := nI 3) dX8_guest_153 rfl (by decide) ?_
        refine v_isub (n := 155) dX8_guest_154 rfl ?_
        obtain ⟨j5, ej5, hj5, h⟩ := h
        refine v_iald (n := 156) (j := j5) dX8_guest_155 rfl zokc_26 (by decide) rfl ej5 hj5 (congrArg Value.int (up_k (by decide))) ?_
        exact v_iret dX8_guest_156 rfl (Nat.le_of_ble_eq_true rfl) (Nat.le_of_ble_eq_true rfl) h
      · replace h := h.2 hq
        refine v_iconst (n := 39) (x := nI 0) dX8_guest_38 rfl (by decide) ?_
        exact v_iret dX8_guest_39 rfl (Nat.le_of_ble_eq_true rfl) (Nat.le_of_ble_eq_true rfl) h
    · replace h := h.2 (bI_f hq)
      refine v_iconst (n := 24) (x := nI 2) dX8_guest_23 rfl (by decide) ?_
      refine v_goto (n := 28) dX8_guest_24 (by decide) ?_
      refine v_putf (n := 31) dX8_guest_28 rfl fw_X8_41 zokc_10 (fun _ => rfl) rfl rfl ?_
      refine v_aload_n (n := 32) dX8_guest_31 rfl rfl ?_
      refine v_getf (n := 35) dX8_guest_32 rfl fl_X8_41 zokc_10 (congrArg Value.int (up_self _ _ _ _ _ _)) ?_
      refine v_if_le (n := 38) (t := 40) dX8_guest_35 rfl (by decide) (fun hq => ?_) (fun hq => ?_)
      · replace h := h.1 hq
        refine v_iload_n (n := 41) dX8_guest_40 rfl rfl ?_
        refine v_callS (n := 44) (As := [.int x1]) (rest := []) dX8_guest_41 rfl lk_X8_71 rfl rfl (Nat.le_of_ble_eq_true rfl) ⟨Nat.le_of_ble_eq_true rfl, Nat.le_of_ble_eq_true rfl, Nat.le_of_ble_eq_true rfl, Nat.le_of_ble_eq_true rfl⟩ (s_X8_guest0 G x1 (up μ 10 0 0 6 (nI 2))) (fun v μ9 hp => ?_) (fun _ _ hp => False.elim hp)
        rw [hp.1, hp.2]
        refine v_norm (st' := [.int (nI 212 + nI 10 * x1)]) (cells' := 0) (slots' := 0) rfl rfl rfl ?_
        refine v_istore_n (n := 45) (L' := [(0, .ref (zad G.1 10 0 0)), (1, .int x1), (2, .int x2), (3, .int (nI 212 + nI 10 * x1))]) dX8_guest_44 rfl (by decide) rfl ?_
        refine v_aload_n (n := 46) dX8_guest_45 rfl rfl ?_
        refine v_getf (n := 49) dX8_guest_46 rfl fl_X8_9 zokc_10 rfl ?_
        refine v_iload_n (n := 50) dX8_guest_49 rfl rfl ?_
        refine v_iconst (n := 51) (x := nI 4) dX8_guest_50 rfl (by decide) ?_
        refine v_iadd (n := 52) dX8_guest_51 rfl ?_
        obtain ⟨j6, ej6, hj6, h⟩ := h
        refine v_iald (n := 53) (j := j6) dX8_guest_52 rfl zokc_26 (by decide) rfl ej6 hj6 (congrArg Value.int (up_k (by decide))) ?_
        refine v_istore (n := 55) (L' := [(0, .ref (zad G.1 10 0 0)), (1, .int x1), (2, .int x2), (3, .int (nI 212 + nI 10 * x1)), (4, .int (μ 26 0 0 j6))]) dX8_guest_53 rfl (by decide) rfl ?_
        refine v_iload_n (n := 56) dX8_guest_55 rfl rfl ?_
        by_cases hs0 : x2 = nI 0
        · replace h := h.1 hs0
          have hx : (x2).toInt = 0 := by rw [hs0]; rfl
          refine v_tableIn (n := 84) (off := 28) dX8_guest_56 (by rw [hx]; decide) (by rw [hx]; decide) (by rw [hx]; rfl) (by decide) ?_
          refine v_iload (n := 86) dX8_guest_84 rfl rfl ?_
          exact v_iret dX8_guest_86 rfl (Nat.le_of_ble_eq_true rfl) (Nat.le_of_ble_eq_true rfl) h
        replace h := h.2 hs0
        by_cases hs1 : x2 = nI 1
        · replace h := h.1 hs1
          have hx : (x2).toInt = 1 := by rw [hs1]; rfl
          refine v_tableIn (n := 87) (off := 31) dX8_guest_56 (by rw [hx]; decide) (by rw [hx]; decide) (by rw [hx]; rfl) (by decide) ?_
          refine v_iload (n := 89) dX8_guest_87 rfl rfl ?_
          refine v_iconst (n := 90) (x := nI 4) dX8_guest_89 rfl (by decide) ?_
          refine v_icmp_ne (n := 93) (t := 97) dX8_guest_90 rfl (by decide) (fun hq => ?_) (fun hq => ?_)
          · replace h := h.1 hq
            refine v_aload_n (n := 98) dX8_guest_97 rfl rfl ?_
            refine v_getf (n := 101) dX8_guest_98 rfl fl_X8_9 zokc_10 rfl ?_
            refine v_iload_n (n := 102) dX8_guest_101 rfl rfl ?_
            refine v_iconst (n := 103) (x := nI 5) dX8_guest_102 rfl (by decide) ?_
            refine v_iadd (n := 104) dX8_guest_103 rfl ?_
            obtain ⟨j7, ej7, hj7, h⟩ := h
            refine v_iald (n := 105) (j := j7) dX8_guest_104 rfl zokc_26 (by decide) rfl ej7 hj7 (congrArg Value.int (up_k (by decide))) ?_
            exact v_iret dX8_guest_105 rfl (Nat.le_of_ble_eq_true rfl) (Nat.le_of_ble_eq_true rfl) h
          · replace h := h.2 hq
            refine v_iconst (n := 94) (x := (-1 : Int32)) dX8_guest_93 rfl (by decide) ?_
            refine v_goto (n := 105) dX8_guest_94 (by decide) ?_
            exact v_iret dX8_guest_105 rfl (Nat.le_of_ble_eq_true rfl) (Nat.le_of_ble_eq_true rfl) h
        replace h := h.2 hs1
        by_cases hs2 : x2 = nI 2
        · replace h := h.1 hs2
          have hx : (x2).toInt = 2 := by rw [hs2]; rfl
          refine v_tableIn (n := 106) (off := 50) dX8_guest_56 (by rw [hx]; decide) (by rw [hx]; decide) (by rw [hx]; rfl) (by decide) ?_
          refine v_iload (n := 108) dX8_guest_106 rfl rfl ?_
          refine v_iconst (n := 109) (x := nI 1) dX8_guest_108 rfl (by decide) ?_
          refine v_icmp_ne (n := 112) (t := 120) dX8_guest_109 rfl (by decide) (fun hq => ?_) (fun hq => ?_)
          · replace h := h.1 hq
            refine v_iload (n := 122) dX8_guest_120 rfl rfl ?_
            refine v_iconst (n := 123) (x := nI 2) dX8_guest_122 rfl (by decide) ?_
            refine v_icmp_eq (n := 126) (t := 132) dX8_guest_123 rfl (by decide) (fun hq => ?_) (fun hq => ?_)
            · replace h := h.1 hq
              refine v_aload_n (n := 133) dX8_guest_132 rfl rfl ?_
              refine v_getf (n := 136) dX8_guest_133 rfl fl_X8_9 zokc_10 rfl ?_
              refine v_iload_n (n := 137) dX8_guest_136 rfl rfl ?_
              refine v_bipush (n := 139) (x := nI 6) dX8_guest_137 rfl (by decide) ?_
              refine v_iadd (n := 140) dX8_guest_139 rfl ?_
              obtain ⟨j8, ej8, hj8, h⟩ := h
              refine v_iald (n := 141) (j := j8) dX8_guest_140 rfl zokc_26 (by decide) rfl ej8 hj8 (congrArg Value.int (up_k (by decide))) ?_
              refine v_goto (n := 145) dX8_guest_141 (by decide) ?_
              exact v_iret dX8_guest_145 rfl (Nat.le_of_ble_eq_true rfl) (Nat.le_of_ble_eq_true rfl) h
            · replace h := h.2 hq
              refine v_iload (n := 128) dX8_guest_126 rfl rfl ?_
              refine v_iconst (n := 129) (x := nI 3) dX8_guest_128 rfl (by decide) ?_
              refine v_icmp_ne (n := 132) (t := 144) dX8_guest_129 rfl (by decide) (fun hq => ?_) (fun hq => ?_)
              · replace h := h.1 hq
                refine v_iconst (n := 145) (x := nI 0) dX8_guest_144 rfl (by decide) ?_
                exact v_iret dX8_guest_145 rfl (Nat.le_of_ble_eq_true rfl) (Nat.le_of_ble_eq_true rfl) h
              · replace h := h.2 hq
                refine v_aload_n (n := 133) dX8_guest_132 rfl rfl ?_
                refine v_getf (n := 136) dX8_guest_133 rfl fl_X8_9 zokc_10 rfl ?_
                refine v_iload_n (n := 137) dX8_guest_136 rfl rfl ?_
                refine v_bipush (n := 139) (x := nI 6) dX8_guest_137 rfl (by decide) ?_
                refine v_iadd (n := 140) dX8_guest_139 rfl ?_
                obtain ⟨j9, ej9, hj9, h⟩ := h
                refine v_iald (n := 141) (j := j9) dX8_guest_140 rfl zokc_26 (by decide) rfl ej9 hj9 (congrArg Value.int (up_k (by decide))) ?_
                refine v_goto (n := 145) dX8_guest_141 (by decide) ?_
                exact v_iret dX8_guest_145 rfl (Nat.le_of_ble_eq_true rfl) (Nat.le_of_ble_eq_true rfl) h
          · replace h := h.2 hq
            refine v_aload_n (n := 113) dX8_guest_112 rfl rfl ?_
            refine v_iload_n (n := 114) dX8_guest_113 rfl rfl ?_
            refine v_callV (n := 117) (k := 10) (b := 0) (i := 0) (As := [.int x1]) (rest := []) dX8_guest_114 rfl lk_X8_95 rfl rfl (Nat.le_of_ble_eq_true rfl) ⟨Nat.le_of_ble_eq_true rfl, Nat.le_of_ble_eq_true rfl, Nat.le_of_ble_eq_true rfl, Nat.le_of_ble_eq_true rfl⟩ zokc_10 h (fun v μ2 h => ?_) (fun _ _ hp => False.elim hp)
            obtain ⟨r2, rfl, h⟩ := h
            refine v_norm (st' := [.int r2]) (cells' := 0) (slots' := 0) rfl rfl rfl ?_
            refine v_goto (n := 145) dX8_guest_117 (by decide) ?_
            exact v_iret dX8_guest_145 rfl (Nat.le_of_ble_eq_true rfl) (Nat.le_of_ble_eq_true rfl) h
        replace h := h.2 hs2
        refine v_tableOut (n := 146) dX8_guest_56 (tsw_out 3 (fun k hk => by rcases (show k = 0 ∨ k = 1 ∨ k = 2 by omega) with rfl | rfl | rfl <;> assumption)) (by decide) ?_
        refine v_aload_n (n := 147) dX8_guest_146 rfl rfl ?_
        refine v_getf (n := 150) dX8_guest_147 rfl fl_X8_9 zokc_10 rfl ?_
        refine v_iload_n (n := 151) dX8_guest_150 rfl rfl ?_
        refine v_iload_n (n := 152) dX8_guest_151 rfl rfl ?_
        refine v_iadd (n := 153) dX8_guest_152 rfl ?_
        refine v_iconst (n := 154) (x := nI 3) dX8_guest_153 rfl (by decide) ?_
        refine v_isub (n := 155) dX8_guest_154 rfl ?_
        obtain ⟨j10, ej10, hj10, h⟩ := h
        refine v_iald (n := 156) (j := j10) dX8_guest_155 rfl zokc_26 (by decide) rfl ej10 hj10 (congrArg Value.int (up_k (by decide))) ?_
        exact v_iret dX8_guest_156 rfl (Nat.le_of_ble_eq_true rfl) (Nat.le_of_ble_eq_true rfl) h
      · replace h := h.2 hq
        refine v_iconst (n := 39) (x := nI 0) dX8_guest_38 rfl (by decide) ?_
        exact v_iret dX8_guest_39 rfl (Nat.le_of_ble_eq_true rfl) (Nat.le_of_ble_eq_true rfl) h
  · replace h := h.2 (bI_f hq)
    refine v_iconst (n := 10) (x := nI 1) dX8_guest_9 rfl (by decide) ?_
    refine v_goto (n := 28) dX8_guest_10 (by decide) ?_
    refine v_putf (n := 31) dX8_guest_28 rfl fw_X8_41 zokc_10 (fun _ => rfl) rfl rfl ?_
    refine v_aload_n (n := 32) dX8_guest_31 rfl rfl ?_
    refine v_getf (n := 35) dX8_guest_32 rfl fl_X8_41 zokc_10 (congrArg Value.int (up_self _ _ _ _ _ _)) ?_
    refine v_if_le (n := 38) (t := 40) dX8_guest_35 rfl (by decide) (fun hq => ?_) (fun hq => ?_)
    · replace h := h.1 hq
      refine v_iload_n (n := 41) dX8_guest_40 rfl rfl ?_
      refine v_callS (n := 44) (As := [.int x1]) (rest := []) dX8_guest_41 rfl lk_X8_71 rfl rfl (Nat.le_of_ble_eq_true rfl) ⟨Nat.le_of_ble_eq_true rfl, Nat.le_of_ble_eq_true rfl, Nat.le_of_ble_eq_true rfl, Nat.le_of_ble_eq_true rfl⟩ (s_X8_guest0 G x1 (up μ 10 0 0 6 (nI 1))) (fun v μ9 hp => ?_) (fun _ _ hp => False.elim hp)
      rw [hp.1, hp.2]
      refine v_norm (st' := [.int (nI 212 + nI 10 * x1)]) (cells' := 0) (slots' := 0) rfl rfl rfl ?_
      refine v_istore_n (n := 45) (L' := [(0, .ref (zad G.1 10 0 0)), (1, .int x1), (2, .int x2), (3, .int (nI 212 + nI 10 * x1))]) dX8_guest_44 rfl (by decide) rfl ?_
      refine v_aload_n (n := 46) dX8_guest_45 rfl rfl ?_
      refine v_getf (n := 49) dX8_guest_46 rfl fl_X8_9 zokc_10 rfl ?_
      refine v_iload_n (n := 50) dX8_guest_49 rfl rfl ?_
      refine v_iconst (n := 51) (x := nI 4) dX8_guest_50 rfl (by decide) ?_
      refine v_iadd (n := 52) dX8_guest_51 rfl ?_
      obtain ⟨j11, ej11, hj11, h⟩ := h
      refine v_iald (n := 53) (j := j11) dX8_guest_52 rfl zokc_26 (by decide) rfl ej11 hj11 (congrArg Value.int (up_k (by decide))) ?_
      refine v_istore (n := 55) (L' := [(0, .ref (zad G.1 10 0 0)), (1, .int x1), (2, .int x2), (3, .int (nI 212 + nI 10 * x1)), (4, .int (μ 26 0 0 j11))]) dX8_guest_53 rfl (by decide) rfl ?_
      refine v_iload_n (n := 56) dX8_guest_55 rfl rfl ?_
      by_cases hs0 : x2 = nI 0
      · replace h := h.1 hs0
        have hx : (x2).toInt = 0 := by rw [hs0]; rfl
        refine v_tableIn (n := 84) (off := 28) dX8_guest_56 (by rw [hx]; decide) (by rw [hx]; decide) (by rw [hx]; rfl) (by decide) ?_
        refine v_iload (n := 86) dX8_guest_84 rfl rfl ?_
        exact v_iret dX8_guest_86 rfl (Nat.le_of_ble_eq_true rfl) (Nat.le_of_ble_eq_true rfl) h
      replace h := h.2 hs0
      by_cases hs1 : x2 = nI 1
      · replace h := h.1 hs1
        have hx : (x2).toInt = 1 := by rw [hs1]; rfl
        refine v_tableIn (n := 87) (off := 31) dX8_guest_56 (by rw [hx]; decide) (by rw [hx]; decide) (by rw [hx]; rfl) (by decide) ?_
        refine v_iload (n := 89) dX8_guest_87 rfl rfl ?_
        refine v_iconst (n := 90) (x := nI 4) dX8_guest_89 rfl (by decide) ?_
        refine v_icmp_ne (n := 93) (t := 97) dX8_guest_90 rfl (by decide) (fun hq => ?_) (fun hq => ?_)
        · replace h := h.1 hq
          refine v_aload_n (n := 98) dX8_guest_97 rfl rfl ?_
          refine v_getf (n := 101) dX8_guest_98 rfl fl_X8_9 zokc_10 rfl ?_
          refine v_iload_n (n := 102) dX8_guest_101 rfl rfl ?_
          refine v_iconst (n := 103) (x := nI 5) dX8_guest_102 rfl (by decide) ?_
          refine v_iadd (n := 104) dX8_guest_103 rfl ?_
          obtain ⟨j12, ej12, hj12, h⟩ := h
          refine v_iald (n := 105) (j := j12) dX8_guest_104 rfl zokc_26 (by decide) rfl ej12 hj12 (congrArg Value.int (up_k (by decide))) ?_
          exact v_iret dX8_guest_105 rfl (Nat.le_of_ble_eq_true rfl) (Nat.le_of_ble_eq_true rfl) h
        · replace h := h.2 hq
          refine v_iconst (n := 94) (x := (-1 : Int32)) dX8_guest_93 rfl (by decide) ?_
          refine v_goto (n := 105) dX8_guest_94 (by decide) ?_
          exact v_iret dX8_guest_105 rfl (Nat.le_of_ble_eq_true rfl) (Nat.le_of_ble_eq_true rfl) h
      replace h := h.2 hs1
      by_cases hs2 : x2 = nI 2
      · replace h := h.1 hs2
        have hx : (x2).toInt = 2 := by rw [hs2]; rfl
        refine v_tableIn (n := 106) (off := 50) dX8_guest_56 (by rw [hx]; decide) (by rw [hx]; decide) (by rw [hx]; rfl) (by decide) ?_
        refine v_iload (n := 108) dX8_guest_106 rfl rfl ?_
        refine v_iconst (n := 109) (x := nI 1) dX8_guest_108 rfl (by decide) ?_
        refine v_icmp_ne (n := 112) (t := 120) dX8_guest_109 rfl (by decide) (fun hq => ?_) (fun hq => ?_)
        · replace h := h.1 hq
          refine v_iload (n := 122) dX8_guest_120 rfl rfl ?_
          refine v_iconst (n := 123) (x := nI 2) dX8_guest_122 rfl (by decide) ?_
          refine v_icmp_eq (n := 126) (t := 132) dX8_guest_123 rfl (by decide) (fun hq => ?_) (fun hq => ?_)
          · replace h := h.1 hq
            refine v_aload_n (n := 133) dX8_guest_132 rfl rfl ?_
            refine v_getf (n := 136) dX8_guest_133 rfl fl_X8_9 zokc_10 rfl ?_
            refine v_iload_n (n := 137) dX8_guest_136 rfl rfl ?_
            refine v_bipush (n := 139) (x := nI 6) dX8_guest_137 rfl (by decide) ?_
            refine v_iadd (n := 140) dX8_guest_139 rfl ?_
            obtain ⟨j13, ej13, hj13, h⟩ := h
            refine v_iald (n := 141) (j := j13) dX8_guest_140 rfl zokc_26 (by decide) rfl ej13 hj13 (congrArg Value.int (up_k (by decide))) ?_
            refine v_goto (n := 145) dX8_guest_141 (by decide) ?_
            exact v_iret dX8_guest_145 rfl (Nat.le_of_ble_eq_true rfl) (Nat.le_of_ble_eq_true rfl) h
          · replace h := h.2 hq
            refine v_iload (n := 128) dX8_guest_126 rfl rfl ?_
            refine v_iconst (n := 129) (x := nI 3) dX8_guest_128 rfl (by decide) ?_
            refine v_icmp_ne (n := 132) (t := 144) dX8_guest_129 rfl (by decide) (fun hq => ?_) (fun hq => ?_)
            · replace h := h.1 hq
              refine v_iconst (n := 145) (x := nI 0) dX8_guest_144 rfl (by decide) ?_
              exact v_iret dX8_guest_145 rfl (Nat.le_of_ble_eq_true rfl) (Nat.le_of_ble_eq_true rfl) h
            · replace h := h.2 hq
              refine v_aload_n (n := 133) dX8_guest_132 rfl rfl ?_
              refine v_getf (n := 136) dX8_guest_133 rfl fl_X8_9 zokc_10 rfl ?_
              refine v_iload_n (n := 137) dX8_guest_136 rfl rfl ?_
              refine v_bipush (n := 139) (x := nI 6) dX8_guest_137 rfl (by decide) ?_
              refine v_iadd (n := 140) dX8_guest_139 rfl ?_
              obtain ⟨j14, ej14, hj14, h⟩ := h
              refine v_iald (n := 141) (j := j14) dX8_guest_140 rfl zokc_26 (by decide) rfl ej14 hj14 (congrArg Value.int (up_k (by decide))) ?_
              refine v_goto (n := 145) dX8_guest_141 (by decide) ?_
              exact v_iret dX8_guest_145 rfl (Nat.le_of_ble_eq_true rfl) (Nat.le_of_ble_eq_true rfl) h
        · replace h := h.2 hq
          refine v_aload_n (n := 113) dX8_guest_112 rfl rfl ?_
          refine v_iload_n (n := 114) dX8_guest_113 rfl rfl ?_
          refine v_callV (n := 117) (k := 10) (b := 0) (i := 0) (As := [.int x1]) (rest := []) dX8_guest_114 rfl lk_X8_95 rfl rfl (Nat.le_of_ble_eq_true rfl) ⟨Nat.le_of_ble_eq_true rfl, Nat.le_of_ble_eq_true rfl, Nat.le_of_ble_eq_true rfl, Nat.le_of_ble_eq_true rfl⟩ zokc_10 h (fun v μ3 h => ?_) (fun _ _ hp => False.elim hp)
          obtain ⟨r3, rfl, h⟩ := h
          refine v_norm (st' := [.int r3]) (cells' := 0) (slots' := 0) rfl rfl rfl ?_
          refine v_goto (n := 145) dX8_guest_117 (by decide) ?_
          exact v_iret dX8_guest_145 rfl (Nat.le_of_ble_eq_true rfl) (Nat.le_of_ble_eq_true rfl) h
      replace h := h.2 hs2
      refine v_tableOut (n := 146) dX8_guest_56 (tsw_out 3 (fun k hk => by rcases (show k = 0 ∨ k = 1 ∨ k = 2 by omega) with rfl | rfl | rfl <;> assumption)) (by decide) ?_
      refine v_aload_n (n := 147) dX8_guest_146 rfl rfl ?_
      refine v_getf (n := 150) dX8_guest_147 rfl fl_X8_9 zokc_10 rfl ?_
      refine v_iload_n (n := 151) dX8_guest_150 rfl rfl ?_
      refine v_iload_n (n := 152) dX8_guest_151 rfl rfl ?_
      refine v_iadd (n := 153) dX8_guest_152 rfl ?_
      refine v_iconst (n := 154) (x := nI 3) dX8_guest_153 rfl (by decide) ?_
      refine v_isub (n := 155) dX8_guest_154 rfl ?_
      obtain ⟨j15, ej15, hj15, h⟩ := h
      refine v_iald (n := 156) (j := j15) dX8_guest_155 rfl zokc_26 (by decide) rfl ej15 hj15 (congrArg Value.int (up_k (by decide))) ?_
      exact v_iret dX8_guest_156 rfl (Nat.le_of_ble_eq_true rfl) (Nat.le_of_ble_eq_true rfl) h
    · replace h := h.2 hq
      refine v_iconst (n := 39) (x := nI 0) dX8_guest_38 rfl (by decide) ?_
      exact v_iret dX8_guest_39 rfl (Nat.le_of_ble_eq_true rfl) (Nat.le_of_ble_eq_true rfl) h

set_option maxRecDepth 20000 in
set_option maxHeartbeats 4000000 in
theorem wX8_standIn (G : Gl) {P : Option Value → St → Prop} {X : String → St → Prop} (g : Nat) (hg : g < 16) (l : Nat) (hl : l < 6) (μ : St)
    (h : ∃ j1 : Nat, (nI (6 + 21 * l + 11)) + (μ 26 0 0 (6 + 21 * l + 10)) = nI j1 ∧ j1 < 372 ∧ P (some (.int (((up (up (up (up μ 26 0 0 j1 (nI g)) 26 0 0 (6 + 21 * l + 10) (((up μ 26 0 0 j1 (nI g)) 26 0 0 (6 + 21 * l + 10)) + (nI 1))) 26 0 0 (212 + 10 * g + 4) (nI 1)) 26 0 0 (212 + 10 * g + 5) (nI l)) 26 0 0 (6 + 21 * l + 10)) - (nI 1)))) (up (up (up (up μ 26 0 0 j1 (nI g)) 26 0 0 (6 + 21 * l + 10) (((up μ 26 0 0 j1 (nI g)) 26 0 0 (6 + 21 * l + 10)) + (nI 1))) 26 0 0 (212 + 10 * g + 4) (nI 1)) 26 0 0 (212 + 10 * g + 5) (nI l))) :
    Con G mX8_standIn [.ref (zad G.1 10 0 0), .int (nI g), .int (nI l)] μ P X := by
  refine con_of pn_X8 rfl (Nat.le_of_ble_eq_true rfl) ?_
  show VL G mX8_standIn P X 0 [(0, .ref (zad G.1 10 0 0)), (1, .int (nI g)), (2, .int (nI l))] [] μ
  refine v_iload_n (n := 1) dX8_standIn_0 rfl rfl ?_
  refine v_callS (n := 4) (As := [.int (nI l)]) (rest := []) dX8_standIn_1 rfl lk_X8_51 rfl rfl (Nat.le_of_ble_eq_true rfl) ⟨Nat.le_of_ble_eq_true rfl, Nat.le_of_ble_eq_true rfl, Nat.le_of_ble_eq_true rfl, Nat.le_of_ble_eq_true rfl⟩ (s_X8_lift0N G l μ) (fun v μ9 hp => ?_) (fun _ _ hp => False.elim hp)
  rw [hp.1, hp.2]
  refine v_norm (st' := [.int (nI (6 + 21 * l))]) (cells' := 0) (slots' := 0) rfl rfl rfl ?_
  refine v_istore_n (n := 5) (L' := [(0, .ref (zad G.1 10 0 0)), (1, .int (nI g)), (2, .int (nI l)), (3, .int (nI (6 + 21 * l)))]) dX8_standIn_4 rfl (by decide) rfl ?_
  refine v_aload_n (n := 6) dX8_standIn_5 rfl rfl ?_
  refine v_getf (n := 9) dX8_standIn_6 rfl fl_X8_9 zokc_10 rfl ?_
  refine v_iload_n (n := 10) dX8_standIn_9 rfl rfl ?_
  refine v_bipush (n := 12) (x := nI 11) dX8_standIn_10 rfl (by decide) ?_
  refine v_iadd (n := 13) dX8_standIn_12 rfl ?_
  refine v_top (y := nI (6 + 21 * l + 11)) (nI_add (6 + 21 * l) 11) ?_
  refine v_aload_n (n := 14) dX8_standIn_13 rfl rfl ?_
  refine v_getf (n := 17) dX8_standIn_14 rfl fl_X8_9 zokc_10 rfl ?_
  refine v_iload_n (n := 18) dX8_standIn_17 rfl rfl ?_
  refine v_bipush (n := 20) (x := nI 10) dX8_standIn_18 rfl (by decide) ?_
  refine v_iadd (n := 21) dX8_standIn_20 rfl ?_
  refine v_top (y := nI (6 + 21 * l + 10)) (nI_add (6 + 21 * l) 10) ?_
  refine v_iald (n := 22) (j := (6 + 21 * l + 10)) dX8_standIn_21 rfl zokc_26 (by decide) rfl rfl (show 6 + 21 * l + 10 < 372 by omega) (rfl) ?_
  refine v_iadd (n := 23) dX8_standIn_22 rfl ?_
  refine v_iload_n (n := 24) dX8_standIn_23 rfl rfl ?_
  obtain ⟨j1, ej1, hj1, h⟩ := h
  refine v_iast (n := 25) (j := j1) dX8_standIn_24 rfl zokc_26 (by decide) (by decide) rfl ej1 hj1 (fun _ => rfl) ?_
  refine v_aload_n (n := 26) dX8_standIn_25 rfl rfl ?_
  refine v_getf (n := 29) dX8_standIn_26 rfl fl_X8_9 zokc_10 rfl ?_
  refine v_iload_n (n := 30) dX8_standIn_29 rfl rfl ?_
  refine v_bipush (n := 32) (x := nI 10) dX8_standIn_30 rfl (by decide) ?_
  refine v_iadd (n := 33) dX8_standIn_32 rfl ?_
  refine v_top (y := nI (6 + 21 * l + 10)) (nI_add (6 + 21 * l) 10) ?_
  refine v_dup2 (n := 34) dX8_standIn_33 rfl rfl rfl ?_
  refine v_iald (n := 35) (j := (6 + 21 * l + 10)) dX8_standIn_34 rfl zokc_26 (by decide) rfl rfl (show 6 + 21 * l + 10 < 372 by omega) (rfl) ?_
  refine v_iconst (n := 36) (x := nI 1) dX8_standIn_35 rfl (by decide) ?_
  refine v_iadd (n := 37) dX8_standIn_36 rfl ?_
  refine v_iast (n := 38) (j := (6 + 21 * l + 10)) dX8_standIn_37 rfl zokc_26 (by decide) (by decide) rfl rfl (show 6 + 21 * l + 10 < 372 by omega) (fun _ => rfl) ?_
  refine v_aload_n (n := 39) dX8_standIn_38 rfl rfl ?_
  refine v_getf (n := 42) dX8_standIn_39 rfl fl_X8_9 zokc_10 rfl ?_
  refine v_iload_n (n := 43) dX8_standIn_42 rfl rfl ?_
  refine v_callS (n := 46) (As := [.int (nI g)]) (rest := [.ref (zad G.1 26 0 0)]) dX8_standIn_43 rfl lk_X8_71 rfl rfl (Nat.le_of_ble_eq_true rfl) ⟨Nat.le_of_ble_eq_true rfl, Nat.le_of_ble_eq_true rfl, Nat.le_of_ble_eq_true rfl, Nat.le_of_ble_eq_true rfl⟩ (s_X8_guest0N G g (up (up μ 26 0 0 j1 (nI g)) 26 0 0 (6 + 21 * l + 10) (((up μ 26 0 0 j1 (nI g)) 26 0 0 (6 + 21 * l + 10)) + (nI 1)))) (fun v μ9 hp => ?_) (fun _ _ hp => False.elim hp)
  rw [hp.1, hp.2]
  refine v_norm (st' := [.int (nI (212 + 10 * g)), .ref (zad G.1 26 0 0)]) (cells' := 0) (slots' := 0) rfl rfl rfl ?_
  refine v_iconst (n := 47) (x := nI 4) dX8_standIn_46 rfl (by decide) ?_
  refine v_iadd (n := 48) dX8_standIn_47 rfl ?_
  refine v_top (y := nI (212 + 10 * g + 4)) (nI_add (212 + 10 * g) 4) ?_
  refine v_iconst (n := 49) (x := nI 1) dX8_standIn_48 rfl (by decide) ?_
  refine v_iast (n := 50) (j := (212 + 10 * g + 4)) dX8_standIn_49 rfl zokc_26 (by decide) (by decide) rfl rfl (show 212 + 10 * g + 4 < 372 by omega) (fun _ => rfl) ?_
  refine v_aload_n (n := 51) dX8_standIn_50 rfl rfl ?_
  refine v_getf (n := 54) dX8_standIn_51 rfl fl_X8_9 zokc_10 rfl ?_
  refine v_iload_n (n := 55) dX8_standIn_54 rfl rfl ?_
  refine v_callS (n := 58) (As := [.int (nI g)]) (rest := [.ref (zad G.1 26 0 0)]) dX8_standIn_55 rfl lk_X8_71 rfl rfl (Nat.le_of_ble_eq_true rfl) ⟨Nat.le_of_ble_eq_true rfl, Nat.le_of_ble_eq_true rfl, Nat.le_of_ble_eq_true rfl, Nat.le_of_ble_eq_true rfl⟩ (s_X8_guest0N G g (up (up (up μ 26 0 0 j1 (nI g)) 26 0 0 (6 + 21 * l + 10) (((up μ 26 0 0 j1 (nI g)) 26 0 0 (6 + 21 * l + 10)) + (nI 1))) 26 0 0 (212 + 10 * g + 4) (nI 1))) (fun v μ9 hp => ?_) (fun _ _ hp => False.elim hp)
  rw [hp.1, hp.2]
  refine v_norm (st' := [.int (nI (212 + 10 * g)), .ref (zad G.1 26 0 0)]) (cells' := 0) (slots' := 0) rfl rfl rfl ?_
  refine v_iconst (n := 59) (x := nI 5) dX8_standIn_58 rfl (by decide) ?_
  refine v_iadd (n := 60) dX8_standIn_59 rfl ?_
  refine v_top (y := nI (212 + 10 * g + 5)) (nI_add (212 + 10 * g) 5) ?_
  refine v_iload_n (n := 61) dX8_standIn_60 rfl rfl ?_
  refine v_iast (n := 62) (j := (212 + 10 * g + 5)) dX8_standIn_61 rfl zokc_26 (by decide) (by decide) rfl rfl (show 212 + 10 * g + 5 < 372 by omega) (fun _ => rfl) ?_
  refine v_aload_n (n := 63) dX8_standIn_62 rfl rfl ?_
  refine v_getf (n := 66) dX8_standIn_63 rfl fl_X8_9 zokc_10 rfl ?_
  refine v_iload_n (n := 67) dX8_standIn_66 rfl rfl ?_
  refine v_bipush (n := 69) (x := nI 10) dX8_standIn_67 rfl (by decide) ?_
  refine v_iadd (n := 70) dX8_standIn_69 rfl ?_
  refine v_top (y := nI (6 + 21 * l + 10)) (nI_add (6 + 21 * l) 10) ?_
  refine v_iald (n := 71) (j := (6 + 21 * l + 10)) dX8_standIn_70 rfl zokc_26 (by decide) rfl rfl (show 6 + 21 * l + 10 < 372 by omega) (rfl) ?_
  refine v_iconst (n := 72) (x := nI 1) dX8_standIn_71 rfl (by decide) ?_
  refine v_isub (n := 73) dX8_standIn_72 rfl ?_
  exact v_iret dX8_standIn_73 rfl (Nat.le_of_ble_eq_true rfl) (Nat.le_of_ble_eq_true rfl) h

set_option maxRecDepth 20000 in
set_option maxHeartbeats 4000000 in
theorem wX8_goDown (G : Gl) {P : Option Value → St → Prop} {X : String → St → Prop} (g : Nat) (hg : g < 16) (pi : Nat) (hpi : pi < 10) (μ : St)
    (h : P (some (.int ((up (up (up (up (up (up μ 26 0 0 (212 + 10 * g + 4) (nI 3)) 26 0 0 (212 + 10 * g + 5) (nI pi)) 26 0 0 (212 + 10 * g + 6) (msk (up (up μ 26 0 0 (212 + 10 * g + 4) (nI 3)) 26 0 0 (212 + 10 * g + 5) (nI pi)) g pi)) 26 0 0 (212 + 10 * g + 8) (((up (up (up μ 26 0 0 (212 + 10 * g + 4) (nI 3)) 26 0 0 (212 + 10 * g + 5) (nI pi)) 26 0 0 (212 + 10 * g + 6) (msk (up (up μ 26 0 0 (212 + 10 * g + 4) (nI 3)) 26 0 0 (212 + 10 * g + 5) (nI pi)) g pi)) 26 0 0 (212 + 10 * g + 8)) + (nI 1))) 26 0 0 (132 + 8 * pi + 5) (((up (up (up (up μ 26 0 0 (212 + 10 * g + 4) (nI 3)) 26 0 0 (212 + 10 * g + 5) (nI pi)) 26 0 0 (212 + 10 * g + 6) (msk (up (up μ 26 0 0 (212 + 10 * g + 4) (nI 3)) 26 0 0 (212 + 10 * g + 5) (nI pi)) g pi)) 26 0 0 (212 + 10 * g + 8) (((up (up (up μ 26 0 0 (212 + 10 * g + 4) (nI 3)) 26 0 0 (212 + 10 * g + 5) (nI pi)) 26 0 0 (212 + 10 * g + 6) (msk (up (up μ 26 0 0 (212 + 10 * g + 4) (nI 3)) 26 0 0 (212 + 10 * g + 5) (nI pi)) g pi)) 26 0 0 (212 + 10 * g + 8)) + (nI 1))) 26 0 0 (132 + 8 * pi + 5)) + ((up (up (up (up μ 26 0 0 (212 + 10 * g + 4) (nI 3)) 26 0 0 (212 + 10 * g + 5) (nI pi)) 26 0 0 (212 + 10 * g + 6) (msk (up (up μ 26 0 0 (212 + 10 * g + 4) (nI 3)) 26 0 0 (212 + 10 * g + 5) (nI pi)) g pi)) 26 0 0 (212 + 10 * g + 8) (((up (up (up μ 26 0 0 (212 + 10 * g + 4) (nI 3)) 26 0 0 (212 + 10 * g + 5) (nI pi)) 26 0 0 (212 + 10 * g + 6) (msk (up (up μ 26 0 0 (212 + 10 * g + 4) (nI 3)) 26 0 0 (212 + 10 * g + 5) (nI pi)) g pi)) 26 0 0 (212 + 10 * g + 8)) + (nI 1))) 26 0 0 (132 + 8 * pi + 2)))) 26 0 0 (132 + 8 * pi + 7) (((up (up (up (up (up μ 26 0 0 (212 + 10 * g + 4) (nI 3)) 26 0 0 (212 + 10 * g + 5) (nI pi)) 26 0 0 (212 + 10 * g + 6) (msk (up (up μ 26 0 0 (212 + 10 * g + 4) (nI 3)) 26 0 0 (212 + 10 * g + 5) (nI pi)) g pi)) 26 0 0 (212 + 10 * g + 8) (((up (up (up μ 26 0 0 (212 + 10 * g + 4) (nI 3)) 26 0 0 (212 + 10 * g + 5) (nI pi)) 26 0 0 (212 + 10 * g + 6) (msk (up (up μ 26 0 0 (212 + 10 * g + 4) (nI 3)) 26 0 0 (212 + 10 * g + 5) (nI pi)) g pi)) 26 0 0 (212 + 10 * g + 8)) + (nI 1))) 26 0 0 (132 + 8 * pi + 5) (((up (up (up (up μ 26 0 0 (212 + 10 * g + 4) (nI 3)) 26 0 0 (212 + 10 * g + 5) (nI pi)) 26 0 0 (212 + 10 * g + 6) (msk (up (up μ 26 0 0 (212 + 10 * g + 4) (nI 3)) 26 0 0 (212 + 10 * g + 5) (nI pi)) g pi)) 26 0 0 (212 + 10 * g + 8) (((up (up (up μ 26 0 0 (212 + 10 * g + 4) (nI 3)) 26 0 0 (212 + 10 * g + 5) (nI pi)) 26 0 0 (212 + 10 * g + 6) (msk (up (up μ 26 0 0 (212 + 10 * g + 4) (nI 3)) 26 0 0 (212 + 10 * g + 5) (nI pi)) g pi)) 26 0 0 (212 + 10 * g + 8)) + (nI 1))) 26 0 0 (132 + 8 * pi + 5)) + ((up (up (up (up μ 26 0 0 (212 + 10 * g + 4) (nI 3)) 26 0 0 (212 + 10 * g + 5) (nI pi)) 26 0 0 (212 + 10 * g + 6) (msk (up (up μ 26 0 0 (212 + 10 * g + 4) (nI 3)) 26 0 0 (212 + 10 * g + 5) (nI pi)) g pi)) 26 0 0 (212 + 10 * g + 8) (((up (up (up μ 26 0 0 (212 + 10 * g + 4) (nI 3)) 26 0 0 (212 + 10 * g + 5) (nI pi)) 26 0 0 (212 + 10 * g + 6) (msk (up (up μ 26 0 0 (212 + 10 * g + 4) (nI 3)) 26 0 0 (212 + 10 * g + 5) (nI pi)) g pi)) 26 0 0 (212 + 10 * g + 8)) + (nI 1))) 26 0 0 (132 + 8 * pi + 2)))) 26 0 0 (132 + 8 * pi + 7)) + (nI 1))) 26 0 0 (212 + 10 * g + 6)))) (up (up (up (up (up (up μ 26 0 0 (212 + 10 * g + 4) (nI 3)) 26 0 0 (212 + 10 * g + 5) (nI pi)) 26 0 0 (212 + 10 * g + 6) (msk (up (up μ 26 0 0 (212 + 10 * g + 4) (nI 3)) 26 0 0 (212 + 10 * g + 5) (nI pi)) g pi)) 26 0 0 (212 + 10 * g + 8) (((up (up (up μ 26 0 0 (212 + 10 * g + 4) (nI 3)) 26 0 0 (212 + 10 * g + 5) (nI pi)) 26 0 0 (212 + 10 * g + 6) (msk (up (up μ 26 0 0 (212 + 10 * g + 4) (nI 3)) 26 0 0 (212 + 10 * g + 5) (nI pi)) g pi)) 26 0 0 (212 + 10 * g + 8)) + (nI 1))) 26 0 0 (132 + 8 * pi + 5) (((up (up (up (up μ 26 0 0 (212 + 10 * g + 4) (nI 3)) 26 0 0 (212 + 10 * g + 5) (nI pi)) 26 0 0 (212 + 10 * g + 6) (msk (up (up μ 26 0 0 (212 + 10 * g + 4) (nI 3)) 26 0 0 (212 + 10 * g + 5) (nI pi)) g pi)) 26 0 0 (212 + 10 * g + 8) (((up (up (up μ 26 0 0 (212 + 10 * g + 4) (nI 3)) 26 0 0 (212 + 10 * g + 5) (nI pi)) 26 0 0 (212 + 10 * g + 6) (msk (up (up μ 26 0 0 (212 + 10 * g + 4) (nI 3)) 26 0 0 (212 + 10 * g + 5) (nI pi)) g pi)) 26 0 0 (212 + 10 * g + 8)) + (nI 1))) 26 0 0 (132 + 8 * pi + 5)) + ((up (up (up (up μ 26 0 0 (212 + 10 * g + 4) (nI 3)) 26 0 0 (212 + 10 * g + 5) (nI pi)) 26 0 0 (212 + 10 * g + 6) (msk (up (up μ 26 0 0 (212 + 10 * g + 4) (nI 3)) 26 0 0 (212 + 10 * g + 5) (nI pi)) g pi)) 26 0 0 (212 + 10 * g + 8) (((up (up (up μ 26 0 0 (212 + 10 * g + 4) (nI 3)) 26 0 0 (212 + 10 * g + 5) (nI pi)) 26 0 0 (212 + 10 * g + 6) (msk (up (up μ 26 0 0 (212 + 10 * g + 4) (nI 3)) 26 0 0 (212 + 10 * g + 5) (nI pi)) g pi)) 26 0 0 (212 + 10 * g + 8)) + (nI 1))) 26 0 0 (132 + 8 * pi + 2)))) 26 0 0 (132 + 8 * pi + 7) (((up (up (up (up (up μ 26 0 0 (212 + 10 * g + 4) (nI 3)) 26 0 0 (212 + 10 * g + 5) (nI pi)) 26 0 0 (212 + 10 * g + 6) (msk (up (up μ 26 0 0 (212 + 10 * g + 4) (nI 3)) 26 0 0 (212 + 10 * g + 5) (nI pi)) g pi)) 26 0 0 (212 + 10 * g + 8) (((up (up (up μ 26 0 0 (212 + 10 * g + 4) (nI 3)) 26 0 0 (212 + 10 * g + 5) (nI pi)) 26 0 0 (212 + 10 * g + 6) (msk (up (up μ 26 0 0 (212 + 10 * g + 4) (nI 3)) 26 0 0 (212 + 10 * g + 5) (nI pi)) g pi)) 26 0 0 (212 + 10 * g + 8)) + (nI 1))) 26 0 0 (132 + 8 * pi + 5) (((up (up (up (up μ 26 0 0 (212 + 10 * g + 4) (nI 3)) 26 0 0 (212 + 10 * g + 5) (nI pi)) 26 0 0 (212 + 10 * g + 6) (msk (up (up μ 26 0 0 (212 + 10 * g + 4) (nI 3)) 26 0 0 (212 + 10 * g + 5) (nI pi)) g pi)) 26 0 0 (212 + 10 * g + 8) (((up (up (up μ 26 0 0 (212 + 10 * g + 4) (nI 3)) 26 0 0 (212 + 10 * g + 5) (nI pi)) 26 0 0 (212 + 10 * g + 6) (msk (up (up μ 26 0 0 (212 + 10 * g + 4) (nI 3)) 26 0 0 (212 + 10 * g + 5) (nI pi)) g pi)) 26 0 0 (212 + 10 * g + 8)) + (nI 1))) 26 0 0 (132 + 8 * pi + 5)) + ((up (up (up (up μ 26 0 0 (212 + 10 * g + 4) (nI 3)) 26 0 0 (212 + 10 * g + 5) (nI pi)) 26 0 0 (212 + 10 * g + 6) (msk (up (up μ 26 0 0 (212 + 10 * g + 4) (nI 3)) 26 0 0 (212 + 10 * g + 5) (nI pi)) g pi)) 26 0 0 (212 + 10 * g + 8) (((up (up (up μ 26 0 0 (212 + 10 * g + 4) (nI 3)) 26 0 0 (212 + 10 * g + 5) (nI pi)) 26 0 0 (212 + 10 * g + 6) (msk (up (up μ 26 0 0 (212 + 10 * g + 4) (nI 3)) 26 0 0 (212 + 10 * g + 5) (nI pi)) g pi)) 26 0 0 (212 + 10 * g + 8)) + (nI 1))) 26 0 0 (132 + 8 * pi + 2)))) 26 0 0 (132 + 8 * pi + 7)) + (nI 1)))) :
    Con G mX8_goDown [.ref (zad G.1 10 0 0), .int (nI g), .int (nI pi)] μ P X := by
  refine con_of pn_X8 rfl (Nat.le_of_ble_eq_true rfl) ?_
  show VL G mX8_goDown P X 0 [(0, .ref (zad G.1 10 0 0)), (1, .int (nI g)), (2, .int (nI pi))] [] μ
  refine v_iload_n (n := 1) dX8_goDown_0 rfl rfl ?_
  refine v_callS (n := 4) (As := [.int (nI g)]) (rest := []) dX8_goDown_1 rfl lk_X8_71 rfl rfl (Nat.le_of_ble_eq_true rfl) ⟨Nat.le_of_ble_eq_true rfl, Nat.le_of_ble_eq_true rfl, Nat.le_of_ble_eq_true rfl, Nat.le_of_ble_eq_true rfl⟩ (s_X8_guest0N G g μ) (fun v μ9 hp => ?_) (fun _ _ hp => False.elim hp)
  rw [hp.1, hp.2]
  refine v_norm (st' := [.int (nI (212 + 10 * g))]) (cells' := 0) (slots' := 0) rfl rfl rfl ?_
  refine v_istore_n (n := 5) (L' := [(0, .ref (zad G.1 10 0 0)), (1, .int (nI g)), (2, .int (nI pi)), (3, .int (nI (212 + 10 * g)))]) dX8_goDown_4 rfl (by decide) rfl ?_
  refine v_aload_n (n := 6) dX8_goDown_5 rfl rfl ?_
  refine v_getf (n := 9) dX8_goDown_6 rfl fl_X8_9 zokc_10 rfl ?_
  refine v_iload_n (n := 10) dX8_goDown_9 rfl rfl ?_
  refine v_iconst (n := 11) (x := nI 4) dX8_goDown_10 rfl (by decide) ?_
  refine v_iadd (n := 12) dX8_goDown_11 rfl ?_
  refine v_top (y := nI (212 + 10 * g + 4)) (nI_add (212 + 10 * g) 4) ?_
  refine v_iconst (n := 13) (x := nI 3) dX8_goDown_12 rfl (by decide) ?_
  refine v_iast (n := 14) (j := (212 + 10 * g + 4)) dX8_goDown_13 rfl zokc_26 (by decide) (by decide) rfl rfl (show 212 + 10 * g + 4 < 372 by omega) (fun _ => rfl) ?_
  refine v_aload_n (n := 15) dX8_goDown_14 rfl rfl ?_
  refine v_getf (n := 18) dX8_goDown_15 rfl fl_X8_9 zokc_10 rfl ?_
  refine v_iload_n (n := 19) dX8_goDown_18 rfl rfl ?_
  refine v_iconst (n := 20) (x := nI 5) dX8_goDown_19 rfl (by decide) ?_
  refine v_iadd (n := 21) dX8_goDown_20 rfl ?_
  refine v_top (y := nI (212 + 10 * g + 5)) (nI_add (212 + 10 * g) 5) ?_
  refine v_iload_n (n := 22) dX8_goDown_21 rfl rfl ?_
  refine v_iast (n := 23) (j := (212 + 10 * g + 5)) dX8_goDown_22 rfl zokc_26 (by decide) (by decide) rfl rfl (show 212 + 10 * g + 5 < 372 by omega) (fun _ => rfl) ?_
  refine v_aload_n (n := 24) dX8_goDown_23 rfl rfl ?_
  refine v_getf (n := 27) dX8_goDown_24 rfl fl_X8_9 zokc_10 rfl ?_
  refine v_iload_n (n := 28) dX8_goDown_27 rfl rfl ?_
  refine v_bipush (n := 30) (x := nI 6) dX8_goDown_28 rfl (by decide) ?_
  refine v_iadd (n := 31) dX8_goDown_30 rfl ?_
  refine v_top (y := nI (212 + 10 * g + 6)) (nI_add (212 + 10 * g) 6) ?_
  refine v_aload_n (n := 32) dX8_goDown_31 rfl rfl ?_
  refine v_iload_n (n := 33) dX8_goDown_32 rfl rfl ?_
  refine v_iload_n (n := 34) dX8_goDown_33 rfl rfl ?_
  refine v_callV (n := 37) (k := 10) (b := 0) (i := 0) (As := [.int (nI g), .int (nI pi)]) (rest := [.int (nI (212 + 10 * g + 6)), .ref (zad G.1 26 0 0)]) dX8_goDown_34 rfl lk_X8_102 rfl rfl (Nat.le_of_ble_eq_true rfl) ⟨Nat.le_of_ble_eq_true rfl, Nat.le_of_ble_eq_true rfl, Nat.le_of_ble_eq_true rfl, Nat.le_of_ble_eq_true rfl⟩ zokc_10 (s_X8_skiTime G (nI g) g rfl (show g < 16 by omega) (nI pi) pi rfl (show pi < 10 by omega) (up (up μ 26 0 0 (212 + 10 * g + 4) (nI 3)) 26 0 0 (212 + 10 * g + 5) (nI pi))) (fun v μ9 hp => ?_) (fun _ _ hp => False.elim hp)
  rw [hp.1, hp.2]
  refine v_norm (st' := [.int (msk (up (up μ 26 0 0 (212 + 10 * g + 4) (nI 3)) 26 0 0 (212 + 10 * g + 5) (nI pi)) g pi), .int (nI (212 + 10 * g + 6)), .ref (zad G.1 26 0 0)]) (cells' := 0) (slots' := 0) rfl rfl rfl ?_
  refine v_iast (n := 38) (j := (212 + 10 * g + 6)) dX8_goDown_37 rfl zokc_26 (by decide) (by decide) rfl rfl (show 212 + 10 * g + 6 < 372 by omega) (fun _ => rfl) ?_
  refine v_aload_n (n := 39) dX8_goDown_38 rfl rfl ?_
  refine v_getf (n := 42) dX8_goDown_39 rfl fl_X8_9 zokc_10 rfl ?_
  refine v_iload_n (n := 43) dX8_goDown_42 rfl rfl ?_
  refine v_bipush (n := 45) (x := nI 8) dX8_goDown_43 rfl (by decide) ?_
  refine v_iadd (n := 46) dX8_goDown_45 rfl ?_
  refine v_top (y := nI (212 + 10 * g + 8)) (nI_add (212 + 10 * g) 8) ?_
  refine v_dup2 (n := 47) dX8_goDown_46 rfl rfl rfl ?_
  refine v_iald (n := 48) (j := (212 + 10 * g + 8)) dX8_goDown_47 rfl zokc_26 (by decide) rfl rfl (show 212 + 10 * g + 8 < 372 by omega) (rfl) ?_
  refine v_iconst (n := 49) (x := nI 1) dX8_goDown_48 rfl (by decide) ?_
  refine v_iadd (n := 50) dX8_goDown_49 rfl ?_
  refine v_iast (n := 51) (j := (212 + 10 * g + 8)) dX8_goDown_50 rfl zokc_26 (by decide) (by decide) rfl rfl (show 212 + 10 * g + 8 < 372 by omega) (fun _ => rfl) ?_
  refine v_aload_n (n := 52) dX8_goDown_51 rfl rfl ?_
  refine v_getf (n := 55) dX8_goDown_52 rfl fl_X8_9 zokc_10 rfl ?_
  refine v_iload_n (n := 56) dX8_goDown_55 rfl rfl ?_
  refine v_callS (n := 59) (As := [.int (nI pi)]) (rest := [.ref (zad G.1 26 0 0)]) dX8_goDown_56 rfl lk_X8_68 rfl rfl (Nat.le_of_ble_eq_true rfl) ⟨Nat.le_of_ble_eq_true rfl, Nat.le_of_ble_eq_true rfl, Nat.le_of_ble_eq_true rfl, Nat.le_of_ble_eq_true rfl⟩ (s_X8_piste0N G pi (up (up (up (up μ 26 0 0 (212 + 10 * g + 4) (nI 3)) 26 0 0 (212 + 10 * g + 5) (nI pi)) 26 0 0 (212 + 10 * g + 6) (msk (up (up μ 26 0 0 (212 + 10 * g + 4) (nI 3)) 26 0 0 (212 + 10 * g + 5) (nI pi)) g pi)) 26 0 0 (212 + 10 * g + 8) (((up (up (up μ 26 0 0 (212 + 10 * g + 4) (nI 3)) 26 0 0 (212 + 10 * g + 5) (nI pi)) 26 0 0 (212 + 10 * g + 6) (msk (up (up μ 26 0 0 (212 + 10 * g + 4) (nI 3)) 26 0 0 (212 + 10 * g + 5) (nI pi)) g pi)) 26 0 0 (212 + 10 * g + 8)) + (nI 1)))) (fun v μ9 hp => ?_) (fun _ _ hp => False.elim hp)
  rw [hp.1, hp.2]
  refine v_norm (st' := [.int (nI (132 + 8 * pi)), .ref (zad G.1 26 0 0)]) (cells' := 0) (slots' := 0) rfl rfl rfl ?_
  refine v_iconst (n := 60) (x := nI 5) dX8_goDown_59 rfl (by decide) ?_
  refine v_iadd (n := 61) dX8_goDown_60 rfl ?_
  refine v_top (y := nI (132 + 8 * pi + 5)) (nI_add (132 + 8 * pi) 5) ?_
  refine v_dup2 (n := 62) dX8_goDown_61 rfl rfl rfl ?_
  refine v_iald (n := 63) (j := (132 + 8 * pi + 5)) dX8_goDown_62 rfl zokc_26 (by decide) rfl rfl (show 132 + 8 * pi + 5 < 372 by omega) (rfl) ?_
  refine v_aload_n (n := 64) dX8_goDown_63 rfl rfl ?_
  refine v_getf (n := 67) dX8_goDown_64 rfl fl_X8_9 zokc_10 rfl ?_
  refine v_iload_n (n := 68) dX8_goDown_67 rfl rfl ?_
  refine v_callS (n := 71) (As := [.int (nI pi)]) (rest := [.ref (zad G.1 26 0 0), .int ((up (up (up (up μ 26 0 0 (212 + 10 * g + 4) (nI 3)) 26 0 0 (212 + 10 * g + 5) (nI pi)) 26 0 0 (212 + 10 * g + 6) (msk (up (up μ 26 0 0 (212 + 10 * g + 4) (nI 3)) 26 0 0 (212 + 10 * g + 5) (nI pi)) g pi)) 26 0 0 (212 + 10 * g + 8) (((up (up (up μ 26 0 0 (212 + 10 * g + 4) (nI 3)) 26 0 0 (212 + 10 * g + 5) (nI pi)) 26 0 0 (212 + 10 * g + 6) (msk (up (up μ 26 0 0 (212 + 10 * g + 4) (nI 3)) 26 0 0 (212 + 10 * g + 5) (nI pi)) g pi)) 26 0 0 (212 + 10 * g + 8)) + (nI 1))) 26 0 0 (132 + 8 * pi + 5)), .int (nI (132 + 8 * pi + 5)), .ref (zad G.1 26 0 0)]) dX8_goDown_68 rfl lk_X8_68 rfl rfl (Nat.le_of_ble_eq_true rfl) ⟨Nat.le_of_ble_eq_true rfl, Nat.le_of_ble_eq_true rfl, Nat.le_of_ble_eq_true rfl, Nat.le_of_ble_eq_true rfl⟩ (s_X8_piste0N G pi (up (up (up (up μ 26 0 0 (212 + 10 * g + 4) (nI 3)) 26 0 0 (212 + 10 * g + 5) (nI pi)) 26 0 0 (212 + 10 * g + 6) (msk (up (up μ 26 0 0 (212 + 10 * g + 4) (nI 3)) 26 0 0 (212 + 10 * g + 5) (nI pi)) g pi)) 26 0 0 (212 + 10 * g + 8) (((up (up (up μ 26 0 0 (212 + 10 * g + 4) (nI 3)) 26 0 0 (212 + 10 * g + 5) (nI pi)) 26 0 0 (212 + 10 * g + 6) (msk (up (up μ 26 0 0 (212 + 10 * g + 4) (nI 3)) 26 0 0 (212 + 10 * g + 5) (nI pi)) g pi)) 26 0 0 (212 + 10 * g + 8)) + (nI 1)))) (fun v μ9 hp => ?_) (fun _ _ hp => False.elim hp)
  rw [hp.1, hp.2]
  refine v_norm (st' := [.int (nI (132 + 8 * pi)), .ref (zad G.1 26 0 0), .int ((up (up (up (up μ 26 0 0 (212 + 10 * g + 4) (nI 3)) 26 0 0 (212 + 10 * g + 5) (nI pi)) 26 0 0 (212 + 10 * g + 6) (msk (up (up μ 26 0 0 (212 + 10 * g + 4) (nI 3)) 26 0 0 (212 + 10 * g + 5) (nI pi)) g pi)) 26 0 0 (212 + 10 * g + 8) (((up (up (up μ 26 0 0 (212 + 10 * g + 4) (nI 3)) 26 0 0 (212 + 10 * g + 5) (nI pi)) 26 0 0 (212 + 10 * g + 6) (msk (up (up μ 26 0 0 (212 + 10 * g + 4) (nI 3)) 26 0 0 (212 + 10 * g + 5) (nI pi)) g pi)) 26 0 0 (212 + 10 * g + 8)) + (nI 1))) 26 0 0 (132 + 8 * pi + 5)), .int (nI (132 + 8 * pi + 5)), .ref (zad G.1 26 0 0)]) (cells' := 0) (slots' := 0) rfl rfl rfl ?_
  refine v_iconst (n := 72) (x := nI 2) dX8_goDown_71 rfl (by decide) ?_
  refine v_iadd (n := 73) dX8_goDown_72 rfl ?_
  refine v_top (y := nI (132 + 8 * pi + 2)) (nI_add (132 + 8 * pi) 2) ?_
  refine v_iald (n := 74) (j := (132 + 8 * pi + 2)) dX8_goDown_73 rfl zokc_26 (by decide) rfl rfl (show 132 + 8 * pi + 2 < 372 by omega) (rfl) ?_
  refine v_iadd (n := 75) dX8_goDown_74 rfl ?_
  refine v_iast (n := 76) (j := (132 + 8 * pi + 5)) dX8_goDown_75 rfl zokc_26 (by decide) (by decide) rfl rfl (show 132 + 8 * pi + 5 < 372 by omega) (fun _ => rfl) ?_
  refine v_aload_n (n := 77) dX8_goDown_76 rfl rfl ?_
  refine v_getf (n := 80) dX8_goDown_77 rfl fl_X8_9 zokc_10 rfl ?_
  refine v_iload_n (n := 81) dX8_goDown_80 rfl rfl ?_
  refine v_callS (n := 84) (As := [.int (nI pi)]) (rest := [.ref (zad G.1 26 0 0)]) dX8_goDown_81 rfl lk_X8_68 rfl rfl (Nat.le_of_ble_eq_true rfl) ⟨Nat.le_of_ble_eq_true rfl, Nat.le_of_ble_eq_true rfl, Nat.le_of_ble_eq_true rfl, Nat.le_of_ble_eq_true rfl⟩ (s_X8_piste0N G pi (up (up (up (up (up μ 26 0 0 (212 + 10 * g + 4) (nI 3)) 26 0 0 (212 + 10 * g + 5) (nI pi)) 26 0 0 (212 + 10 * g + 6) (msk (up (up μ 26 0 0 (212 + 10 * g + 4) (nI 3)) 26 0 0 (212 + 10 * g + 5) (nI pi)) g pi)) 26 0 0 (212 + 10 * g + 8) (((up (up (up μ 26 0 0 (212 + 10 * g + 4) (nI 3)) 26 0 0 (212 + 10 * g + 5) (nI pi)) 26 0 0 (212 + 10 * g + 6) (msk (up (up μ 26 0 0 (212 + 10 * g + 4) (nI 3)) 26 0 0 (212 + 10 * g + 5) (nI pi)) g pi)) 26 0 0 (212 + 10 * g + 8)) + (nI 1))) 26 0 0 (132 + 8 * pi + 5) (((up (up (up (up μ 26 0 0 (212 + 10 * g + 4) (nI 3)) 26 0 0 (212 + 10 * g + 5) (nI pi)) 26 0 0 (212 + 10 * g + 6) (msk (up (up μ 26 0 0 (212 + 10 * g + 4) (nI 3)) 26 0 0 (212 + 10 * g + 5) (nI pi)) g pi)) 26 0 0 (212 + 10 * g + 8) (((up (up (up μ 26 0 0 (212 + 10 * g + 4) (nI 3)) 26 0 0 (212 + 10 * g + 5) (nI pi)) 26 0 0 (212 + 10 * g + 6) (msk (up (up μ 26 0 0 (212 + 10 * g + 4) (nI 3)) 26 0 0 (212 + 10 * g + 5) (nI pi)) g pi)) 26 0 0 (212 + 10 * g + 8)) + (nI 1))) 26 0 0 (132 + 8 * pi + 5)) + ((up (up (up (up μ 26 0 0 (212 + 10 * g + 4) (nI 3)) 26 0 0 (212 + 10 * g + 5) (nI pi)) 26 0 0 (212 + 10 * g + 6) (msk (up (up μ 26 0 0 (212 + 10 * g + 4) (nI 3)) 26 0 0 (212 + 10 * g + 5) (nI pi)) g pi)) 26 0 0 (212 + 10 * g + 8) (((up (up (up μ 26 0 0 (212 + 10 * g + 4) (nI 3)) 26 0 0 (212 + 10 * g + 5) (nI pi)) 26 0 0 (212 + 10 * g + 6) (msk (up (up μ 26 0 0 (212 + 10 * g + 4) (nI 3)) 26 0 0 (212 + 10 * g + 5) (nI pi)) g pi)) 26 0 0 (212 + 10 * g + 8)) + (nI 1))) 26 0 0 (132 + 8 * pi + 2))))) (fun v μ9 hp => ?_) (fun _ _ hp => False.elim hp)
  rw [hp.1, hp.2]
  refine v_norm (st' := [.int (nI (132 + 8 * pi)), .ref (zad G.1 26 0 0)]) (cells' := 0) (slots' := 0) rfl rfl rfl ?_
  refine v_bipush (n := 86) (x := nI 7) dX8_goDown_84 rfl (by decide) ?_
  refine v_iadd (n := 87) dX8_goDown_86 rfl ?_
  refine v_top (y := nI (132 + 8 * pi + 7)) (nI_add (132 + 8 * pi) 7) ?_
  refine v_dup2 (n := 88) dX8_goDown_87 rfl rfl rfl ?_
  refine v_iald (n := 89) (j := (132 + 8 * pi + 7)) dX8_goDown_88 rfl zokc_26 (by decide) rfl rfl (show 132 + 8 * pi + 7 < 372 by omega) (rfl) ?_
  refine v_iconst (n := 90) (x := nI 1) dX8_goDown_89 rfl (by decide) ?_
  refine v_iadd (n := 91) dX8_goDown_90 rfl ?_
  refine v_iast (n := 92) (j := (132 + 8 * pi + 7)) dX8_goDown_91 rfl zokc_26 (by decide) (by decide) rfl rfl (show 132 + 8 * pi + 7 < 372 by omega) (fun _ => rfl) ?_
  refine v_aload_n (n := 93) dX8_goDown_92 rfl rfl ?_
  refine v_getf (n := 96) dX8_goDown_93 rfl fl_X8_9 zokc_10 rfl ?_
  refine v_iload_n (n := 97) dX8_goDown_96 rfl rfl ?_
  refine v_bipush (n := 99) (x := nI 6) dX8_goDown_97 rfl (by decide) ?_
  refine v_iadd (n := 100) dX8_goDown_99 rfl ?_
  refine v_top (y := nI (212 + 10 * g + 6)) (nI_add (212 + 10 * g) 6) ?_
  refine v_iald (n := 101) (j := (212 + 10 * g + 6)) dX8_goDown_100 rfl zokc_26 (by decide) rfl rfl (show 212 + 10 * g + 6 < 372 by omega) (rfl) ?_
  exact v_iret dX8_goDown_101 rfl (Nat.le_of_ble_eq_true rfl) (Nat.le_of_ble_eq_true rfl) h

set_option maxRecDepth 20000 in
set_option maxHeartbeats 4000000 in
theorem wX8_refuses (G : Gl) {P : Option Value → St → Prop} {X : String → St → Prop} (g : Nat) (hg : g < 16) (x2 : Int32) (μ : St)
    (h : P (some (.int (nI 0))) (up (up (up μ 10 0 0 5 x2) 26 0 0 (212 + 10 * g + 9) ((μ 26 0 0 (212 + 10 * g + 9)) + (nI 1))) 10 0 0 6 (nI 2))) :
    Con G mX8_refuses [.ref (zad G.1 10 0 0), .int (nI g), .int x2] μ P X := by
  refine con_of pn_X8 rfl (Nat.le_of_ble_eq_true rfl) ?_
  show VL G mX8_refuses P X 0 [(0, .ref (zad G.1 10 0 0)), (1, .int (nI g)), (2, .int x2)] [] μ
  refine v_aload_n (n := 1) dX8_refuses_0 rfl rfl ?_
  refine v_iload_n (n := 2) dX8_refuses_1 rfl rfl ?_
  refine v_putf (n := 5) dX8_refuses_2 rfl fw_X8_37 zokc_10 (fun _ => rfl) rfl rfl ?_
  refine v_aload_n (n := 6) dX8_refuses_5 rfl rfl ?_
  refine v_getf (n := 9) dX8_refuses_6 rfl fl_X8_9 zokc_10 rfl ?_
  refine v_iload_n (n := 10) dX8_refuses_9 rfl rfl ?_
  refine v_callS (n := 13) (As := [.int (nI g)]) (rest := [.ref (zad G.1 26 0 0)]) dX8_refuses_10 rfl lk_X8_71 rfl rfl (Nat.le_of_ble_eq_true rfl) ⟨Nat.le_of_ble_eq_true rfl, Nat.le_of_ble_eq_true rfl, Nat.le_of_ble_eq_true rfl, Nat.le_of_ble_eq_true rfl⟩ (s_X8_guest0N G g (up μ 10 0 0 5 x2)) (fun v μ9 hp => ?_) (fun _ _ hp => False.elim hp)
  rw [hp.1, hp.2]
  refine v_norm (st' := [.int (nI (212 + 10 * g)), .ref (zad G.1 26 0 0)]) (cells' := 0) (slots' := 0) rfl rfl rfl ?_
  refine v_bipush (n := 15) (x := nI 9) dX8_refuses_13 rfl (by decide) ?_
  refine v_iadd (n := 16) dX8_refuses_15 rfl ?_
  refine v_top (y := nI (212 + 10 * g + 9)) (nI_add (212 + 10 * g) 9) ?_
  refine v_dup2 (n := 17) dX8_refuses_16 rfl rfl rfl ?_
  refine v_iald (n := 18) (j := (212 + 10 * g + 9)) dX8_refuses_17 rfl zokc_26 (by decide) rfl rfl (show 212 + 10 * g + 9 < 372 by omega) (congrArg Value.int (up_k (by decide))) ?_
  refine v_iconst (n := 19) (x := nI 1) dX8_refuses_18 rfl (by decide) ?_
  refine v_iadd (n := 20) dX8_refuses_19 rfl ?_
  refine v_iast (n := 21) (j := (212 + 10 * g + 9)) dX8_refuses_20 rfl zokc_26 (by decide) (by decide) rfl rfl (show 212 + 10 * g + 9 < 372 by omega) (fun _ => rfl) ?_
  refine v_aload_n (n := 22) dX8_refuses_21 rfl rfl ?_
  refine v_iconst (n := 23) (x := nI 2) dX8_refuses_22 rfl (by decide) ?_
  refine v_callV (n := 26) (k := 10) (b := 0) (i := 0) (As := [.int (nI 2)]) (rest := []) dX8_refuses_23 rfl lk_X8_62 rfl rfl (Nat.le_of_ble_eq_true rfl) ⟨Nat.le_of_ble_eq_true rfl, Nat.le_of_ble_eq_true rfl, Nat.le_of_ble_eq_true rfl, Nat.le_of_ble_eq_true rfl⟩ zokc_10 (s_X8_refuse G (nI 2) (up (up μ 10 0 0 5 x2) 26 0 0 (212 + 10 * g + 9) ((μ 26 0 0 (212 + 10 * g + 9)) + (nI 1)))) (fun v μ9 hp => ?_) (fun _ _ hp => False.elim hp)
  rw [hp.1, hp.2]
  refine v_norm (st' := [.int (nI 0)]) (cells' := 0) (slots' := 0) rfl rfl rfl ?_
  exact v_iret dX8_refuses_26 rfl (Nat.le_of_ble_eq_true rfl) (Nat.le_of_ble_eq_true rfl) h

set_option maxRecDepth 20000 in
set_option maxHeartbeats 4000000 in
theorem wX8_queue (G : Gl) {P : Option Value → St → Prop} {X : String → St → Prop} (x1 : Int32) (x2 : Int32) (μ : St)
    (h : ((mix (up μ 10 0 0 6 (nI 0)) 5 x1 = false → P (some (.int (nI 0))) (up (up μ 10 0 0 6 (nI 0)) 10 0 0 6 (nI 1))) ∧ (mix (up μ 10 0 0 6 (nI 0)) 5 x1 = true → ((mix (up μ 10 0 0 6 (nI 0)) 3 x2 = true → ∃ j1 : Nat, x1 = nI j1 ∧ j1 < 16 ∧ ∃ j2 : Nat, x2 = nI j2 ∧ j2 < 6 ∧ ((mnl (up μ 10 0 0 6 (nI 0)) j1 j2 ≤ 0 → Con G mX8_keep [.ref (zad G.1 10 0 0)] (up μ 10 0 0 6 (nI 0)) (fun v μ1 => v = none ∧ Con G mX8_standIn [.ref (zad G.1 10 0 0), .int x1, .int x2] μ1 (fun v μ2 => ∃ r1 : Int32, v = some (.int r1) ∧ P (some (.int r1)) μ2) noX) noX) ∧ (¬ mnl (up μ 10 0 0 6 (nI 0)) j1 j2 ≤ 0 → Con G mX8_refuses [.ref (zad G.1 10 0 0), .int x1, .int (mnl (up μ 10 0 0 6 (nI 0)) j1 j2)] (up μ 10 0 0 6 (nI 0)) (fun v μ3 => ∃ r2 : Int32, v = some (.int r2) ∧ P (some (.int r2)) μ3) noX))) ∧ (mix (up μ 10 0 0 6 (nI 0)) 3 x2 = false → P (some (.int (nI 0))) (up (up μ 10 0 0 6 (nI 0)) 10 0 0 6 (nI 1))))))) :
    Con G mX8_queue [.ref (zad G.1 10 0 0), .int x1, .int x2] μ P X := by
  refine con_of pn_X8 rfl (Nat.le_of_ble_eq_true rfl) ?_
  show VL G mX8_queue P X 0 [(0, .ref (zad G.1 10 0 0)), (1, .int x1), (2, .int x2)] [] μ
  refine v_aload_n (n := 1) dX8_queue_0 rfl rfl ?_
  refine v_iconst (n := 2) (x := nI 0) dX8_queue_1 rfl (by decide) ?_
  refine v_putf (n := 5) dX8_queue_2 rfl fw_X8_41 zokc_10 (fun _ => rfl) rfl rfl ?_
  refine v_aload_n (n := 6) dX8_queue_5 rfl rfl ?_
  refine v_iload_n (n := 7) dX8_queue_6 rfl rfl ?_
  refine v_callV (n := 10) (k := 10) (b := 0) (i := 0) (As := [.int x1]) (rest := []) dX8_queue_7 rfl lk_X8_92 rfl rfl (Nat.le_of_ble_eq_true rfl) ⟨Nat.le_of_ble_eq_true rfl, Nat.le_of_ble_eq_true rfl, Nat.le_of_ble_eq_true rfl, Nat.le_of_ble_eq_true rfl⟩ zokc_10 (s_X8_isGuest G x1 (up μ 10 0 0 6 (nI 0))) (fun v μ9 hp => ?_) (fun _ _ hp => False.elim hp)
  rw [hp.1, hp.2]
  refine v_norm (st' := [.int (bI (mix (up μ 10 0 0 6 (nI 0)) 5 x1))]) (cells' := 0) (slots' := 0) rfl rfl rfl ?_
  refine v_if_eq (n := 13) (t := 21) dX8_queue_10 rfl (by decide) (fun hq => ?_) (fun hq => ?_)
  · replace h := h.1 (bI_f hq)
    refine v_aload_n (n := 22) dX8_queue_21 rfl rfl ?_
    refine v_iconst (n := 23) (x := nI 1) dX8_queue_22 rfl (by decide) ?_
    refine v_callV (n := 26) (k := 10) (b := 0) (i := 0) (As := [.int (nI 1)]) (rest := []) dX8_queue_23 rfl lk_X8_62 rfl rfl (Nat.le_of_ble_eq_true rfl) ⟨Nat.le_of_ble_eq_true rfl, Nat.le_of_ble_eq_true rfl, Nat.le_of_ble_eq_true rfl, Nat.le_of_ble_eq_true rfl⟩ zokc_10 (s_X8_refuse G (nI 1) (up μ 10 0 0 6 (nI 0))) (fun v μ9 hp => ?_) (fun _ _ hp => False.elim hp)
    rw [hp.1, hp.2]
    refine v_norm (st' := [.int (nI 0)]) (cells' := 0) (slots' := 0) rfl rfl rfl ?_
    exact v_iret dX8_queue_26 rfl (Nat.le_of_ble_eq_true rfl) (Nat.le_of_ble_eq_true rfl) h
  · replace h := h.2 (bI_nf hq)
    refine v_aload_n (n := 14) dX8_queue_13 rfl rfl ?_
    refine v_iload_n (n := 15) dX8_queue_14 rfl rfl ?_
    refine v_callV (n := 18) (k := 10) (b := 0) (i := 0) (As := [.int x2]) (rest := []) dX8_queue_15 rfl lk_X8_74 rfl rfl (Nat.le_of_ble_eq_true rfl) ⟨Nat.le_of_ble_eq_true rfl, Nat.le_of_ble_eq_true rfl, Nat.le_of_ble_eq_true rfl, Nat.le_of_ble_eq_true rfl⟩ zokc_10 (s_X8_isLift G x2 (up μ 10 0 0 6 (nI 0))) (fun v μ9 hp => ?_) (fun _ _ hp => False.elim hp)
    rw [hp.1, hp.2]
    refine v_norm (st' := [.int (bI (mix (up μ 10 0 0 6 (nI 0)) 3 x2))]) (cells' := 0) (slots' := 0) rfl rfl rfl ?_
    refine v_if_ne (n := 21) (t := 27) dX8_queue_18 rfl (by decide) (fun hq => ?_) (fun hq => ?_)
    · replace h := h.1 (bI_nf hq)
      refine v_aload_n (n := 28) dX8_queue_27 rfl rfl ?_
      refine v_iload_n (n := 29) dX8_queue_28 rfl rfl ?_
      refine v_iload_n (n := 30) dX8_queue_29 rfl rfl ?_
      obtain ⟨j1, ej1, hj1, h⟩ := h
      obtain ⟨j2, ej2, hj2, h⟩ := h
      refine v_callV (n := 33) (k := 10) (b := 0) (i := 0) (As := [.int x1, .int x2]) (rest := []) dX8_queue_30 rfl lk_X8_105 rfl rfl (Nat.le_of_ble_eq_true rfl) ⟨Nat.le_of_ble_eq_true rfl, Nat.le_of_ble_eq_true rfl, Nat.le_of_ble_eq_true rfl, Nat.le_of_ble_eq_true rfl⟩ zokc_10 (s_X8_whyNoLift G x1 j1 ej1 hj1 x2 j2 ej2 hj2 (up μ 10 0 0 6 (nI 0))) (fun v μ9 hp => ?_) (fun _ _ hp => False.elim hp)
      rw [hp.1, hp.2]
      refine v_norm (st' := [.int (mnl (up μ 10 0 0 6 (nI 0)) j1 j2)]) (cells' := 0) (slots' := 0) rfl rfl rfl ?_
      refine v_istore_n (n := 34) (L' := [(0, .ref (zad G.1 10 0 0)), (1, .int x1), (2, .int x2), (3, .int (mnl (up μ 10 0 0 6 (nI 0)) j1 j2))]) dX8_queue_33 rfl (by decide) rfl ?_
      refine v_iload_n (n := 35) dX8_queue_34 rfl rfl ?_
      refine v_if_le (n := 38) (t := 45) dX8_queue_35 rfl (by decide) (fun hq => ?_) (fun hq => ?_)
      · replace h := h.1 hq
        refine v_aload_n (n := 46) dX8_queue_45 rfl rfl ?_
        refine v_callV (n := 49) (k := 10) (b := 0) (i := 0) (As := []) (rest := []) dX8_queue_46 rfl lk_X8_65 rfl rfl (Nat.le_of_ble_eq_true rfl) ⟨Nat.le_of_ble_eq_true rfl, Nat.le_of_ble_eq_true rfl, Nat.le_of_ble_eq_true rfl, Nat.le_of_ble_eq_true rfl⟩ zokc_10 h (fun v μ1 h => ?_) (fun _ _ hp => False.elim hp)
        obtain ⟨rfl, h⟩ := h
        refine v_norm (st' := []) (cells' := 0) (slots' := 0) rfl rfl rfl ?_
        refine v_aload_n (n := 50) dX8_queue_49 rfl rfl ?_
        refine v_iload_n (n := 51) dX8_queue_50 rfl rfl ?_
        refine v_iload_n (n := 52) dX8_queue_51 rfl rfl ?_
        refine v_callV (n := 55) (k := 10) (b := 0) (i := 0) (As := [.int x1, .int x2]) (rest := []) dX8_queue_52 rfl lk_X8_111 rfl rfl (Nat.le_of_ble_eq_true rfl) ⟨Nat.le_of_ble_eq_true rfl, Nat.le_of_ble_eq_true rfl, Nat.le_of_ble_eq_true rfl, Nat.le_of_ble_eq_true rfl⟩ zokc_10 h (fun v μ2 h => ?_) (fun _ _ hp => False.elim hp)
        obtain ⟨r1, rfl, h⟩ := h
        refine v_norm (st' := [.int r1]) (cells' := 0) (slots' := 0) rfl rfl rfl ?_
        exact v_iret dX8_queue_55 rfl (Nat.le_of_ble_eq_true rfl) (Nat.le_of_ble_eq_true rfl) h
      · replace h := h.2 hq
        refine v_aload_n (n := 39) dX8_queue_38 rfl rfl ?_
        refine v_iload_n (n := 40) dX8_queue_39 rfl rfl ?_
        refine v_iload_n (n := 41) dX8_queue_40 rfl rfl ?_
        refine v_callV (n := 44) (k := 10) (b := 0) (i := 0) (As := [.int x1, .int (mnl (up μ 10 0 0 6 (nI 0)) j1 j2)]) (rest := []) dX8_queue_41 rfl lk_X8_108 rfl rfl (Nat.le_of_ble_eq_true rfl) ⟨Nat.le_of_ble_eq_true rfl, Nat.le_of_ble_eq_true rfl, Nat.le_of_ble_eq_true rfl, Nat.le_of_ble_eq_true rfl⟩ zokc_10 h (fun v μ3 h => ?_) (fun _ _ hp => False.elim hp)
        obtain ⟨r2, rfl, h⟩ := h
        refine v_norm (st' := [.int r2]) (cells' := 0) (slots' := 0) rfl rfl rfl ?_
        exact v_iret dX8_queue_44 rfl (Nat.le_of_ble_eq_true rfl) (Nat.le_of_ble_eq_true rfl) h
    · replace h := h.2 (bI_f hq)
      refine v_aload_n (n := 22) dX8_queue_21 rfl rfl ?_
      refine v_iconst (n := 23) (x := nI 1) dX8_queue_22 rfl (by decide) ?_
      refine v_callV (n := 26) (k := 10) (b := 0) (i := 0) (As := [.int (nI 1)]) (rest := []) dX8_queue_23 rfl lk_X8_62 rfl rfl (Nat.le_of_ble_eq_true rfl) ⟨Nat.le_of_ble_eq_true rfl, Nat.le_of_ble_eq_true rfl, Nat.le_of_ble_eq_true rfl, Nat.le_of_ble_eq_true rfl⟩ zokc_10 (s_X8_refuse G (nI 1) (up μ 10 0 0 6 (nI 0))) (fun v μ9 hp => ?_) (fun _ _ hp => False.elim hp)
      rw [hp.1, hp.2]
      refine v_norm (st' := [.int (nI 0)]) (cells' := 0) (slots' := 0) rfl rfl rfl ?_
      exact v_iret dX8_queue_26 rfl (Nat.le_of_ble_eq_true rfl) (Nat.le_of_ble_eq_true rfl) h

set_option maxRecDepth 20000 in
set_option maxHeartbeats 4000000 in
theorem wX8_ski (G : Gl) {P : Option Value → St → Prop} {X : String → St → Prop} (x1 : Int32) (x2 : Int32) (μ : St)
    (h : ((mix (up μ 10 0 0 6 (nI 0)) 5 x1 = false → P (some (.int (nI 0))) (up (up μ 10 0 0 6 (nI 0)) 10 0 0 6 (nI 1))) ∧ (mix (up μ 10 0 0 6 (nI 0)) 5 x1 = true → ((mix (up μ 10 0 0 6 (nI 0)) 4 x2 = true → ∃ j1 : Nat, x1 = nI j1 ∧ j1 < 16 ∧ ∃ j2 : Nat, x2 = nI j2 ∧ j2 < 10 ∧ ((mnp (up μ 10 0 0 6 (nI 0)) j1 j2 ≤ 0 → Con G mX8_keep [.ref (zad G.1 10 0 0)] (up μ 10 0 0 6 (nI 0)) (fun v μ1 => v = none ∧ Con G mX8_goDown [.ref (zad G.1 10 0 0), .int x1, .int x2] μ1 (fun v μ2 => ∃ r1 : Int32, v = some (.int r1) ∧ P (some (.int r1)) μ2) noX) noX) ∧ (¬ mnp (up μ 10 0 0 6 (nI 0)) j1 j2 ≤ 0 → Con G mX8_refuses [.ref (zad G.1 10 0 0), .int x1, .int (mnp (up μ 10 0 0 6 (nI 0)) j1 j2)] (up μ 10 0 0 6 (nI 0)) (fun v μ3 => ∃ r2 : Int32, v = some (.int r2) ∧ P (some (.int r2)) μ3) noX))) ∧ (mix (up μ 10 0 0 6 (nI 0)) 4 x2 = false → P (some (.int (nI 0))) (up (up μ 10 0 0 6 (nI 0)) 10 0 0 6 (nI 1))))))) :
    Con G mX8_ski [.ref (zad G.1 10 0 0), .int x1, .int x2] μ P X := by
  refine con_of pn_X8 rfl (Nat.le_of_ble_eq_true rfl) ?_
  show VL G mX8_ski P X 0 [(0, .ref (zad G.1 10 0 0)), (1, .int x1), (2, .int x2)] [] μ
  refine v_aload_n (n := 1) dX8_ski_0 rfl rfl ?_
  refine v_iconst (n := 2) (x := nI 0) dX8_ski_1 rfl (by decide) ?_
  refine v_putf (n := 5) dX8_ski_2 rfl fw_X8_41 zokc_10 (fun _ => rfl) rfl rfl ?_
  refine v_aload_n (n := 6) dX8_ski_5 rfl rfl ?_
  refine v_iload_n (n := 7) dX8_ski_6 rfl rfl ?_
  refine v_callV (n := 10) (k := 10) (b := 0) (i := 0) (As := [.int x1]) (rest := []) dX8_ski_7 rfl lk_X8_92 rfl rfl (Nat.le_of_ble_eq_true rfl) ⟨Nat.le_of_ble_eq_true rfl, Nat.le_of_ble_eq_true rfl, Nat.le_of_ble_eq_true rfl, Nat.le_of_ble_eq_true rfl⟩ zokc_10 (s_X8_isGuest G x1 (up μ 10 0 0 6 (nI 0))) (fun v μ9 hp => ?_) (fun _ _ hp => False.elim hp)
  rw [hp.1, hp.2]
  refine v_norm (st' := [.int (bI (mix (up μ 10 0 0 6 (nI 0)) 5 x1))]) (cells' := 0) (slots' := 0) rfl rfl rfl ?_
  refine v_if_eq (n := 13) (t := 21) dX8_ski_10 rfl (by decide) (fun hq => ?_) (fun hq => ?_)
  · replace h := h.1 (bI_f hq)
    refine v_aload_n (n := 22) dX8_ski_21 rfl rfl ?_
    refine v_iconst (n := 23) (x := nI 1) dX8_ski_22 rfl (by decide) ?_
    refine v_callV (n := 26) (k := 10) (b := 0) (i := 0) (As := [.int (nI 1)]) (rest := []) dX8_ski_23 rfl lk_X8_62 rfl rfl (Nat.le_of_ble_eq_true rfl) ⟨Nat.le_of_ble_eq_true rfl, Nat.le_of_ble_eq_true rfl, Nat.le_of_ble_eq_true rfl, Nat.le_of_ble_eq_true rfl⟩ zokc_10 (s_X8_refuse G (nI 1) (up μ 10 0 0 6 (nI 0))) (fun v μ9 hp => ?_) (fun _ _ hp => False.elim hp)
    rw [hp.1, hp.2]
    refine v_norm (st' := [.int (nI 0)]) (cells' := 0) (slots' := 0) rfl rfl rfl ?_
    exact v_iret dX8_ski_26 rfl (Nat.le_of_ble_eq_true rfl) (Nat.le_of_ble_eq_true rfl) h
  · replace h := h.2 (bI_nf hq)
    refine v_aload_n (n := 14) dX8_ski_13 rfl rfl ?_
    refine v_iload_n (n := 15) dX8_ski_14 rfl rfl ?_
    refine v_callV (n := 18) (k := 10) (b := 0) (i := 0) (As := [.int x2]) (rest := []) dX8_ski_15 rfl lk_X8_81 rfl rfl (Nat.le_of_ble_eq_true rfl) ⟨Nat.le_of_ble_eq_true rfl, Nat.le_of_ble_eq_true rfl, Nat.le_of_ble_eq_true rfl, Nat.le_of_ble_eq_true rfl⟩ zokc_10 (s_X8_isPiste G x2 (up μ 10 0 0 6 (nI 0))) (fun v μ9 hp => ?_) (fun _ _ hp => False.elim hp)
    rw [hp.1, hp.2]
    refine v_norm (st' := [.int (bI (mix (up μ 10 0 0 6 (nI 0)) 4 x2))]) (cells' := 0) (slots' := 0) rfl rfl rfl ?_
    refine v_if_ne (n := 21) (t := 27) dX8_ski_18 rfl (by decide) (fun hq => ?_) (fun hq => ?_)
    · replace h := h.1 (bI_nf hq)
      refine v_aload_n (n := 28) dX8_ski_27 rfl rfl ?_
      refine v_iload_n (n := 29) dX8_ski_28 rfl rfl ?_
      refine v_iload_n (n := 30) dX8_ski_29 rfl rfl ?_
      obtain ⟨j1, ej1, hj1, h⟩ := h
      obtain ⟨j2, ej2, hj2, h⟩ := h
      refine v_callV (n := 33) (k := 10) (b := 0) (i := 0) (As := [.int x1, .int x2]) (rest := []) dX8_ski_30 rfl lk_X8_114 rfl rfl (Nat.le_of_ble_eq_true rfl) ⟨Nat.le_of_ble_eq_true rfl, Nat.le_of_ble_eq_true rfl, Nat.le_of_ble_eq_true rfl, Nat.le_of_ble_eq_true rfl⟩ zokc_10 (s_X8_whyNoPiste G x1 j1 ej1 hj1 x2 j2 ej2 hj2 (up μ 10 0 0 6 (nI 0))) (fun v μ9 hp => ?_) (fun _ _ hp => False.elim hp)
      rw [hp.1, hp.2]
      refine v_norm (st' := [.int (mnp (up μ 10 0 0 6 (nI 0)) j1 j2)]) (cells' := 0) (slots' := 0) rfl rfl rfl ?_
      refine v_istore_n (n := 34) (L' := [(0, .ref (zad G.1 10 0 0)), (1, .int x1), (2, .int x2), (3, .int (mnp (up μ 10 0 0 6 (nI 0)) j1 j2))]) dX8_ski_33 rfl (by decide) rfl ?_
      refine v_iload_n (n := 35) dX8_ski_34 rfl rfl ?_
      refine v_if_le (n := 38) (t := 45) dX8_ski_35 rfl (by decide) (fun hq => ?_) (fun hq => ?_)
      · replace h := h.1 hq
        refine v_aload_n (n := 46) dX8_ski_45 rfl rfl ?_
        refine v_callV (n := 49) (k := 10) (b := 0) (i := 0) (As := []) (rest := []) dX8_ski_46 rfl lk_X8_65 rfl rfl (Nat.le_of_ble_eq_true rfl) ⟨Nat.le_of_ble_eq_true rfl, Nat.le_of_ble_eq_true rfl, Nat.le_of_ble_eq_true rfl, Nat.le_of_ble_eq_true rfl⟩ zokc_10 h (fun v μ1 h => ?_) (fun _ _ hp => False.elim hp)
        obtain ⟨rfl, h⟩ := h
        refine v_norm (st' := []) (cells' := 0) (slots' := 0) rfl rfl rfl ?_
        refine v_aload_n (n := 50) dX8_ski_49 rfl rfl ?_
        refine v_iload_n (n := 51) dX8_ski_50 rfl rfl ?_
        refine v_iload_n (n := 52) dX8_ski_51 rfl rfl ?_
        refine v_callV (n := 55) (k := 10) (b := 0) (i := 0) (As := [.int x1, .int x2]) (rest := []) dX8_ski_52 rfl lk_X8_117 rfl rfl (Nat.le_of_ble_eq_true rfl) ⟨Nat.le_of_ble_eq_true rfl, Nat.le_of_ble_eq_true rfl, Nat.le_of_ble_eq_true rfl, Nat.le_of_ble_eq_true rfl⟩ zokc_10 h (fun v μ2 h => ?_) (fun _ _ hp => False.elim hp)
        obtain ⟨r1, rfl, h⟩ := h
        refine v_norm (st' := [.int r1]) (cells' := 0) (slots' := 0) rfl rfl rfl ?_
        exact v_iret dX8_ski_55 rfl (Nat.le_of_ble_eq_true rfl) (Nat.le_of_ble_eq_true rfl) h
      · replace h := h.2 hq
        refine v_aload_n (n := 39) dX8_ski_38 rfl rfl ?_
        refine v_iload_n (n := 40) dX8_ski_39 rfl rfl ?_
        refine v_iload_n (n := 41) dX8_ski_40 rfl rfl ?_
        refine v_callV (n := 44) (k := 10) (b := 0) (i := 0) (As := [.int x1, .int (mnp (up μ 10 0 0 6 (nI 0)) j1 j2)]) (rest := []) dX8_ski_41 rfl lk_X8_108 rfl rfl (Nat.le_of_ble_eq_true rfl) ⟨Nat.le_of_ble_eq_true rfl, Nat.le_of_ble_eq_true rfl, Nat.le_of_ble_eq_true rfl, Nat.le_of_ble_eq_true rfl⟩ zokc_10 h (fun v μ3 h => ?_) (fun _ _ hp => False.elim hp)
        obtain ⟨r2, rfl, h⟩ := h
        refine v_norm (st' := [.int r2]) (cells' := 0) (slots' := 0) rfl rfl rfl ?_
        exact v_iret dX8_ski_44 rfl (Nat.le_of_ble_eq_true rfl) (Nat.le_of_ble_eq_true rfl) h
    · replace h := h.2 (bI_f hq)
      refine v_aload_n (n := 22) dX8_ski_21 rfl rfl ?_
      refine v_iconst (n := 23) (x := nI 1) dX8_ski_22 rfl (by decide) ?_
      refine v_callV (n := 26) (k := 10) (b := 0) (i := 0) (As := [.int (nI 1)]) (rest := []) dX8_ski_23 rfl lk_X8_62 rfl rfl (Nat.le_of_ble_eq_true rfl) ⟨Nat.le_of_ble_eq_true rfl, Nat.le_of_ble_eq_true rfl, Nat.le_of_ble_eq_true rfl, Nat.le_of_ble_eq_true rfl⟩ zokc_10 (s_X8_refuse G (nI 1) (up μ 10 0 0 6 (nI 0))) (fun v μ9 hp => ?_) (fun _ _ hp => False.elim hp)
      rw [hp.1, hp.2]
      refine v_norm (st' := [.int (nI 0)]) (cells' := 0) (slots' := 0) rfl rfl rfl ?_
      exact v_iret dX8_ski_26 rfl (Nat.le_of_ble_eq_true rfl) (Nat.le_of_ble_eq_true rfl) h

set_option maxRecDepth 20000 in
set_option maxHeartbeats 4000000 in
theorem wX8_drops (G : Gl) {P : Option Value → St → Prop} {X : String → St → Prop} (l : Nat) (hl : l < 6) (fr : Nat) (x3 : Int32) (μ : St)
    (h : VL G mX8_drops P X 23 [(0, .ref (zad G.1 10 0 0)), (1, .int (nI l)), (2, .int (nI fr)), (3, .int x3), (4, .int (nI (6 + 21 * l))), (5, .int (nI fr))] [] (up μ 26 0 0 (6 + 21 * l + 10) ((μ 26 0 0 (6 + 21 * l + 10)) - x3))) :
    Con G mX8_drops [.ref (zad G.1 10 0 0), .int (nI l), .int (nI fr), .int x3] μ P X := by
  refine con_of pn_X8 rfl (Nat.le_of_ble_eq_true rfl) ?_
  show VL G mX8_drops P X 0 [(0, .ref (zad G.1 10 0 0)), (1, .int (nI l)), (2, .int (nI fr)), (3, .int x3)] [] μ
  refine v_iload_n (n := 1) dX8_drops_0 rfl rfl ?_
  refine v_callS (n := 4) (As := [.int (nI l)]) (rest := []) dX8_drops_1 rfl lk_X8_51 rfl rfl (Nat.le_of_ble_eq_true rfl) ⟨Nat.le_of_ble_eq_true rfl, Nat.le_of_ble_eq_true rfl, Nat.le_of_ble_eq_true rfl, Nat.le_of_ble_eq_true rfl⟩ (s_X8_lift0N G l μ) (fun v μ9 hp => ?_) (fun _ _ hp => False.elim hp)
  rw [hp.1, hp.2]
  refine v_norm (st' := [.int (nI (6 + 21 * l))]) (cells' := 0) (slots' := 0) rfl rfl rfl ?_
  refine v_istore (n := 6) (L' := [(0, .ref (zad G.1 10 0 0)), (1, .int (nI l)), (2, .int (nI fr)), (3, .int x3), (4, .int (nI (6 + 21 * l)))]) dX8_drops_4 rfl (by decide) rfl ?_
  refine v_aload_n (n := 7) dX8_drops_6 rfl rfl ?_
  refine v_getf (n := 10) dX8_drops_7 rfl fl_X8_9 zokc_10 rfl ?_
  refine v_iload (n := 12) dX8_drops_10 rfl rfl ?_
  refine v_bipush (n := 14) (x := nI 10) dX8_drops_12 rfl (by decide) ?_
  refine v_iadd (n := 15) dX8_drops_14 rfl ?_
  refine v_top (y := nI (6 + 21 * l + 10)) (nI_add (6 + 21 * l) 10) ?_
  refine v_dup2 (n := 16) dX8_drops_15 rfl rfl rfl ?_
  refine v_iald (n := 17) (j := (6 + 21 * l + 10)) dX8_drops_16 rfl zokc_26 (by decide) rfl rfl (show 6 + 21 * l + 10 < 372 by omega) (rfl) ?_
  refine v_iload_n (n := 18) dX8_drops_17 rfl rfl ?_
  refine v_isub (n := 19) dX8_drops_18 rfl ?_
  refine v_iast (n := 20) (j := (6 + 21 * l + 10)) dX8_drops_19 rfl zokc_26 (by decide) (by decide) rfl rfl (show 6 + 21 * l + 10 < 372 by omega) (fun _ => rfl) ?_
  refine v_iload_n (n := 21) dX8_drops_20 rfl rfl ?_
  refine v_istore (n := 23) (L' := [(0, .ref (zad G.1 10 0 0)), (1, .int (nI l)), (2, .int (nI fr)), (3, .int x3), (4, .int (nI (6 + 21 * l))), (5, .int (nI fr))]) dX8_drops_21 rfl (by decide) rfl ?_
  exact h

set_option maxRecDepth 20000 in
set_option maxHeartbeats 4000000 in
theorem wX8_drops_23 (G : Gl) {P : Option Value → St → Prop} {X : String → St → Prop} (l : Nat) (hl : l < 6) (fr : Nat) (x3 : Int32) (y5 : Int32) (μ : St)
    (h : ((μ 26 0 0 (6 + 21 * l + 10) ≤ y5 → P none μ) ∧ (¬ μ 26 0 0 (6 + 21 * l + 10) ≤ y5 → ∃ j1 : Nat, ((nI (6 + 21 * l + 11)) + y5) + x3 = nI j1 ∧ j1 < 372 ∧ ∃ j2 : Nat, (nI (6 + 21 * l + 11)) + y5 = nI j2 ∧ j2 < 372 ∧ VL G mX8_drops P X 23 [(0, .ref (zad G.1 10 0 0)), (1, .int (nI l)), (2, .int (nI fr)), (3, .int x3), (4, .int (nI (6 + 21 * l))), (5, .int (y5 + 1))] [] (up μ 26 0 0 j2 (μ 26 0 0 j1))))) :
    VL G mX8_drops P X 23 [(0, .ref (zad G.1 10 0 0)), (1, .int (nI l)), (2, .int (nI fr)), (3, .int x3), (4, .int (nI (6 + 21 * l))), (5, .int y5)] [] μ := by
  refine v_iload (n := 25) dX8_drops_23 rfl rfl ?_
  refine v_aload_n (n := 26) dX8_drops_25 rfl rfl ?_
  refine v_getf (n := 29) dX8_drops_26 rfl fl_X8_9 zokc_10 rfl ?_
  refine v_iload (n := 31) dX8_drops_29 rfl rfl ?_
  refine v_bipush (n := 33) (x := nI 10) dX8_drops_31 rfl (by decide) ?_
  refine v_iadd (n := 34) dX8_drops_33 rfl ?_
  refine v_top (y := nI (6 + 21 * l + 10)) (nI_add (6 + 21 * l) 10) ?_
  refine v_iald (n := 35) (j := (6 + 21 * l + 10)) dX8_drops_34 rfl zokc_26 (by decide) rfl rfl (show 6 + 21 * l + 10 < 372 by omega) (rfl) ?_
  refine v_icmp_ge (n := 38) (t := 72) dX8_drops_35 rfl (by decide) (fun hq => ?_) (fun hq => ?_)
  · replace h := h.1 hq
    exact v_vret dX8_drops_72 rfl (Nat.le_of_ble_eq_true rfl) (Nat.le_of_ble_eq_true rfl) h
  · replace h := h.2 hq
    refine v_aload_n (n := 39) dX8_drops_38 rfl rfl ?_
    refine v_getf (n := 42) dX8_drops_39 rfl fl_X8_9 zokc_10 rfl ?_
    refine v_iload (n := 44) dX8_drops_42 rfl rfl ?_
    refine v_bipush (n := 46) (x := nI 11) dX8_drops_44 rfl (by decide) ?_
    refine v_iadd (n := 47) dX8_drops_46 rfl ?_
    refine v_top (y := nI (6 + 21 * l + 11)) (nI_add (6 + 21 * l) 11) ?_
    refine v_iload (n := 49) dX8_drops_47 rfl rfl ?_
    refine v_iadd (n := 50) dX8_drops_49 rfl ?_
    refine v_aload_n (n := 51) dX8_drops_50 rfl rfl ?_
    refine v_getf (n := 54) dX8_drops_51 rfl fl_X8_9 zokc_10 rfl ?_
    refine v_iload (n := 56) dX8_drops_54 rfl rfl ?_
    refine v_bipush (n := 58) (x := nI 11) dX8_drops_56 rfl (by decide) ?_
    refine v_iadd (n := 59) dX8_drops_58 rfl ?_
    refine v_top (y := nI (6 + 21 * l + 11)) (nI_add (6 + 21 * l) 11) ?_
    refine v_iload (n := 61) dX8_drops_59 rfl rfl ?_
    refine v_iadd (n := 62) dX8_drops_61 rfl ?_
    refine v_iload_n (n := 63) dX8_drops_62 rfl rfl ?_
    refine v_iadd (n := 64) dX8_drops_63 rfl ?_
    obtain ⟨j1, ej1, hj1, h⟩ := h
    refine v_iald (n := 65) (j := j1) dX8_drops_64 rfl zokc_26 (by decide) rfl ej1 hj1 (rfl) ?_
    obtain ⟨j2, ej2, hj2, h⟩ := h
    refine v_iast (n := 66) (j := j2) dX8_drops_65 rfl zokc_26 (by decide) (by decide) rfl ej2 hj2 (fun _ => rfl) ?_
    refine v_iinc (n := 69) (x := y5) (y := y5 + 1) (L' := [(0, .ref (zad G.1 10 0 0)), (1, .int (nI l)), (2, .int (nI fr)), (3, .int x3), (4, .int (nI (6 + 21 * l))), (5, .int (y5 + 1))]) dX8_drops_66 rfl rfl rfl (by decide) rfl ?_
    refine v_goto (n := 23) dX8_drops_69 (by decide) ?_
    exact h

set_option maxRecDepth 20000 in
set_option maxHeartbeats 4000000 in
theorem wX8_leave (G : Gl) {P : Option Value → St → Prop} {X : String → St → Prop} (x1 : Int32) (μ : St)
    (h : ((mix μ 5 x1 = true → ∃ j1 : Nat, (nI 212 + nI 10 * x1) + (nI 4) = nI j1 ∧ j1 < 372 ∧ ((μ 26 0 0 j1 ≤ nI 1 → ((nI 0 ≤ 0 → Con G mX8_keep [.ref (zad G.1 10 0 0)] (up μ 10 0 0 6 (nI 0)) (fun v μ1 => v = none ∧ ∃ j2 : Nat, (nI 212 + nI 10 * x1) + (nI 4) = nI j2 ∧ j2 < 372 ∧ ((¬ μ1 26 0 0 j2 = 0 → ∃ j3 : Nat, (nI 212 + nI 10 * x1) + (nI 5) = nI j3 ∧ j3 < 372 ∧ Con G mX8_placeOf [.ref (zad G.1 10 0 0), .int x1] μ1 (fun v μ2 => ∃ r1 : Int32, v = some (.int r1) ∧ Con G mX8_drops [.ref (zad G.1 10 0 0), .int (μ1 26 0 0 j3), .int r1, .int (nI 1)] μ2 (fun v μ3 => v = none ∧ ∃ j4 : Nat, (nI 212 + nI 10 * x1) + (nI 4) = nI j4 ∧ j4 < 372 ∧ ∃ j5 : Nat, nI 6 + nI 21 * (μ1 26 0 0 j3) = nI j5 ∧ j5 < 372 ∧ ∃ j6 : Nat, (nI 212 + nI 10 * x1) + (nI 5) = nI j6 ∧ j6 < 372 ∧ P (some (.int (nI 0))) (up (up μ3 26 0 0 j4 (nI 0)) 26 0 0 j6 ((up μ3 26 0 0 j4 (nI 0)) 26 0 0 j5))) noX) noX) ∧ (μ1 26 0 0 j2 = 0 → ∃ j7 : Nat, (nI 212 + nI 10 * x1) + (nI 4) = nI j7 ∧ j7 < 372 ∧ P (some (.int (nI 4))) (up μ1 26 0 0 j7 (nI 4))))) noX) ∧ (¬ nI 0 ≤ 0 → P (some (.int (nI 0))) (up μ 10 0 0 6 (nI 0))))) ∧ (¬ μ 26 0 0 j1 ≤ nI 1 → ((nI 2 ≤ 0 → Con G mX8_keep [.ref (zad G.1 10 0 0)] (up μ 10 0 0 6 (nI 2)) (fun v μ4 => v = none ∧ ∃ j8 : Nat, (nI 212 + nI 10 * x1) + (nI 4) = nI j8 ∧ j8 < 372 ∧ ((¬ μ4 26 0 0 j8 = 0 → ∃ j9 : Nat, (nI 212 + nI 10 * x1) + (nI 5) = nI j9 ∧ j9 < 372 ∧ Con G mX8_placeOf [.ref (zad G.1 10 0 0), .int x1] μ4 (fun v μ5 => ∃ r2 : Int32, v = some (.int r2) ∧ Con G mX8_drops [.ref (zad G.1 10 0 0), .int (μ4 26 0 0 j9), .int r2, .int (nI 1)] μ5 (fun v μ6 => v = none ∧ ∃ j10 : Nat, (nI 212 + nI 10 * x1) + (nI 4) = nI j10 ∧ j10 < 372 ∧ ∃ j11 : Nat, nI 6 + nI 21 * (μ4 26 0 0 j9) = nI j11 ∧ j11 < 372 ∧ ∃ j12 : Nat, (nI 212 + nI 10 * x1) + (nI 5) = nI j12 ∧ j12 < 372 ∧ P (some (.int (nI 0))) (up (up μ6 26 0 0 j10 (nI 0)) 26 0 0 j12 ((up μ6 26 0 0 j10 (nI 0)) 26 0 0 j11))) noX) noX) ∧ (μ4 26 0 0 j8 = 0 → ∃ j13 : Nat, (nI 212 + nI 10 * x1) + (nI 4) = nI j13 ∧ j13 < 372 ∧ P (some (.int (nI 4))) (up μ4 26 0 0 j13 (nI 4))))) noX) ∧ (¬ nI 2 ≤ 0 → P (some (.int (nI 0))) (up μ 10 0 0 6 (nI 2))))))) ∧ (mix μ 5 x1 = false → ((nI 1 ≤ 0 → Con G mX8_keep [.ref (zad G.1 10 0 0)] (up μ 10 0 0 6 (nI 1)) (fun v μ7 => v = none ∧ ∃ j14 : Nat, (nI 212 + nI 10 * x1) + (nI 4) = nI j14 ∧ j14 < 372 ∧ ((¬ μ7 26 0 0 j14 = 0 → ∃ j15 : Nat, (nI 212 + nI 10 * x1) + (nI 5) = nI j15 ∧ j15 < 372 ∧ Con G mX8_placeOf [.ref (zad G.1 10 0 0), .int x1] μ7 (fun v μ8 => ∃ r3 : Int32, v = some (.int r3) ∧ Con G mX8_drops [.ref (zad G.1 10 0 0), .int (μ7 26 0 0 j15), .int r3, .int (nI 1)] μ8 (fun v μ9 => v = none ∧ ∃ j16 : Nat, (nI 212 + nI 10 * x1) + (nI 4) = nI j16 ∧ j16 < 372 ∧ ∃ j17 : Nat, nI 6 + nI 21 * (μ7 26 0 0 j15) = nI j17 ∧ j17 < 372 ∧ ∃ j18 : Nat, (nI 212 + nI 10 * x1) + (nI 5) = nI j18 ∧ j18 < 372 ∧ P (some (.int (nI 0))) (up (up μ9 26 0 0 j16 (nI 0)) 26 0 0 j18 ((up μ9 26 0 0 j16 (nI 0)) 26 0 0 j17))) noX) noX) ∧ (μ7 26 0 0 j14 = 0 → ∃ j19 : Nat, (nI 212 + nI 10 * x1) + (nI 4) = nI j19 ∧ j19 < 372 ∧ P (some (.int (nI 4))) (up μ7 26 0 0 j19 (nI 4))))) noX) ∧ (¬ nI 1 ≤ 0 → P (some (.int (nI 0))) (up μ 10 0 0 6 (nI 1))))))) :
    Con G mX8_leave [.ref (zad G.1 10 0 0), .int x1] μ P X := by
  refine con_of pn_X8 rfl (Nat.le_of_ble_eq_true rfl) ?_
  show VL G mX8_leave P X 0 [(0, .ref (zad G.1 10 0 0)), (1, .int x1)] [] μ
  refine v_aload_n (n := 1) dX8_leave_0 rfl rfl ?_
  refine v_aload_n (n := 2) dX8_leave_1 rfl rfl ?_
  refine v_iload_n (n := 3) dX8_leave_2 rfl rfl ?_
  refine v_callV (n := 6) (k := 10) (b := 0) (i := 0) (As := [.int x1]) (rest := [.ref (zad G.1 10 0 0)]) dX8_leave_3 rfl lk_X8_92 rfl rfl (Nat.le_of_ble_eq_true rfl) ⟨Nat.le_of_ble_eq_true rfl, Nat.le_of_ble_eq_true rfl, Nat.le_of_ble_eq_true rfl, Nat.le_of_ble_eq_true rfl⟩ zokc_10 (s_X8_isGuest G x1 μ) (fun v μ9 hp => ?_) (fun _ _ hp => False.elim hp)
  rw [hp.1, hp.2]
  refine v_norm (st' := [.int (bI (mix μ 5 x1)), .ref (zad G.1 10 0 0)]) (cells' := 0) (slots' := 0) rfl rfl rfl ?_
  refine v_if_ne (n := 9) (t := 13) dX8_leave_6 rfl (by decide) (fun hq => ?_) (fun hq => ?_)
  · replace h := h.1 (bI_nf hq)
    refine v_aload_n (n := 14) dX8_leave_13 rfl rfl ?_
    refine v_getf (n := 17) dX8_leave_14 rfl fl_X8_9 zokc_10 rfl ?_
    refine v_iload_n (n := 18) dX8_leave_17 rfl rfl ?_
    refine v_callS (n := 21) (As := [.int x1]) (rest := [.ref (zad G.1 26 0 0), .ref (zad G.1 10 0 0)]) dX8_leave_18 rfl lk_X8_71 rfl rfl (Nat.le_of_ble_eq_true rfl) ⟨Nat.le_of_ble_eq_true rfl, Nat.le_of_ble_eq_true rfl, Nat.le_of_ble_eq_true rfl, Nat.le_of_ble_eq_true rfl⟩ (s_X8_guest0 G x1 μ) (fun v μ9 hp => ?_) (fun _ _ hp => False.elim hp)
    rw [hp.1, hp.2]
    refine v_norm (st' := [.int (nI 212 + nI 10 * x1), .ref (zad G.1 26 0 0), .ref (zad G.1 10 0 0)]) (cells' := 0) (slots' := 0) rfl rfl rfl ?_
    refine v_iconst (n := 22) (x := nI 4) dX8_leave_21 rfl (by decide) ?_
    refine v_iadd (n := 23) dX8_leave_22 rfl ?_
    obtain ⟨j1, ej1, hj1, h⟩ := h
    refine v_iald (n := 24) (j := j1) dX8_leave_23 rfl zokc_26 (by decide) rfl ej1 hj1 (rfl) ?_
    refine v_iconst (n := 25) (x := nI 1) dX8_leave_24 rfl (by decide) ?_
    refine v_icmp_le (n := 28) (t := 32) dX8_leave_25 rfl (by decide) (fun hq => ?_) (fun hq => ?_)
    · replace h := h.1 hq
      refine v_iconst (n := 33) (x := nI 0) dX8_leave_32 rfl (by decide) ?_
      refine v_putf (n := 36) dX8_leave_33 rfl fw_X8_41 zokc_10 (fun _ => rfl) rfl rfl ?_
      refine v_aload_n (n := 37) dX8_leave_36 rfl rfl ?_
      refine v_getf (n := 40) dX8_leave_37 rfl fl_X8_41 zokc_10 (congrArg Value.int (up_self _ _ _ _ _ _)) ?_
      refine v_if_le (n := 43) (t := 45) dX8_leave_40 rfl (by decide) (fun hq => ?_) (fun hq => ?_)
      · replace h := h.1 hq
        refine v_aload_n (n := 46) dX8_leave_45 rfl rfl ?_
        refine v_callV (n := 49) (k := 10) (b := 0) (i := 0) (As := []) (rest := []) dX8_leave_46 rfl lk_X8_65 rfl rfl (Nat.le_of_ble_eq_true rfl) ⟨Nat.le_of_ble_eq_true rfl, Nat.le_of_ble_eq_true rfl, Nat.le_of_ble_eq_true rfl, Nat.le_of_ble_eq_true rfl⟩ zokc_10 h (fun v μ1 h => ?_) (fun _ _ hp => False.elim hp)
        obtain ⟨rfl, h⟩ := h
        refine v_norm (st' := []) (cells' := 0) (slots' := 0) rfl rfl rfl ?_
        refine v_iload_n (n := 50) dX8_leave_49 rfl rfl ?_
        refine v_callS (n := 53) (As := [.int x1]) (rest := []) dX8_leave_50 rfl lk_X8_71 rfl rfl (Nat.le_of_ble_eq_true rfl) ⟨Nat.le_of_ble_eq_true rfl, Nat.le_of_ble_eq_true rfl, Nat.le_of_ble_eq_true rfl, Nat.le_of_ble_eq_true rfl⟩ (s_X8_guest0 G x1 μ1) (fun v μ9 hp => ?_) (fun _ _ hp => False.elim hp)
        rw [hp.1, hp.2]
        refine v_norm (st' := [.int (nI 212 + nI 10 * x1)]) (cells' := 0) (slots' := 0) rfl rfl rfl ?_
        refine v_istore_n (n := 54) (L' := [(0, .ref (zad G.1 10 0 0)), (1, .int x1), (2, .int (nI 212 + nI 10 * x1))]) dX8_leave_53 rfl (by decide) rfl ?_
        refine v_aload_n (n := 55) dX8_leave_54 rfl rfl ?_
        refine v_getf (n := 58) dX8_leave_55 rfl fl_X8_9 zokc_10 rfl ?_
        refine v_iload_n (n := 59) dX8_leave_58 rfl rfl ?_
        refine v_iconst (n := 60) (x := nI 4) dX8_leave_59 rfl (by decide) ?_
        refine v_iadd (n := 61) dX8_leave_60 rfl ?_
        obtain ⟨j2, ej2, hj2, h⟩ := h
        refine v_iald (n := 62) (j := j2) dX8_leave_61 rfl zokc_26 (by decide) rfl ej2 hj2 (rfl) ?_
        refine v_if_ne (n := 65) (t := 76) dX8_leave_62 rfl (by decide) (fun hq => ?_) (fun hq => ?_)
        · replace h := h.1 hq
          refine v_aload_n (n := 77) dX8_leave_76 rfl rfl ?_
          refine v_getf (n := 80) dX8_leave_77 rfl fl_X8_9 zokc_10 rfl ?_
          refine v_iload_n (n := 81) dX8_leave_80 rfl rfl ?_
          refine v_iconst (n := 82) (x := nI 5) dX8_leave_81 rfl (by decide) ?_
          refine v_iadd (n := 83) dX8_leave_82 rfl ?_
          obtain ⟨j3, ej3, hj3, h⟩ := h
          refine v_iald (n := 84) (j := j3) dX8_leave_83 rfl zokc_26 (by decide) rfl ej3 hj3 (rfl) ?_
          refine v_istore_n (n := 85) (L' := [(0, .ref (zad G.1 10 0 0)), (1, .int x1), (2, .int (nI 212 + nI 10 * x1)), (3, .int (μ1 26 0 0 j3))]) dX8_leave_84 rfl (by decide) rfl ?_
          refine v_aload_n (n := 86) dX8_leave_85 rfl rfl ?_
          refine v_iload_n (n := 87) dX8_leave_86 rfl rfl ?_
          refine v_aload_n (n := 88) dX8_leave_87 rfl rfl ?_
          refine v_iload_n (n := 89) dX8_leave_88 rfl rfl ?_
          refine v_callV (n := 92) (k := 10) (b := 0) (i := 0) (As := [.int x1]) (rest := [.int (μ1 26 0 0 j3), .ref (zad G.1 10 0 0)]) dX8_leave_89 rfl lk_X8_95 rfl rfl (Nat.le_of_ble_eq_true rfl) ⟨Nat.le_of_ble_eq_true rfl, Nat.le_of_ble_eq_true rfl, Nat.le_of_ble_eq_true rfl, Nat.le_of_ble_eq_true rfl⟩ zokc_10 h (fun v μ2 h => ?_) (fun _ _ hp => False.elim hp)
          obtain ⟨r1, rfl, h⟩ := h
          refine v_norm (st' := [.int r1, .int (μ1 26 0 0 j3), .ref (zad G.1 10 0 0)]) (cells' := 0) (slots' := 0) rfl rfl rfl ?_
          refine v_iconst (n := 93) (x := nI 1) dX8_leave_92 rfl (by decide) ?_
          refine v_callV (n := 96) (k := 10) (b := 0) (i := 0) (As := [.int (μ1 26 0 0 j3), .int r1, .int (nI 1)]) (rest := []) dX8_leave_93 rfl lk_X8_120 rfl rfl (Nat.le_of_ble_eq_true rfl) ⟨Nat.le_of_ble_eq_true rfl, Nat.le_of_ble_eq_true rfl, Nat.le_of_ble_eq_true rfl, Nat.le_of_ble_eq_true rfl⟩ zokc_10 h (fun v μ3 h => ?_) (fun _ _ hp => False.elim hp)
          obtain ⟨rfl, h⟩ := h
          refine v_norm (st' := []) (cells' := 0) (slots' := 0) rfl rfl rfl ?_
          refine v_aload_n (n := 97) dX8_leave_96 rfl rfl ?_
          refine v_getf (n := 100) dX8_leave_97 rfl fl_X8_9 zokc_10 rfl ?_
          refine v_iload_n (n := 101) dX8_leave_100 rfl rfl ?_
          refine v_iconst (n := 102) (x := nI 4) dX8_leave_101 rfl (by decide) ?_
          refine v_iadd (n := 103) dX8_leave_102 rfl ?_
          refine v_iconst (n := 104) (x := nI 0) dX8_leave_103 rfl (by decide) ?_
          obtain ⟨j4, ej4, hj4, h⟩ := h
          refine v_iast (n := 105) (j := j4) dX8_leave_104 rfl zokc_26 (by decide) (by decide) rfl ej4 hj4 (fun _ => rfl) ?_
          refine v_aload_n (n := 106) dX8_leave_105 rfl rfl ?_
          refine v_getf (n := 109) dX8_leave_106 rfl fl_X8_9 zokc_10 rfl ?_
          refine v_iload_n (n := 110) dX8_leave_109 rfl rfl ?_
          refine v_iconst (n := 111) (x := nI 5) dX8_leave_110 rfl (by decide) ?_
          refine v_iadd (n := 112) dX8_leave_111 rfl ?_
          refine v_aload_n (n := 113) dX8_leave_112 rfl rfl ?_
          refine v_getf (n := 116) dX8_leave_113 rfl fl_X8_9 zokc_10 rfl ?_
          refine v_iload_n (n := 117) dX8_leave_116 rfl rfl ?_
          refine v_callS (n := 120) (As := [.int (μ1 26 0 0 j3)]) (rest := [.ref (zad G.1 26 0 0), .int ((nI 212 + nI 10 * x1) + (nI 5)), .ref (zad G.1 26 0 0)]) dX8_leave_117 rfl lk_X8_51 rfl rfl (Nat.le_of_ble_eq_true rfl) ⟨Nat.le_of_ble_eq_true rfl, Nat.le_of_ble_eq_true rfl, Nat.le_of_ble_eq_true rfl, Nat.le_of_ble_eq_true rfl⟩ (s_X8_lift0 G (μ1 26 0 0 j3) (up μ3 26 0 0 j4 (nI 0))) (fun v μ9 hp => ?_) (fun _ _ hp => False.elim hp)
          rw [hp.1, hp.2]
          refine v_norm (st' := [.int (nI 6 + nI 21 * (μ1 26 0 0 j3)), .ref (zad G.1 26 0 0), .int ((nI 212 + nI 10 * x1) + (nI 5)), .ref (zad G.1 26 0 0)]) (cells' := 0) (slots' := 0) rfl rfl rfl ?_
          obtain ⟨j5, ej5, hj5, h⟩ := h
          refine v_iald (n := 121) (j := j5) dX8_leave_120 rfl zokc_26 (by decide) rfl ej5 hj5 (rfl) ?_
          obtain ⟨j6, ej6, hj6, h⟩ := h
          refine v_iast (n := 122) (j := j6) dX8_leave_121 rfl zokc_26 (by decide) (by decide) rfl ej6 hj6 (fun _ => rfl) ?_
          refine v_iconst (n := 123) (x := nI 0) dX8_leave_122 rfl (by decide) ?_
          exact v_iret dX8_leave_123 rfl (Nat.le_of_ble_eq_true rfl) (Nat.le_of_ble_eq_true rfl) h
        · replace h := h.2 hq
          refine v_aload_n (n := 66) dX8_leave_65 rfl rfl ?_
          refine v_getf (n := 69) dX8_leave_66 rfl fl_X8_9 zokc_10 rfl ?_
          refine v_iload_n (n := 70) dX8_leave_69 rfl rfl ?_
          refine v_iconst (n := 71) (x := nI 4) dX8_leave_70 rfl (by decide) ?_
          refine v_iadd (n := 72) dX8_leave_71 rfl ?_
          refine v_iconst (n := 73) (x := nI 4) dX8_leave_72 rfl (by decide) ?_
          obtain ⟨j7, ej7, hj7, h⟩ := h
          refine v_iast (n := 74) (j := j7) dX8_leave_73 rfl zokc_26 (by decide) (by decide) rfl ej7 hj7 (fun _ => rfl) ?_
          refine v_iconst (n := 75) (x := nI 4) dX8_leave_74 rfl (by decide) ?_
          exact v_iret dX8_leave_75 rfl (Nat.le_of_ble_eq_true rfl) (Nat.le_of_ble_eq_true rfl) h
      · replace h := h.2 hq
        refine v_iconst (n := 44) (x := nI 0) dX8_leave_43 rfl (by decide) ?_
        exact v_iret dX8_leave_44 rfl (Nat.le_of_ble_eq_true rfl) (Nat.le_of_ble_eq_true rfl) h
    · replace h := h.2 hq
      refine v_iconst (n := 29) (x := nI 2) dX8_leave_28 rfl (by decide) ?_
      refine v_goto (n := 33) dX8_leave_29 (by decide) ?_
      refine v_putf (n := 36) dX8_leave_33 rfl fw_X8_41 zokc_10 (fun _ => rfl) rfl rfl ?_
      refine v_aload_n (n := 37) dX8_leave_36 rfl rfl ?_
      refine v_getf (n := 40) dX8_leave_37 rfl fl_X8_41 zokc_10 (congrArg Value.int (up_self _ _ _ _ _ _)) ?_
      refine v_if_le (n := 43) (t := 45) dX8_leave_40 rfl (by decide) (fun hq => ?_) (fun hq => ?_)
      · replace h := h.1 hq
        refine v_aload_n (n := 46) dX8_leave_45 rfl rfl ?_
        refine v_callV (n := 49) (k := 10) (b := 0) (i := 0) (As := []) (rest := []) dX8_leave_46 rfl lk_X8_65 rfl rfl (Nat.le_of_ble_eq_true rfl) ⟨Nat.le_of_ble_eq_true rfl, Nat.le_of_ble_eq_true rfl, Nat.le_of_ble_eq_true rfl, Nat.le_of_ble_eq_true rfl⟩ zokc_10 h (fun v μ4 h => ?_) (fun _ _ hp => False.elim hp)
        obtain ⟨rfl, h⟩ := h
        refine v_norm (st' := []) (cells' := 0) (slots' := 0) rfl rfl rfl ?_
        refine v_iload_n (n := 50) dX8_leave_49 rfl rfl ?_
        refine v_callS (n := 53) (As := [.int x1]) (rest := []) dX8_leave_50 rfl lk_X8_71 rfl rfl (Nat.le_of_ble_eq_true rfl) ⟨Nat.le_of_ble_eq_true rfl, Nat.le_of_ble_eq_true rfl, Nat.le_of_ble_eq_true rfl, Nat.le_of_ble_eq_true rfl⟩ (s_X8_guest0 G x1 μ4) (fun v μ9 hp => ?_) (fun _ _ hp => False.elim hp)
        rw [hp.1, hp.2]
        refine v_norm (st' := [.int (nI 212 + nI 10 * x1)]) (cells' := 0) (slots' := 0) rfl rfl rfl ?_
        refine v_istore_n (n := 54) (L' := [(0, .ref (zad G.1 10 0 0)), (1, .int x1), (2, .int (nI 212 + nI 10 * x1))]) dX8_leave_53 rfl (by decide) rfl ?_
        refine v_aload_n (n := 55) dX8_leave_54 rfl rfl ?_
        refine v_getf (n := 58) dX8_leave_55 rfl fl_X8_9 zokc_10 rfl ?_
        refine v_iload_n (n := 59) dX8_leave_58 rfl rfl ?_
        refine v_iconst (n := 60) (x := nI 4) dX8_leave_59 rfl (by decide) ?_
        refine v_iadd (n := 61) dX8_leave_60 rfl ?_
        obtain ⟨j8, ej8, hj8, h⟩ := h
        refine v_iald (n := 62) (j := j8) dX8_leave_61 rfl zokc_26 (by decide) rfl ej8 hj8 (rfl) ?_
        refine v_if_ne (n := 65) (t := 76) dX8_leave_62 rfl (by decide) (fun hq => ?_) (fun hq => ?_)
        · replace h := h.1 hq
          refine v_aload_n (n := 77) dX8_leave_76 rfl rfl ?_
          refine v_getf (n := 80) dX8_leave_77 rfl fl_X8_9 zokc_10 rfl ?_
          refine v_iload_n (n := 81) dX8_leave_80 rfl rfl ?_
          refine v_iconst (n := 82) (x := nI 5) dX8_leave_81 rfl (by decide) ?_
          refine v_iadd (n := 83) dX8_leave_82 rfl ?_
          obtain ⟨j9, ej9, hj9, h⟩ := h
          refine v_iald (n := 84) (j := j9) dX8_leave_83 rfl zokc_26 (by decide) rfl ej9 hj9 (rfl) ?_
          refine v_istore_n (n := 85) (L' := [(0, .ref (zad G.1 10 0 0)), (1, .int x1), (2, .int (nI 212 + nI 10 * x1)), (3, .int (μ4 26 0 0 j9))]) dX8_leave_84 rfl (by decide) rfl ?_
          refine v_aload_n (n := 86) dX8_leave_85 rfl rfl ?_
          refine v_iload_n (n := 87) dX8_leave_86 rfl rfl ?_
          refine v_aload_n (n := 88) dX8_leave_87 rfl rfl ?_
          refine v_iload_n (n := 89) dX8_leave_88 rfl rfl ?_
          refine v_callV (n := 92) (k := 10) (b := 0) (i := 0) (As := [.int x1]) (rest := [.int (μ4 26 0 0 j9), .ref (zad G.1 10 0 0)]) dX8_leave_89 rfl lk_X8_95 rfl rfl (Nat.le_of_ble_eq_true rfl) ⟨Nat.le_of_ble_eq_true rfl, Nat.le_of_ble_eq_true rfl, Nat.le_of_ble_eq_true rfl, Nat.le_of_ble_eq_true rfl⟩ zokc_10 h (fun v μ5 h => ?_) (fun _ _ hp => False.elim hp)
          obtain ⟨r2, rfl, h⟩ := h
          refine v_norm (st' := [.int r2, .int (μ4 26 0 0 j9), .ref (zad G.1 10 0 0)]) (cells' := 0) (slots' := 0) rfl rfl rfl ?_
          refine v_iconst (n := 93) (x := nI 1) dX8_leave_92 rfl (by decide) ?_
          refine v_callV (n := 96) (k := 10) (b := 0) (i := 0) (As := [.int (μ4 26 0 0 j9), .int r2, .int (nI 1)]) (rest := []) dX8_leave_93 rfl lk_X8_120 rfl rfl (Nat.le_of_ble_eq_true rfl) ⟨Nat.le_of_ble_eq_true rfl, Nat.le_of_ble_eq_true rfl, Nat.le_of_ble_eq_true rfl, Nat.le_of_ble_eq_true rfl⟩ zokc_10 h (fun v μ6 h => ?_) (fun _ _ hp => False.elim hp)
          obtain ⟨rfl, h⟩ := h
          refine v_norm (st' := []) (cells' := 0) (slots' := 0) rfl rfl rfl ?_
          refine v_aload_n (n := 97) dX8_leave_96 rfl rfl ?_
          refine v_getf (n := 100) dX8_leave_97 rfl fl_X8_9 zokc_10 rfl ?_
          refine v_iload_n (n := 101) dX8_leave_100 rfl rfl ?_
          refine v_iconst (n := 102) (x := nI 4) dX8_leave_101 rfl (by decide) ?_
          refine v_iadd (n := 103) dX8_leave_102 rfl ?_
          refine v_iconst (n := 104) (x := nI 0) dX8_leave_103 rfl (by decide) ?_
          obtain ⟨j10, ej10, hj10, h⟩ := h
          refine v_iast (n := 105) (j := j10) dX8_leave_104 rfl zokc_26 (by decide) (by decide) rfl ej10 hj10 (fun _ => rfl) ?_
          refine v_aload_n (n := 106) dX8_leave_105 rfl rfl ?_
          refine v_getf (n := 109) dX8_leave_106 rfl fl_X8_9 zokc_10 rfl ?_
          refine v_iload_n (n := 110) dX8_leave_109 rfl rfl ?_
          refine v_iconst (n := 111) (x := nI 5) dX8_leave_110 rfl (by decide) ?_
          refine v_iadd (n := 112) dX8_leave_111 rfl ?_
          refine v_aload_n (n := 113) dX8_leave_112 rfl rfl ?_
          refine v_getf (n := 116) dX8_leave_113 rfl fl_X8_9 zokc_10 rfl ?_
          refine v_iload_n (n := 117) dX8_leave_116 rfl rfl ?_
          refine v_callS (n := 120) (As := [.int (μ4 26 0 0 j9)]) (rest := [.ref (zad G.1 26 0 0), .int ((nI 212 + nI 10 * x1) + (nI 5)), .ref (zad G.1 26 0 0)]) dX8_leave_117 rfl lk_X8_51 rfl rfl (Nat.le_of_ble_eq_true rfl) ⟨Nat.le_of_ble_eq_true rfl, Nat.le_of_ble_eq_true rfl, Nat.le_of_ble_eq_true rfl, Nat.le_of_ble_eq_true rfl⟩ (s_X8_lift0 G (μ4 26 0 0 j9) (up μ6 26 0 0 j10 (nI 0))) (fun v μ9 hp => ?_) (fun _ _ hp => False.elim hp)
          rw [hp.1, hp.2]
          refine v_norm (st' := [.int (nI 6 + nI 21 * (μ4 26 0 0 j9)), .ref (zad G.1 26 0 0), .int ((nI 212 + nI 10 * x1) + (nI 5)), .ref (zad G.1 26 0 0)]) (cells' := 0) (slots' := 0) rfl rfl rfl ?_
          obtain ⟨j11, ej11, hj11, h⟩ := h
          refine v_iald (n := 121) (j := j11) dX8_leave_120 rfl zokc_26 (by decide) rfl ej11 hj11 (rfl) ?_
          obtain ⟨j12, ej12, hj12, h⟩ := h
          refine v_iast (n := 122) (j := j12) dX8_leave_121 rfl zokc_26 (by decide) (by decide) rfl ej12 hj12 (fun _ => rfl) ?_
          refine v_iconst (n := 123) (x := nI 0) dX8_leave_122 rfl (by decide) ?_
          exact v_iret dX8_leave_123 rfl (Nat.le_of_ble_eq_true rfl) (Nat.le_of_ble_eq_true rfl) h
        · replace h := h.2 hq
          refine v_aload_n (n := 66) dX8_leave_65 rfl rfl ?_
          refine v_getf (n := 69) dX8_leave_66 rfl fl_X8_9 zokc_10 rfl ?_
          refine v_iload_n (n := 70) dX8_leave_69 rfl rfl ?_
          refine v_iconst (n := 71) (x := nI 4) dX8_leave_70 rfl (by decide) ?_
          refine v_iadd (n := 72) dX8_leave_71 rfl ?_
          refine v_iconst (n := 73) (x := nI 4) dX8_leave_72 rfl (by decide) ?_
          obtain ⟨j13, ej13, hj13, h⟩ := h
          refine v_iast (n := 74) (j := j13) dX8_leave_73 rfl zokc_26 (by decide) (by decide) rfl ej13 hj13 (fun _ => rfl) ?_
          refine v_iconst (n := 75) (x := nI 4) dX8_leave_74 rfl (by decide) ?_
          exact v_iret dX8_leave_75 rfl (Nat.le_of_ble_eq_true rfl) (Nat.le_of_ble_eq_true rfl) h
      · replace h := h.2 hq
        refine v_iconst (n := 44) (x := nI 0) dX8_leave_43 rfl (by decide) ?_
        exact v_iret dX8_leave_44 rfl (Nat.le_of_ble_eq_true rfl) (Nat.le_of_ble_eq_true rfl) h
  · replace h := h.2 (bI_f hq)
    refine v_iconst (n := 10) (x := nI 1) dX8_leave_9 rfl (by decide) ?_
    refine v_goto (n := 33) dX8_leave_10 (by decide) ?_
    refine v_putf (n := 36) dX8_leave_33 rfl fw_X8_41 zokc_10 (fun _ => rfl) rfl rfl ?_
    refine v_aload_n (n := 37) dX8_leave_36 rfl rfl ?_
    refine v_getf (n := 40) dX8_leave_37 rfl fl_X8_41 zokc_10 (congrArg Value.int (up_self _ _ _ _ _ _)) ?_
    refine v_if_le (n := 43) (t := 45) dX8_leave_40 rfl (by decide) (fun hq => ?_) (fun hq => ?_)
    · replace h := h.1 hq
      refine v_aload_n (n := 46) dX8_leave_45 rfl rfl ?_
      refine v_callV (n := 49) (k := 10) (b := 0) (i := 0) (As := []) (rest := []) dX8_leave_46 rfl lk_X8_65 rfl rfl (Nat.le_of_ble_eq_true rfl) ⟨Nat.le_of_ble_eq_true rfl, Nat.le_of_ble_eq_true rfl, Nat.le_of_ble_eq_true rfl, Nat.le_of_ble_eq_true rfl⟩ zokc_10 h (fun v μ7 h => ?_) (fun _ _ hp => False.elim hp)
      obtain ⟨rfl, h⟩ := h
      refine v_norm (st' := []) (cells' := 0) (slots' := 0) rfl rfl rfl ?_
      refine v_iload_n (n := 50) dX8_leave_49 rfl rfl ?_
      refine v_callS (n := 53) (As := [.int x1]) (rest := []) dX8_leave_50 rfl lk_X8_71 rfl rfl (Nat.le_of_ble_eq_true rfl) ⟨Nat.le_of_ble_eq_true rfl, Nat.le_of_ble_eq_true rfl, Nat.le_of_ble_eq_true rfl, Nat.le_of_ble_eq_true rfl⟩ (s_X8_guest0 G x1 μ7) (fun v μ9 hp => ?_) (fun _ _ hp => False.elim hp)
      rw [hp.1, hp.2]
      refine v_norm (st' := [.int (nI 212 + nI 10 * x1)]) (cells' := 0) (slots' := 0) rfl rfl rfl ?_
      refine v_istore_n (n := 54) (L' := [(0, .ref (zad G.1 10 0 0)), (1, .int x1), (2, .int (nI 212 + nI 10 * x1))]) dX8_leave_53 rfl (by decide) rfl ?_
      refine v_aload_n (n := 55) dX8_leave_54 rfl rfl ?_
      refine v_getf (n := 58) dX8_leave_55 rfl fl_X8_9 zokc_10 rfl ?_
      refine v_iload_n (n := 59) dX8_leave_58 rfl rfl ?_
      refine v_iconst (n := 60) (x := nI 4) dX8_leave_59 rfl (by decide) ?_
      refine v_iadd (n := 61) dX8_leave_60 rfl ?_
      obtain ⟨j14, ej14, hj14, h⟩ := h
      refine v_iald (n := 62) (j := j14) dX8_leave_61 rfl zokc_26 (by decide) rfl ej14 hj14 (rfl) ?_
      refine v_if_ne (n := 65) (t := 76) dX8_leave_62 rfl (by decide) (fun hq => ?_) (fun hq => ?_)
      · replace h := h.1 hq
        refine v_aload_n (n := 77) dX8_leave_76 rfl rfl ?_
        refine v_getf (n := 80) dX8_leave_77 rfl fl_X8_9 zokc_10 rfl ?_
        refine v_iload_n (n := 81) dX8_leave_80 rfl rfl ?_
        refine v_iconst (n := 82) (x := nI 5) dX8_leave_81 rfl (by decide) ?_
        refine v_iadd (n := 83) dX8_leave_82 rfl ?_
        obtain ⟨j15, ej15, hj15, h⟩ := h
        refine v_iald (n := 84) (j := j15) dX8_leave_83 rfl zokc_26 (by decide) rfl ej15 hj15 (rfl) ?_
        refine v_istore_n (n := 85) (L' := [(0, .ref (zad G.1 10 0 0)), (1, .int x1), (2, .int (nI 212 + nI 10 * x1)), (3, .int (μ7 26 0 0 j15))]) dX8_leave_84 rfl (by decide) rfl ?_
        refine v_aload_n (n := 86) dX8_leave_85 rfl rfl ?_
        refine v_iload_n (n := 87) dX8_leave_86 rfl rfl ?_
        refine v_aload_n (n := 88) dX8_leave_87 rfl rfl ?_
        refine v_iload_n (n := 89) dX8_leave_88 rfl rfl ?_
        refine v_callV (n := 92) (k := 10) (b := 0) (i := 0) (As := [.int x1]) (rest := [.int (μ7 26 0 0 j15), .ref (zad G.1 10 0 0)]) dX8_leave_89 rfl lk_X8_95 rfl rfl (Nat.le_of_ble_eq_true rfl) ⟨Nat.le_of_ble_eq_true rfl, Nat.le_of_ble_eq_true rfl, Nat.le_of_ble_eq_true rfl, Nat.le_of_ble_eq_true rfl⟩ zokc_10 h (fun v μ8 h => ?_) (fun _ _ hp => False.elim hp)
        obtain ⟨r3, rfl, h⟩ := h
        refine v_norm (st' := [.int r3, .int (μ7 26 0 0 j15), .ref (zad G.1 10 0 0)]) (cells' := 0) (slots' := 0) rfl rfl rfl ?_
        refine v_iconst (n := 93) (x := nI 1) dX8_leave_92 rfl (by decide) ?_
        refine v_callV (n := 96) (k := 10) (b := 0) (i := 0) (As := [.int (μ7 26 0 0 j15), .int r3, .int (nI 1)]) (rest := []) dX8_leave_93 rfl lk_X8_120 rfl rfl (Nat.le_of_ble_eq_true rfl) ⟨Nat.le_of_ble_eq_true rfl, Nat.le_of_ble_eq_true rfl, Nat.le_of_ble_eq_true rfl, Nat.le_of_ble_eq_true rfl⟩ zokc_10 h (fun v μ9 h => ?_) (fun _ _ hp => False.elim hp)
        obtain ⟨rfl, h⟩ := h
        refine v_norm (st' := []) (cells' := 0) (slots' := 0) rfl rfl rfl ?_
        refine v_aload_n (n := 97) dX8_leave_96 rfl rfl ?_
        refine v_getf (n := 100) dX8_leave_97 rfl fl_X8_9 zokc_10 rfl ?_
        refine v_iload_n (n := 101) dX8_leave_100 rfl rfl ?_
        refine v_iconst (n := 102) (x := nI 4) dX8_leave_101 rfl (by decide) ?_
        refine v_iadd (n := 103) dX8_leave_102 rfl ?_
        refine v_iconst (n := 104) (x := nI 0) dX8_leave_103 rfl (by decide) ?_
        obtain ⟨j16, ej16, hj16, h⟩ := h
        refine v_iast (n := 105) (j := j16) dX8_leave_104 rfl zokc_26 (by decide) (by decide) rfl ej16 hj16 (fun _ => rfl) ?_
        refine v_aload_n (n := 106) dX8_leave_105 rfl rfl ?_
        refine v_getf (n := 109) dX8_leave_106 rfl fl_X8_9 zokc_10 rfl ?_
        refine v_iload_n (n := 110) dX8_leave_109 rfl rfl ?_
        refine v_iconst (n := 111) (x := nI 5) dX8_leave_110 rfl (by decide) ?_
        refine v_iadd (n := 112) dX8_leave_111 rfl ?_
        refine v_aload_n (n := 113) dX8_leave_112 rfl rfl ?_
        refine v_getf (n := 116) dX8_leave_113 rfl fl_X8_9 zokc_10 rfl ?_
        refine v_iload_n (n := 117) dX8_leave_116 rfl rfl ?_
        refine v_callS (n := 120) (As := [.int (μ7 26 0 0 j15)]) (rest := [.ref (zad G.1 26 0 0), .int ((nI 212 + nI 10 * x1) + (nI 5)), .ref (zad G.1 26 0 0)]) dX8_leave_117 rfl lk_X8_51 rfl rfl (Nat.le_of_ble_eq_true rfl) ⟨Nat.le_of_ble_eq_true rfl, Nat.le_of_ble_eq_true rfl, Nat.le_of_ble_eq_true rfl, Nat.le_of_ble_eq_true rfl⟩ (s_X8_lift0 G (μ7 26 0 0 j15) (up μ9 26 0 0 j16 (nI 0))) (fun v μ9 hp => ?_) (fun _ _ hp => False.elim hp)
        rw [hp.1, hp.2]
        refine v_norm (st' := [.int (nI 6 + nI 21 * (μ7 26 0 0 j15)), .ref (zad G.1 26 0 0), .int ((nI 212 + nI 10 * x1) + (nI 5)), .ref (zad G.1 26 0 0)]) (cells' := 0) (slots' := 0) rfl rfl rfl ?_
        obtain ⟨j17, ej17, hj17, h⟩ := h
        refine v_iald (n := 121) (j := j17) dX8_leave_120 rfl zokc_26 (by decide) rfl ej17 hj17 (rfl) ?_
        obtain ⟨j18, ej18, hj18, h⟩ := h
        refine v_iast (n := 122) (j := j18) dX8_leave_121 rfl zokc_26 (by decide) (by decide) rfl ej18 hj18 (fun _ => rfl) ?_
        refine v_iconst (n := 123) (x := nI 0) dX8_leave_122 rfl (by decide) ?_
        exact v_iret dX8_leave_123 rfl (Nat.le_of_ble_eq_true rfl) (Nat.le_of_ble_eq_true rfl) h
      · replace h := h.2 hq
        refine v_aload_n (n := 66) dX8_leave_65 rfl rfl ?_
        refine v_getf (n := 69) dX8_leave_66 rfl fl_X8_9 zokc_10 rfl ?_
        refine v_iload_n (n := 70) dX8_leave_69 rfl rfl ?_
        refine v_iconst (n := 71) (x := nI 4) dX8_leave_70 rfl (by decide) ?_
        refine v_iadd (n := 72) dX8_leave_71 rfl ?_
        refine v_iconst (n := 73) (x := nI 4) dX8_leave_72 rfl (by decide) ?_
        obtain ⟨j19, ej19, hj19, h⟩ := h
        refine v_iast (n := 74) (j := j19) dX8_leave_73 rfl zokc_26 (by decide) (by decide) rfl ej19 hj19 (fun _ => rfl) ?_
        refine v_iconst (n := 75) (x := nI 4) dX8_leave_74 rfl (by decide) ?_
        exact v_iret dX8_leave_75 rfl (Nat.le_of_ble_eq_true rfl) (Nat.le_of_ble_eq_true rfl) h
    · replace h := h.2 hq
      refine v_iconst (n := 44) (x := nI 0) dX8_leave_43 rfl (by decide) ?_
      exact v_iret dX8_leave_44 rfl (Nat.le_of_ble_eq_true rfl) (Nat.le_of_ble_eq_true rfl) h

set_option maxRecDepth 20000 in
set_option maxHeartbeats 4000000 in
theorem wX8_whyNotQueue (G : Gl) {P : Option Value → St → Prop} {X : String → St → Prop} (x1 : Int32) (x2 : Int32) (μ : St)
    (h : ((mix (up μ 10 0 0 6 (nI 0)) 5 x1 = false → P (some (.int (nI 0))) (up (up μ 10 0 0 6 (nI 0)) 10 0 0 6 (nI 1))) ∧ (mix (up μ 10 0 0 6 (nI 0)) 5 x1 = true → ((mix (up μ 10 0 0 6 (nI 0)) 3 x2 = false → P (some (.int (nI 0))) (up (up μ 10 0 0 6 (nI 0)) 10 0 0 6 (nI 1))) ∧ (mix (up μ 10 0 0 6 (nI 0)) 3 x2 = true → ∃ j1 : Nat, x1 = nI j1 ∧ j1 < 16 ∧ ∃ j2 : Nat, x2 = nI j2 ∧ j2 < 6 ∧ P (some (.int (mnl (up μ 10 0 0 6 (nI 0)) j1 j2))) (up μ 10 0 0 6 (nI 0))))))) :
    Con G mX8_whyNotQueue [.ref (zad G.1 10 0 0), .int x1, .int x2] μ P X := by
  refine con_of pn_X8 rfl (Nat.le_of_ble_eq_true rfl) ?_
  show VL G mX8_whyNotQueue P X 0 [(0, .ref (zad G.1 10 0 0)), (1, .int x1), (2, .int x2)] [] μ
  refine v_aload_n (n := 1) dX8_whyNotQueue_0 rfl rfl ?_
  refine v_iconst (n := 2) (x := nI 0) dX8_whyNotQueue_1 rfl (by decide) ?_
  refine v_putf (n := 5) dX8_whyNotQueue_2 rfl fw_X8_41 zokc_10 (fun _ => rfl) rfl rfl ?_
  refine v_aload_n (n := 6) dX8_whyNotQueue_5 rfl rfl ?_
  refine v_iload_n (n := 7) dX8_whyNotQueue_6 rfl rfl ?_
  refine v_callV (n := 10) (k := 10) (b := 0) (i := 0) (As := [.int x1]) (rest := []) dX8_whyNotQueue_7 rfl lk_X8_92 rfl rfl (Nat.le_of_ble_eq_true rfl) ⟨Nat.le_of_ble_eq_true rfl, Nat.le_of_ble_eq_true rfl, Nat.le_of_ble_eq_true rfl, Nat.le_of_ble_eq_true rfl⟩ zokc_10 (s_X8_isGuest G x1 (up μ 10 0 0 6 (nI 0))) (fun v μ9 hp => ?_) (fun _ _ hp => False.elim hp)
  rw [hp.1, hp.2]
  refine v_norm (st' := [.int (bI (mix (up μ 10 0 0 6 (nI 0)) 5 x1))]) (cells' := 0) (slots' := 0) rfl rfl rfl ?_
  refine v_if_eq (n := 13) (t := 30) dX8_whyNotQueue_10 rfl (by decide) (fun hq => ?_) (fun hq => ?_)
  · replace h := h.1 (bI_f hq)
    refine v_aload_n (n := 31) dX8_whyNotQueue_30 rfl rfl ?_
    refine v_iconst (n := 32) (x := nI 1) dX8_whyNotQueue_31 rfl (by decide) ?_
    refine v_callV (n := 35) (k := 10) (b := 0) (i := 0) (As := [.int (nI 1)]) (rest := []) dX8_whyNotQueue_32 rfl lk_X8_62 rfl rfl (Nat.le_of_ble_eq_true rfl) ⟨Nat.le_of_ble_eq_true rfl, Nat.le_of_ble_eq_true rfl, Nat.le_of_ble_eq_true rfl, Nat.le_of_ble_eq_true rfl⟩ zokc_10 (s_X8_refuse G (nI 1) (up μ 10 0 0 6 (nI 0))) (fun v μ9 hp => ?_) (fun _ _ hp => False.elim hp)
    rw [hp.1, hp.2]
    refine v_norm (st' := [.int (nI 0)]) (cells' := 0) (slots' := 0) rfl rfl rfl ?_
    exact v_iret dX8_whyNotQueue_35 rfl (Nat.le_of_ble_eq_true rfl) (Nat.le_of_ble_eq_true rfl) h
  · replace h := h.2 (bI_nf hq)
    refine v_aload_n (n := 14) dX8_whyNotQueue_13 rfl rfl ?_
    refine v_iload_n (n := 15) dX8_whyNotQueue_14 rfl rfl ?_
    refine v_callV (n := 18) (k := 10) (b := 0) (i := 0) (As := [.int x2]) (rest := []) dX8_whyNotQueue_15 rfl lk_X8_74 rfl rfl (Nat.le_of_ble_eq_true rfl) ⟨Nat.le_of_ble_eq_true rfl, Nat.le_of_ble_eq_true rfl, Nat.le_of_ble_eq_true rfl, Nat.le_of_ble_eq_true rfl⟩ zokc_10 (s_X8_isLift G x2 (up μ 10 0 0 6 (nI 0))) (fun v μ9 hp => ?_) (fun _ _ hp => False.elim hp)
    rw [hp.1, hp.2]
    refine v_norm (st' := [.int (bI (mix (up μ 10 0 0 6 (nI 0)) 3 x2))]) (cells' := 0) (slots' := 0) rfl rfl rfl ?_
    refine v_if_eq (n := 21) (t := 30) dX8_whyNotQueue_18 rfl (by decide) (fun hq => ?_) (fun hq => ?_)
    · replace h := h.1 (bI_f hq)
      refine v_aload_n (n := 31) dX8_whyNotQueue_30 rfl rfl ?_
      refine v_iconst (n := 32) (x := nI 1) dX8_whyNotQueue_31 rfl (by decide) ?_
      refine v_callV (n := 35) (k := 10) (b := 0) (i := 0) (As := [.int (nI 1)]) (rest := []) dX8_whyNotQueue_32 rfl lk_X8_62 rfl rfl (Nat.le_of_ble_eq_true rfl) ⟨Nat.le_of_ble_eq_true rfl, Nat.le_of_ble_eq_true rfl, Nat.le_of_ble_eq_true rfl, Nat.le_of_ble_eq_true rfl⟩ zokc_10 (s_X8_refuse G (nI 1) (up μ 10 0 0 6 (nI 0))) (fun v μ9 hp => ?_) (fun _ _ hp => False.elim hp)
      rw [hp.1, hp.2]
      refine v_norm (st' := [.int (nI 0)]) (cells' := 0) (slots' := 0) rfl rfl rfl ?_
      exact v_iret dX8_whyNotQueue_35 rfl (Nat.le_of_ble_eq_true rfl) (Nat.le_of_ble_eq_true rfl) h
    · replace h := h.2 (bI_nf hq)
      refine v_aload_n (n := 22) dX8_whyNotQueue_21 rfl rfl ?_
      refine v_iload_n (n := 23) dX8_whyNotQueue_22 rfl rfl ?_
      refine v_iload_n (n := 24) dX8_whyNotQueue_23 rfl rfl ?_
      obtain ⟨j1, ej1, hj1, h⟩ := h
      obtain ⟨j2, ej2, hj2, h⟩ := h
      refine v_callV (n := 27) (k := 10) (b := 0) (i := 0) (As := [.int x1, .int x2]) (rest := []) dX8_whyNotQueue_24 rfl lk_X8_105 rfl rfl (Nat.le_of_ble_eq_true rfl) ⟨Nat.le_of_ble_eq_true rfl, Nat.le_of_ble_eq_true rfl, Nat.le_of_ble_eq_true rfl, Nat.le_of_ble_eq_true rfl⟩ zokc_10 (s_X8_whyNoLift G x1 j1 ej1 hj1 x2 j2 ej2 hj2 (up μ 10 0 0 6 (nI 0))) (fun v μ9 hp => ?_) (fun _ _ hp => False.elim hp)
      rw [hp.1, hp.2]
      refine v_norm (st' := [.int (mnl (up μ 10 0 0 6 (nI 0)) j1 j2)]) (cells' := 0) (slots' := 0) rfl rfl rfl ?_
      refine v_goto (n := 35) dX8_whyNotQueue_27 (by decide) ?_
      exact v_iret dX8_whyNotQueue_35 rfl (Nat.le_of_ble_eq_true rfl) (Nat.le_of_ble_eq_true rfl) h

set_option maxRecDepth 20000 in
set_option maxHeartbeats 4000000 in
theorem wX8_whyNotSki (G : Gl) {P : Option Value → St → Prop} {X : String → St → Prop} (x1 : Int32) (x2 : Int32) (μ : St)
    (h : ((mix (up μ 10 0 0 6 (nI 0)) 5 x1 = false → P (some (.int (nI 0))) (up (up μ 10 0 0 6 (nI 0)) 10 0 0 6 (nI 1))) ∧ (mix (up μ 10 0 0 6 (nI 0)) 5 x1 = true → ((mix (up μ 10 0 0 6 (nI 0)) 4 x2 = false → P (some (.int (nI 0))) (up (up μ 10 0 0 6 (nI 0)) 10 0 0 6 (nI 1))) ∧ (mix (up μ 10 0 0 6 (nI 0)) 4 x2 = true → ∃ j1 : Nat, x1 = nI j1 ∧ j1 < 16 ∧ ∃ j2 : Nat, x2 = nI j2 ∧ j2 < 10 ∧ P (some (.int (mnp (up μ 10 0 0 6 (nI 0)) j1 j2))) (up μ 10 0 0 6 (nI 0))))))) :
    Con G mX8_whyNotSki [.ref (zad G.1 10 0 0), .int x1, .int x2] μ P X := by
  refine con_of pn_X8 rfl (Nat.le_of_ble_eq_true rfl) ?_
  show VL G mX8_whyNotSki P X 0 [(0, .ref (zad G.1 10 0 0)), (1, .int x1), (2, .int x2)] [] μ
  refine v_aload_n (n := 1) dX8_whyNotSki_0 rfl rfl ?_
  refine v_iconst (n := 2) (x := nI 0) dX8_whyNotSki_1 rfl (by decide) ?_
  refine v_putf (n := 5) dX8_whyNotSki_2 rfl fw_X8_41 zokc_10 (fun _ => rfl) rfl rfl ?_
  refine v_aload_n (n := 6) dX8_whyNotSki_5 rfl rfl ?_
  refine v_iload_n (n := 7) dX8_whyNotSki_6 rfl rfl ?_
  refine v_callV (n := 10) (k := 10) (b := 0) (i := 0) (As := [.int x1]) (rest := []) dX8_whyNotSki_7 rfl lk_X8_92 rfl rfl (Nat.le_of_ble_eq_true rfl) ⟨Nat.le_of_ble_eq_true rfl, Nat.le_of_ble_eq_true rfl, Nat.le_of_ble_eq_true rfl, Nat.le_of_ble_eq_true rfl⟩ zokc_10 (s_X8_isGuest G x1 (up μ 10 0 0 6 (nI 0))) (fun v μ9 hp => ?_) (fun _ _ hp => False.elim hp)
  rw [hp.1, hp.2]
  refine v_norm (st' := [.int (bI (mix (up μ 10 0 0 6 (nI 0)) 5 x1))]) (cells' := 0) (slots' := 0) rfl rfl rfl ?_
  refine v_if_eq (n := 13) (t := 30) dX8_whyNotSki_10 rfl (by decide) (fun hq => ?_) (fun hq => ?_)
  · replace h := h.1 (bI_f hq)
    refine v_aload_n (n := 31) dX8_whyNotSki_30 rfl rfl ?_
    refine v_iconst (n := 32) (x := nI 1) dX8_whyNotSki_31 rfl (by decide) ?_
    refine v_callV (n := 35) (k := 10) (b := 0) (i := 0) (As := [.int (nI 1)]) (rest := []) dX8_whyNotSki_32 rfl lk_X8_62 rfl rfl (Nat.le_of_ble_eq_true rfl) ⟨Nat.le_of_ble_eq_true rfl, Nat.le_of_ble_eq_true rfl, Nat.le_of_ble_eq_true rfl, Nat.le_of_ble_eq_true rfl⟩ zokc_10 (s_X8_refuse G (nI 1) (up μ 10 0 0 6 (nI 0))) (fun v μ9 hp => ?_) (fun _ _ hp => False.elim hp)
    rw [hp.1, hp.2]
    refine v_norm (st' := [.int (nI 0)]) (cells' := 0) (slots' := 0) rfl rfl rfl ?_
    exact v_iret dX8_whyNotSki_35 rfl (Nat.le_of_ble_eq_true rfl) (Nat.le_of_ble_eq_true rfl) h
  · replace h := h.2 (bI_nf hq)
    refine v_aload_n (n := 14) dX8_whyNotSki_13 rfl rfl ?_
    refine v_iload_n (n := 15) dX8_whyNotSki_14 rfl rfl ?_
    refine v_callV (n := 18) (k := 10) (b := 0) (i := 0) (As := [.int x2]) (rest := []) dX8_whyNotSki_15 rfl lk_X8_81 rfl rfl (Nat.le_of_ble_eq_true rfl) ⟨Nat.le_of_ble_eq_true rfl, Nat.le_of_ble_eq_true rfl, Nat.le_of_ble_eq_true rfl, Nat.le_of_ble_eq_true rfl⟩ zokc_10 (s_X8_isPiste G x2 (up μ 10 0 0 6 (nI 0))) (fun v μ9 hp => ?_) (fun _ _ hp => False.elim hp)
    rw [hp.1, hp.2]
    refine v_norm (st' := [.int (bI (mix (up μ 10 0 0 6 (nI 0)) 4 x2))]) (cells' := 0) (slots' := 0) rfl rfl rfl ?_
    refine v_if_eq (n := 21) (t := 30) dX8_whyNotSki_18 rfl (by decide) (fun hq => ?_) (fun hq => ?_)
    · replace h := h.1 (bI_f hq)
      refine v_aload_n (n := 31) dX8_whyNotSki_30 rfl rfl ?_
      refine v_iconst (n := 32) (x := nI 1) dX8_whyNotSki_31 rfl (by decide) ?_
      refine v_callV (n := 35) (k := 10) (b := 0) (i := 0) (As := [.int (nI 1)]) (rest := []) dX8_whyNotSki_32 rfl lk_X8_62 rfl rfl (Nat.le_of_ble_eq_true rfl) ⟨Nat.le_of_ble_eq_true rfl, Nat.le_of_ble_eq_true rfl, Nat.le_of_ble_eq_true rfl, Nat.le_of_ble_eq_true rfl⟩ zokc_10 (s_X8_refuse G (nI 1) (up μ 10 0 0 6 (nI 0))) (fun v μ9 hp => ?_) (fun _ _ hp => False.elim hp)
      rw [hp.1, hp.2]
      refine v_norm (st' := [.int (nI 0)]) (cells' := 0) (slots' := 0) rfl rfl rfl ?_
      exact v_iret dX8_whyNotSki_35 rfl (Nat.le_of_ble_eq_true rfl) (Nat.le_of_ble_eq_true rfl) h
    · replace h := h.2 (bI_nf hq)
      refine v_aload_n (n := 22) dX8_whyNotSki_21 rfl rfl ?_
      refine v_iload_n (n := 23) dX8_whyNotSki_22 rfl rfl ?_
      refine v_iload_n (n := 24) dX8_whyNotSki_23 rfl rfl ?_
      obtain ⟨j1, ej1, hj1, h⟩ := h
      obtain ⟨j2, ej2, hj2, h⟩ := h
      refine v_callV (n := 27) (k := 10) (b := 0) (i := 0) (As := [.int x1, .int x2]) (rest := []) dX8_whyNotSki_24 rfl lk_X8_114 rfl rfl (Nat.le_of_ble_eq_true rfl) ⟨Nat.le_of_ble_eq_true rfl, Nat.le_of_ble_eq_true rfl, Nat.le_of_ble_eq_true rfl, Nat.le_of_ble_eq_true rfl⟩ zokc_10 (s_X8_whyNoPiste G x1 j1 ej1 hj1 x2 j2 ej2 hj2 (up μ 10 0 0 6 (nI 0))) (fun v μ9 hp => ?_) (fun _ _ hp => False.elim hp)
      rw [hp.1, hp.2]
      refine v_norm (st' := [.int (mnp (up μ 10 0 0 6 (nI 0)) j1 j2)]) (cells' := 0) (slots' := 0) rfl rfl rfl ?_
      refine v_goto (n := 35) dX8_whyNotSki_27 (by decide) ?_
      exact v_iret dX8_whyNotSki_35 rfl (Nat.le_of_ble_eq_true rfl) (Nat.le_of_ble_eq_true rfl) h

set_option maxRecDepth 20000 in
set_option maxHeartbeats 4000000 in
theorem wX8_reason (G : Gl) {P : Option Value → St → Prop} {X : String → St → Prop}  (μ : St)
    (h : ((¬ μ 10 0 0 5 = 0 → P (some (.int (μ 10 0 0 5))) (up μ 10 0 0 6 (nI 0))) ∧ (μ 10 0 0 5 = 0 → P (some (.int (μ 10 0 0 5))) (up μ 10 0 0 6 (nI 1))))) :
    Con G mX8_reason [.ref (zad G.1 10 0 0)] μ P X := by
  refine con_of pn_X8 rfl (Nat.le_of_ble_eq_true rfl) ?_
  show VL G mX8_reason P X 0 [(0, .ref (zad G.1 10 0 0))] [] μ
  refine v_aload_n (n := 1) dX8_reason_0 rfl rfl ?_
  refine v_aload_n (n := 2) dX8_reason_1 rfl rfl ?_
  refine v_getf (n := 5) dX8_reason_2 rfl fl_X8_37 zokc_10 (rfl) ?_
  refine v_if_ne (n := 8) (t := 12) dX8_reason_5 rfl (by decide) (fun hq => ?_) (fun hq => ?_)
  · replace h := h.1 hq
    refine v_iconst (n := 13) (x := nI 0) dX8_reason_12 rfl (by decide) ?_
    refine v_putf (n := 16) dX8_reason_13 rfl fw_X8_41 zokc_10 (fun _ => rfl) rfl rfl ?_
    refine v_aload_n (n := 17) dX8_reason_16 rfl rfl ?_
    refine v_getf (n := 20) dX8_reason_17 rfl fl_X8_37 zokc_10 (congrArg Value.int (up_sl (by decide))) ?_
    exact v_iret dX8_reason_20 rfl (Nat.le_of_ble_eq_true rfl) (Nat.le_of_ble_eq_true rfl) h
  · replace h := h.2 hq
    refine v_iconst (n := 9) (x := nI 1) dX8_reason_8 rfl (by decide) ?_
    refine v_goto (n := 13) dX8_reason_9 (by decide) ?_
    refine v_putf (n := 16) dX8_reason_13 rfl fw_X8_41 zokc_10 (fun _ => rfl) rfl rfl ?_
    refine v_aload_n (n := 17) dX8_reason_16 rfl rfl ?_
    refine v_getf (n := 20) dX8_reason_17 rfl fl_X8_37 zokc_10 (congrArg Value.int (up_sl (by decide))) ?_
    exact v_iret dX8_reason_20 rfl (Nat.le_of_ble_eq_true rfl) (Nat.le_of_ble_eq_true rfl) h

set_option maxRecDepth 20000 in
set_option maxHeartbeats 4000000 in
theorem wX8_opened (G : Gl) {P : Option Value → St → Prop} {X : String → St → Prop} (x1 : Int32) (μ : St)
    (h : ((mix (up μ 10 0 0 6 (nI 0)) 5 x1 = true → VL G mX8_opened P X 23 [(0, .ref (zad G.1 10 0 0)), (1, .int x1), (2, .int (nI 0)), (3, .int (nI 0))] [] (up μ 10 0 0 6 (nI 0))) ∧ (mix (up μ 10 0 0 6 (nI 0)) 5 x1 = false → P (some (.int (nI 0))) (up (up μ 10 0 0 6 (nI 0)) 10 0 0 6 (nI 1))))) :
    Con G mX8_opened [.ref (zad G.1 10 0 0), .int x1] μ P X := by
  refine con_of pn_X8 rfl (Nat.le_of_ble_eq_true rfl) ?_
  show VL G mX8_opened P X 0 [(0, .ref (zad G.1 10 0 0)), (1, .int x1)] [] μ
  refine v_aload_n (n := 1) dX8_opened_0 rfl rfl ?_
  refine v_iconst (n := 2) (x := nI 0) dX8_opened_1 rfl (by decide) ?_
  refine v_putf (n := 5) dX8_opened_2 rfl fw_X8_41 zokc_10 (fun _ => rfl) rfl rfl ?_
  refine v_aload_n (n := 6) dX8_opened_5 rfl rfl ?_
  refine v_iload_n (n := 7) dX8_opened_6 rfl rfl ?_
  refine v_callV (n := 10) (k := 10) (b := 0) (i := 0) (As := [.int x1]) (rest := []) dX8_opened_7 rfl lk_X8_92 rfl rfl (Nat.le_of_ble_eq_true rfl) ⟨Nat.le_of_ble_eq_true rfl, Nat.le_of_ble_eq_true rfl, Nat.le_of_ble_eq_true rfl, Nat.le_of_ble_eq_true rfl⟩ zokc_10 (s_X8_isGuest G x1 (up μ 10 0 0 6 (nI 0))) (fun v μ9 hp => ?_) (fun _ _ hp => False.elim hp)
  rw [hp.1, hp.2]
  refine v_norm (st' := [.int (bI (mix (up μ 10 0 0 6 (nI 0)) 5 x1))]) (cells' := 0) (slots' := 0) rfl rfl rfl ?_
  refine v_if_ne (n := 13) (t := 19) dX8_opened_10 rfl (by decide) (fun hq => ?_) (fun hq => ?_)
  · replace h := h.1 (bI_nf hq)
    refine v_iconst (n := 20) (x := nI 0) dX8_opened_19 rfl (by decide) ?_
    refine v_istore_n (n := 21) (L' := [(0, .ref (zad G.1 10 0 0)), (1, .int x1), (2, .int (nI 0))]) dX8_opened_20 rfl (by decide) rfl ?_
    refine v_iconst (n := 22) (x := nI 0) dX8_opened_21 rfl (by decide) ?_
    refine v_istore_n (n := 23) (L' := [(0, .ref (zad G.1 10 0 0)), (1, .int x1), (2, .int (nI 0)), (3, .int (nI 0))]) dX8_opened_22 rfl (by decide) rfl ?_
    exact h
  · replace h := h.2 (bI_f hq)
    refine v_aload_n (n := 14) dX8_opened_13 rfl rfl ?_
    refine v_iconst (n := 15) (x := nI 1) dX8_opened_14 rfl (by decide) ?_
    refine v_callV (n := 18) (k := 10) (b := 0) (i := 0) (As := [.int (nI 1)]) (rest := []) dX8_opened_15 rfl lk_X8_62 rfl rfl (Nat.le_of_ble_eq_true rfl) ⟨Nat.le_of_ble_eq_true rfl, Nat.le_of_ble_eq_true rfl, Nat.le_of_ble_eq_true rfl, Nat.le_of_ble_eq_true rfl⟩ zokc_10 (s_X8_refuse G (nI 1) (up μ 10 0 0 6 (nI 0))) (fun v μ9 hp => ?_) (fun _ _ hp => False.elim hp)
    rw [hp.1, hp.2]
    refine v_norm (st' := [.int (nI 0)]) (cells' := 0) (slots' := 0) rfl rfl rfl ?_
    exact v_iret dX8_opened_18 rfl (Nat.le_of_ble_eq_true rfl) (Nat.le_of_ble_eq_true rfl) h

set_option maxRecDepth 20000 in
set_option maxHeartbeats 4000000 in
theorem wX8_opened_23 (G : Gl) {P : Option Value → St → Prop} {X : String → St → Prop} (x1 : Int32) (y2 : Int32) (i3 : Nat) (μ : St)
    (h : ((μ 26 0 0 3 ≤ nI i3 → P (some (.int y2)) μ) ∧ (¬ μ 26 0 0 3 ≤ nI i3 → ∃ j1 : Nat, x1 = nI j1 ∧ j1 < 16 ∧ i3 < 6 ∧ ((mop μ j1 i3 = false → VL G mX8_opened P X 23 [(0, .ref (zad G.1 10 0 0)), (1, .int x1), (2, .int (y2 ||| (nI 0))), (3, .int (nI (i3 + 1)))] [] μ) ∧ (mop μ j1 i3 = true → VL G mX8_opened P X 23 [(0, .ref (zad G.1 10 0 0)), (1, .int x1), (2, .int (y2 ||| ((nI 1) <<< ((nI i3) &&& 31)))), (3, .int (nI (i3 + 1)))] [] μ))))) :
    VL G mX8_opened P X 23 [(0, .ref (zad G.1 10 0 0)), (1, .int x1), (2, .int y2), (3, .int (nI i3))] [] μ := by
  refine v_iload_n (n := 24) dX8_opened_23 rfl rfl ?_
  refine v_aload_n (n := 25) dX8_opened_24 rfl rfl ?_
  refine v_getf (n := 28) dX8_opened_25 rfl fl_X8_9 zokc_10 rfl ?_
  refine v_iconst (n := 29) (x := nI 3) dX8_opened_28 rfl (by decide) ?_
  refine v_iald (n := 30) (j := 3) dX8_opened_29 rfl zokc_26 (by decide) rfl rfl (by decide) (rfl) ?_
  refine v_icmp_ge (n := 33) (t := 58) dX8_opened_30 rfl (by decide) (fun hq => ?_) (fun hq => ?_)
  · replace h := h.1 hq
    refine v_iload_n (n := 59) dX8_opened_58 rfl rfl ?_
    exact v_iret dX8_opened_59 rfl (Nat.le_of_ble_eq_true rfl) (Nat.le_of_ble_eq_true rfl) h
  · replace h := h.2 hq
    refine v_iload_n (n := 34) dX8_opened_33 rfl rfl ?_
    refine v_aload_n (n := 35) dX8_opened_34 rfl rfl ?_
    refine v_iload_n (n := 36) dX8_opened_35 rfl rfl ?_
    refine v_iload_n (n := 37) dX8_opened_36 rfl rfl ?_
    obtain ⟨j1, ej1, hj1, h⟩ := h
    obtain ⟨hf1, h⟩ := h
    refine v_callV (n := 40) (k := 10) (b := 0) (i := 0) (As := [.int x1, .int (nI i3)]) (rest := [.int y2]) dX8_opened_37 rfl lk_X8_98 rfl rfl (Nat.le_of_ble_eq_true rfl) ⟨Nat.le_of_ble_eq_true rfl, Nat.le_of_ble_eq_true rfl, Nat.le_of_ble_eq_true rfl, Nat.le_of_ble_eq_true rfl⟩ zokc_10 (s_X8_isOpenTo G x1 j1 ej1 hj1 (nI i3) i3 rfl hf1 μ) (fun v μ9 hp => ?_) (fun _ _ hp => False.elim hp)
    rw [hp.1, hp.2]
    refine v_norm (st' := [.int (bI (mop μ j1 i3)), .int y2]) (cells' := 0) (slots' := 0) rfl rfl rfl ?_
    refine v_if_eq (n := 43) (t := 49) dX8_opened_40 rfl (by decide) (fun hq => ?_) (fun hq => ?_)
    · replace h := h.1 (bI_f hq)
      refine v_iconst (n := 50) (x := nI 0) dX8_opened_49 rfl (by decide) ?_
      refine v_ior (n := 51) dX8_opened_50 rfl ?_
      refine v_istore_n (n := 52) (L' := [(0, .ref (zad G.1 10 0 0)), (1, .int x1), (2, .int (y2 ||| (nI 0))), (3, .int (nI i3))]) dX8_opened_51 rfl (by decide) rfl ?_
      refine v_iinc (n := 55) (x := nI i3) (y := nI (i3 + 1)) (L' := [(0, .ref (zad G.1 10 0 0)), (1, .int x1), (2, .int (y2 ||| (nI 0))), (3, .int (nI (i3 + 1)))]) dX8_opened_52 rfl rfl (nI_1 i3) (by decide) rfl ?_
      refine v_goto (n := 23) dX8_opened_55 (by decide) ?_
      exact h
    · replace h := h.2 (bI_nf hq)
      refine v_iconst (n := 44) (x := nI 1) dX8_opened_43 rfl (by decide) ?_
      refine v_iload_n (n := 45) dX8_opened_44 rfl rfl ?_
      refine v_ishl (n := 46) dX8_opened_45 rfl ?_
      refine v_goto (n := 50) dX8_opened_46 (by decide) ?_
      refine v_ior (n := 51) dX8_opened_50 rfl ?_
      refine v_istore_n (n := 52) (L' := [(0, .ref (zad G.1 10 0 0)), (1, .int x1), (2, .int (y2 ||| ((nI 1) <<< ((nI i3) &&& 31)))), (3, .int (nI i3))]) dX8_opened_51 rfl (by decide) rfl ?_
      refine v_iinc (n := 55) (x := nI i3) (y := nI (i3 + 1)) (L' := [(0, .ref (zad G.1 10 0 0)), (1, .int x1), (2, .int (y2 ||| ((nI 1) <<< ((nI i3) &&& 31)))), (3, .int (nI (i3 + 1)))]) dX8_opened_52 rfl rfl (nI_1 i3) (by decide) rfl ?_
      refine v_goto (n := 23) dX8_opened_55 (by decide) ?_
      exact h

set_option maxRecDepth 20000 in
set_option maxHeartbeats 4000000 in
theorem wX8_queued (G : Gl) {P : Option Value → St → Prop} {X : String → St → Prop} (x1 : Int32) (x2 : Int32) (μ : St)
    (h : ((mix μ 3 x1 = true → ∃ j1 : Nat, (nI 6 + nI 21 * x1) + (nI 10) = nI j1 ∧ j1 < 372 ∧ ((btw x2 (nI 0) ((μ 26 0 0 j1) - (nI 1)) = true → ((nI 0 ≤ 0 → ∃ j2 : Nat, ((nI 6 + nI 21 * x1) + (nI 11)) + x2 = nI j2 ∧ j2 < 372 ∧ P (some (.int (μ 26 0 0 j2))) (up μ 10 0 0 6 (nI 0))) ∧ (¬ nI 0 ≤ 0 → P (some (.int (nI 0))) (up μ 10 0 0 6 (nI 0))))) ∧ (btw x2 (nI 0) ((μ 26 0 0 j1) - (nI 1)) = false → ((nI 2 ≤ 0 → ∃ j3 : Nat, ((nI 6 + nI 21 * x1) + (nI 11)) + x2 = nI j3 ∧ j3 < 372 ∧ P (some (.int (μ 26 0 0 j3))) (up μ 10 0 0 6 (nI 2))) ∧ (¬ nI 2 ≤ 0 → P (some (.int (nI 0))) (up μ 10 0 0 6 (nI 2))))))) ∧ (mix μ 3 x1 = false → ((nI 1 ≤ 0 → ∃ j4 : Nat, ((nI 6 + nI 21 * x1) + (nI 11)) + x2 = nI j4 ∧ j4 < 372 ∧ P (some (.int (μ 26 0 0 j4))) (up μ 10 0 0 6 (nI 1))) ∧ (¬ nI 1 ≤ 0 → P (some (.int (nI 0))) (up μ 10 0 0 6 (nI 1))))))) :
    Con G mX8_queued [.ref (zad G.1 10 0 0), .int x1, .int x2] μ P X := by
  refine con_of pn_X8 rfl (Nat.le_of_ble_eq_true rfl) ?_
  show VL G mX8_queued P X 0 [(0, .ref (zad G.1 10 0 0)), (1, .int x1), (2, .int x2)] [] μ
  refine v_aload_n (n := 1) dX8_queued_0 rfl rfl ?_
  refine v_aload_n (n := 2) dX8_queued_1 rfl rfl ?_
  refine v_iload_n (n := 3) dX8_queued_2 rfl rfl ?_
  refine v_callV (n := 6) (k := 10) (b := 0) (i := 0) (As := [.int x1]) (rest := [.ref (zad G.1 10 0 0)]) dX8_queued_3 rfl lk_X8_74 rfl rfl (Nat.le_of_ble_eq_true rfl) ⟨Nat.le_of_ble_eq_true rfl, Nat.le_of_ble_eq_true rfl, Nat.le_of_ble_eq_true rfl, Nat.le_of_ble_eq_true rfl⟩ zokc_10 (s_X8_isLift G x1 μ) (fun v μ9 hp => ?_) (fun _ _ hp => False.elim hp)
  rw [hp.1, hp.2]
  refine v_norm (st' := [.int (bI (mix μ 3 x1)), .ref (zad G.1 10 0 0)]) (cells' := 0) (slots' := 0) rfl rfl rfl ?_
  refine v_if_ne (n := 9) (t := 13) dX8_queued_6 rfl (by decide) (fun hq => ?_) (fun hq => ?_)
  · replace h := h.1 (bI_nf hq)
    refine v_iload_n (n := 14) dX8_queued_13 rfl rfl ?_
    refine v_iconst (n := 15) (x := nI 0) dX8_queued_14 rfl (by decide) ?_
    refine v_aload_n (n := 16) dX8_queued_15 rfl rfl ?_
    refine v_getf (n := 19) dX8_queued_16 rfl fl_X8_9 zokc_10 rfl ?_
    refine v_iload_n (n := 20) dX8_queued_19 rfl rfl ?_
    refine v_callS (n := 23) (As := [.int x1]) (rest := [.ref (zad G.1 26 0 0), .int (nI 0), .int x2, .ref (zad G.1 10 0 0)]) dX8_queued_20 rfl lk_X8_51 rfl rfl (Nat.le_of_ble_eq_true rfl) ⟨Nat.le_of_ble_eq_true rfl, Nat.le_of_ble_eq_true rfl, Nat.le_of_ble_eq_true rfl, Nat.le_of_ble_eq_true rfl⟩ (s_X8_lift0 G x1 μ) (fun v μ9 hp => ?_) (fun _ _ hp => False.elim hp)
    rw [hp.1, hp.2]
    refine v_norm (st' := [.int (nI 6 + nI 21 * x1), .ref (zad G.1 26 0 0), .int (nI 0), .int x2, .ref (zad G.1 10 0 0)]) (cells' := 0) (slots' := 0) rfl rfl rfl ?_
    refine v_bipush (n := 25) (x := nI 10) dX8_queued_23 rfl (by decide) ?_
    refine v_iadd (n := 26) dX8_queued_25 rfl ?_
    obtain ⟨j1, ej1, hj1, h⟩ := h
    refine v_iald (n := 27) (j := j1) dX8_queued_26 rfl zokc_26 (by decide) rfl ej1 hj1 (rfl) ?_
    refine v_iconst (n := 28) (x := nI 1) dX8_queued_27 rfl (by decide) ?_
    refine v_isub (n := 29) dX8_queued_28 rfl ?_
    refine v_callS (n := 32) (As := [.int x2, .int (nI 0), .int ((μ 26 0 0 j1) - (nI 1))]) (rest := [.ref (zad G.1 10 0 0)]) dX8_queued_29 rfl lk_X8_47 rfl rfl (Nat.le_of_ble_eq_true rfl) ⟨Nat.le_of_ble_eq_true rfl, Nat.le_of_ble_eq_true rfl, Nat.le_of_ble_eq_true rfl, Nat.le_of_ble_eq_true rfl⟩ (s_X8_in G x2 (nI 0) ((μ 26 0 0 j1) - (nI 1)) μ) (fun v μ9 hp => ?_) (fun _ _ hp => False.elim hp)
    rw [hp.1, hp.2]
    refine v_norm (st' := [.int (bI (btw x2 (nI 0) ((μ 26 0 0 j1) - (nI 1)))), .ref (zad G.1 10 0 0)]) (cells' := 0) (slots' := 0) rfl rfl rfl ?_
    refine v_if_ne (n := 35) (t := 39) dX8_queued_32 rfl (by decide) (fun hq => ?_) (fun hq => ?_)
    · replace h := h.1 (bI_nf hq)
      refine v_iconst (n := 40) (x := nI 0) dX8_queued_39 rfl (by decide) ?_
      refine v_putf (n := 43) dX8_queued_40 rfl fw_X8_41 zokc_10 (fun _ => rfl) rfl rfl ?_
      refine v_aload_n (n := 44) dX8_queued_43 rfl rfl ?_
      refine v_getf (n := 47) dX8_queued_44 rfl fl_X8_41 zokc_10 (congrArg Value.int (up_self _ _ _ _ _ _)) ?_
      refine v_if_le (n := 50) (t := 54) dX8_queued_47 rfl (by decide) (fun hq => ?_) (fun hq => ?_)
      · replace h := h.1 hq
        refine v_aload_n (n := 55) dX8_queued_54 rfl rfl ?_
        refine v_getf (n := 58) dX8_queued_55 rfl fl_X8_9 zokc_10 rfl ?_
        refine v_iload_n (n := 59) dX8_queued_58 rfl rfl ?_
        refine v_callS (n := 62) (As := [.int x1]) (rest := [.ref (zad G.1 26 0 0)]) dX8_queued_59 rfl lk_X8_51 rfl rfl (Nat.le_of_ble_eq_true rfl) ⟨Nat.le_of_ble_eq_true rfl, Nat.le_of_ble_eq_true rfl, Nat.le_of_ble_eq_true rfl, Nat.le_of_ble_eq_true rfl⟩ (s_X8_lift0 G x1 (up μ 10 0 0 6 (nI 0))) (fun v μ9 hp => ?_) (fun _ _ hp => False.elim hp)
        rw [hp.1, hp.2]
        refine v_norm (st' := [.int (nI 6 + nI 21 * x1), .ref (zad G.1 26 0 0)]) (cells' := 0) (slots' := 0) rfl rfl rfl ?_
        refine v_bipush (n := 64) (x := nI 11) dX8_queued_62 rfl (by decide) ?_
        refine v_iadd (n := 65) dX8_queued_64 rfl ?_
        refine v_iload_n (n := 66) dX8_queued_65 rfl rfl ?_
        refine v_iadd (n := 67) dX8_queued_66 rfl ?_
        obtain ⟨j2, ej2, hj2, h⟩ := h
        refine v_iald (n := 68) (j := j2) dX8_queued_67 rfl zokc_26 (by decide) rfl ej2 hj2 (congrArg Value.int (up_k (by decide))) ?_
        exact v_iret dX8_queued_68 rfl (Nat.le_of_ble_eq_true rfl) (Nat.le_of_ble_eq_true rfl) h
      · replace h := h.2 hq
        refine v_iconst (n := 51) (x := nI 0) dX8_queued_50 rfl (by decide) ?_
        refine v_goto (n := 68) dX8_queued_51 (by decide) ?_
        exact v_iret dX8_queued_68 rfl (Nat.le_of_ble_eq_true rfl) (Nat.le_of_ble_eq_true rfl) h
    · replace h := h.2 (bI_f hq)
      refine v_iconst (n := 36) (x := nI 2) dX8_queued_35 rfl (by decide) ?_
      refine v_goto (n := 40) dX8_queued_36 (by decide) ?_
      refine v_putf (n := 43) dX8_queued_40 rfl fw_X8_41 zokc_10 (fun _ => rfl) rfl rfl ?_
      refine v_aload_n (n := 44) dX8_queued_43 rfl rfl ?_
      refine v_getf (n := 47) dX8_queued_44 rfl fl_X8_41 zokc_10 (congrArg Value.int (up_self _ _ _ _ _ _)) ?_
      refine v_if_le (n := 50) (t := 54) dX8_queued_47 rfl (by decide) (fun hq => ?_) (fun hq => ?_)
      · replace h := h.1 hq
        refine v_aload_n (n := 55) dX8_queued_54 rfl rfl ?_
        refine v_getf (n := 58) dX8_queued_55 rfl fl_X8_9 zokc_10 rfl ?_
        refine v_iload_n (n := 59) dX8_queued_58 rfl rfl ?_
        refine v_callS (n := 62) (As := [.int x1]) (rest := [.ref (zad G.1 26 0 0)]) dX8_queued_59 rfl lk_X8_51 rfl rfl (Nat.le_of_ble_eq_true rfl) ⟨Nat.le_of_ble_eq_true rfl, Nat.le_of_ble_eq_true rfl, Nat.le_of_ble_eq_true rfl, Nat.le_of_ble_eq_true rfl⟩ (s_X8_lift0 G x1 (up μ 10 0 0 6 (nI 2))) (fun v μ9 hp => ?_) (fun _ _ hp => False.elim hp)
        rw [hp.1, hp.2]
        refine v_norm (st' := [.int (nI 6 + nI 21 * x1), .ref (zad G.1 26 0 0)]) (cells' := 0) (slots' := 0) rfl rfl rfl ?_
        refine v_bipush (n := 64) (x := nI 11) dX8_queued_62 rfl (by decide) ?_
        refine v_iadd (n := 65) dX8_queued_64 rfl ?_
        refine v_iload_n (n := 66) dX8_queued_65 rfl rfl ?_
        refine v_iadd (n := 67) dX8_queued_66 rfl ?_
        obtain ⟨j3, ej3, hj3, h⟩ := h
        refine v_iald (n := 68) (j := j3) dX8_queued_67 rfl zokc_26 (by decide) rfl ej3 hj3 (congrArg Value.int (up_k (by decide))) ?_
        exact v_iret dX8_queued_68 rfl (Nat.le_of_ble_eq_true rfl) (Nat.le_of_ble_eq_true rfl) h
      · replace h := h.2 hq
        refine v_iconst (n := 51) (x := nI 0) dX8_queued_50 rfl (by decide) ?_
        refine v_goto (n := 68) dX8_queued_51 (by decide) ?_
        exact v_iret dX8_queued_68 rfl (Nat.le_of_ble_eq_true rfl) (Nat.le_of_ble_eq_true rfl) h
  · replace h := h.2 (bI_f hq)
    refine v_iconst (n := 10) (x := nI 1) dX8_queued_9 rfl (by decide) ?_
    refine v_goto (n := 40) dX8_queued_10 (by decide) ?_
    refine v_putf (n := 43) dX8_queued_40 rfl fw_X8_41 zokc_10 (fun _ => rfl) rfl rfl ?_
    refine v_aload_n (n := 44) dX8_queued_43 rfl rfl ?_
    refine v_getf (n := 47) dX8_queued_44 rfl fl_X8_41 zokc_10 (congrArg Value.int (up_self _ _ _ _ _ _)) ?_
    refine v_if_le (n := 50) (t := 54) dX8_queued_47 rfl (by decide) (fun hq => ?_) (fun hq => ?_)
    · replace h := h.1 hq
      refine v_aload_n (n := 55) dX8_queued_54 rfl rfl ?_
      refine v_getf (n := 58) dX8_queued_55 rfl fl_X8_9 zokc_10 rfl ?_
      refine v_iload_n (n := 59) dX8_queued_58 rfl rfl ?_
      refine v_callS (n := 62) (As := [.int x1]) (rest := [.ref (zad G.1 26 0 0)]) dX8_queued_59 rfl lk_X8_51 rfl rfl (Nat.le_of_ble_eq_true rfl) ⟨Nat.le_of_ble_eq_true rfl, Nat.le_of_ble_eq_true rfl, Nat.le_of_ble_eq_true rfl, Nat.le_of_ble_eq_true rfl⟩ (s_X8_lift0 G x1 (up μ 10 0 0 6 (nI 1))) (fun v μ9 hp => ?_) (fun _ _ hp => False.elim hp)
      rw [hp.1, hp.2]
      refine v_norm (st' := [.int (nI 6 + nI 21 * x1), .ref (zad G.1 26 0 0)]) (cells' := 0) (slots' := 0) rfl rfl rfl ?_
      refine v_bipush (n := 64) (x := nI 11) dX8_queued_62 rfl (by decide) ?_
      refine v_iadd (n := 65) dX8_queued_64 rfl ?_
      refine v_iload_n (n := 66) dX8_queued_65 rfl rfl ?_
      refine v_iadd (n := 67) dX8_queued_66 rfl ?_
      obtain ⟨j4, ej4, hj4, h⟩ := h
      refine v_iald (n := 68) (j := j4) dX8_queued_67 rfl zokc_26 (by decide) rfl ej4 hj4 (congrArg Value.int (up_k (by decide))) ?_
      exact v_iret dX8_queued_68 rfl (Nat.le_of_ble_eq_true rfl) (Nat.le_of_ble_eq_true rfl) h
    · replace h := h.2 hq
      refine v_iconst (n := 51) (x := nI 0) dX8_queued_50 rfl (by decide) ?_
      refine v_goto (n := 68) dX8_queued_51 (by decide) ?_
      exact v_iret dX8_queued_68 rfl (Nat.le_of_ble_eq_true rfl) (Nat.le_of_ble_eq_true rfl) h

set_option maxRecDepth 20000 in
set_option maxHeartbeats 4000000 in
theorem wX8_comesTo (G : Gl) {P : Option Value → St → Prop} {X : String → St → Prop} (g : Nat) (hg : g < 16) (x2 : Int32) (μ : St)
    (h : P none (up (up (up (up μ 26 0 0 (212 + 10 * g + 4) (nI 0)) 26 0 0 (212 + 10 * g + 5) x2) 26 0 0 (212 + 10 * g + 6) (nI 0)) 10 0 0 7 ((μ 10 0 0 7) + (nI 1)))) :
    Con G mX8_comesTo [.ref (zad G.1 10 0 0), .int (nI g), .int x2] μ P X := by
  refine con_of pn_X8 rfl (Nat.le_of_ble_eq_true rfl) ?_
  show VL G mX8_comesTo P X 0 [(0, .ref (zad G.1 10 0 0)), (1, .int (nI g)), (2, .int x2)] [] μ
  refine v_aload_n (n := 1) dX8_comesTo_0 rfl rfl ?_
  refine v_getf (n := 4) dX8_comesTo_1 rfl fl_X8_9 zokc_10 rfl ?_
  refine v_iload_n (n := 5) dX8_comesTo_4 rfl rfl ?_
  refine v_callS (n := 8) (As := [.int (nI g)]) (rest := [.ref (zad G.1 26 0 0)]) dX8_comesTo_5 rfl lk_X8_71 rfl rfl (Nat.le_of_ble_eq_true rfl) ⟨Nat.le_of_ble_eq_true rfl, Nat.le_of_ble_eq_true rfl, Nat.le_of_ble_eq_true rfl, Nat.le_of_ble_eq_true rfl⟩ (s_X8_guest0N G g μ) (fun v μ9 hp => ?_) (fun _ _ hp => False.elim hp)
  rw [hp.1, hp.2]
  refine v_norm (st' := [.int (nI (212 + 10 * g)), .ref (zad G.1 26 0 0)]) (cells' := 0) (slots' := 0) rfl rfl rfl ?_
  refine v_iconst (n := 9) (x := nI 4) dX8_comesTo_8 rfl (by decide) ?_
  refine v_iadd (n := 10) dX8_comesTo_9 rfl ?_
  refine v_top (y := nI (212 + 10 * g + 4)) (nI_add (212 + 10 * g) 4) ?_
  refine v_iconst (n := 11) (x := nI 0) dX8_comesTo_10 rfl (by decide) ?_
  refine v_iast (n := 12) (j := (212 + 10 * g + 4)) dX8_comesTo_11 rfl zokc_26 (by decide) (by decide) rfl rfl (show 212 + 10 * g + 4 < 372 by omega) (fun _ => rfl) ?_
  refine v_aload_n (n := 13) dX8_comesTo_12 rfl rfl ?_
  refine v_getf (n := 16) dX8_comesTo_13 rfl fl_X8_9 zokc_10 rfl ?_
  refine v_iload_n (n := 17) dX8_comesTo_16 rfl rfl ?_
  refine v_callS (n := 20) (As := [.int (nI g)]) (rest := [.ref (zad G.1 26 0 0)]) dX8_comesTo_17 rfl lk_X8_71 rfl rfl (Nat.le_of_ble_eq_true rfl) ⟨Nat.le_of_ble_eq_true rfl, Nat.le_of_ble_eq_true rfl, Nat.le_of_ble_eq_true rfl, Nat.le_of_ble_eq_true rfl⟩ (s_X8_guest0N G g (up μ 26 0 0 (212 + 10 * g + 4) (nI 0))) (fun v μ9 hp => ?_) (fun _ _ hp => False.elim hp)
  rw [hp.1, hp.2]
  refine v_norm (st' := [.int (nI (212 + 10 * g)), .ref (zad G.1 26 0 0)]) (cells' := 0) (slots' := 0) rfl rfl rfl ?_
  refine v_iconst (n := 21) (x := nI 5) dX8_comesTo_20 rfl (by decide) ?_
  refine v_iadd (n := 22) dX8_comesTo_21 rfl ?_
  refine v_top (y := nI (212 + 10 * g + 5)) (nI_add (212 + 10 * g) 5) ?_
  refine v_iload_n (n := 23) dX8_comesTo_22 rfl rfl ?_
  refine v_iast (n := 24) (j := (212 + 10 * g + 5)) dX8_comesTo_23 rfl zokc_26 (by decide) (by decide) rfl rfl (show 212 + 10 * g + 5 < 372 by omega) (fun _ => rfl) ?_
  refine v_aload_n (n := 25) dX8_comesTo_24 rfl rfl ?_
  refine v_getf (n := 28) dX8_comesTo_25 rfl fl_X8_9 zokc_10 rfl ?_
  refine v_iload_n (n := 29) dX8_comesTo_28 rfl rfl ?_
  refine v_callS (n := 32) (As := [.int (nI g)]) (rest := [.ref (zad G.1 26 0 0)]) dX8_comesTo_29 rfl lk_X8_71 rfl rfl (Nat.le_of_ble_eq_true rfl) ⟨Nat.le_of_ble_eq_true rfl, Nat.le_of_ble_eq_true rfl, Nat.le_of_ble_eq_true rfl, Nat.le_of_ble_eq_true rfl⟩ (s_X8_guest0N G g (up (up μ 26 0 0 (212 + 10 * g + 4) (nI 0)) 26 0 0 (212 + 10 * g + 5) x2)) (fun v μ9 hp => ?_) (fun _ _ hp => False.elim hp)
  rw [hp.1, hp.2]
  refine v_norm (st' := [.int (nI (212 + 10 * g)), .ref (zad G.1 26 0 0)]) (cells' := 0) (slots' := 0) rfl rfl rfl ?_
  refine v_bipush (n := 34) (x := nI 6) dX8_comesTo_32 rfl (by decide) ?_
  refine v_iadd (n := 35) dX8_comesTo_34 rfl ?_
  refine v_top (y := nI (212 + 10 * g + 6)) (nI_add (212 + 10 * g) 6) ?_
  refine v_iconst (n := 36) (x := nI 0) dX8_comesTo_35 rfl (by decide) ?_
  refine v_iast (n := 37) (j := (212 + 10 * g + 6)) dX8_comesTo_36 rfl zokc_26 (by decide) (by decide) rfl rfl (show 212 + 10 * g + 6 < 372 by omega) (fun _ => rfl) ?_
  refine v_aload_n (n := 38) dX8_comesTo_37 rfl rfl ?_
  refine v_dup (n := 39) dX8_comesTo_38 rfl rfl ?_
  refine v_getf (n := 42) dX8_comesTo_39 rfl fl_X8_124 zokc_10 (congrArg Value.int ((up_k (by decide)).trans ((up_k (by decide)).trans (up_k (by decide))))) ?_
  refine v_iconst (n := 43) (x := nI 1) dX8_comesTo_42 rfl (by decide) ?_
  refine v_iadd (n := 44) dX8_comesTo_43 rfl ?_
  refine v_putf (n := 47) dX8_comesTo_44 rfl fw_X8_124 zokc_10 (fun _ => rfl) rfl rfl ?_
  exact v_vret dX8_comesTo_47 rfl (Nat.le_of_ble_eq_true rfl) (Nat.le_of_ble_eq_true rfl) h

set_option maxRecDepth 20000 in
set_option maxHeartbeats 4000000 in
theorem wX8_cabin (G : Gl) {P : Option Value → St → Prop} {X : String → St → Prop} (l : Nat) (hl : l < 6) (μ : St)
    (h : VL G mX8_cabin P X 29 [(0, .ref (zad G.1 10 0 0)), (1, .int (nI l)), (2, .int (nI (6 + 21 * l))), (3, .int (imn (μ 26 0 0 (6 + 21 * l + 10)) (μ 26 0 0 (6 + 21 * l + 4)))), (4, .int (nI 0))] [] μ) :
    Con G mX8_cabin [.ref (zad G.1 10 0 0), .int (nI l)] μ P X := by
  refine con_of pn_X8 rfl (Nat.le_of_ble_eq_true rfl) ?_
  show VL G mX8_cabin P X 0 [(0, .ref (zad G.1 10 0 0)), (1, .int (nI l))] [] μ
  refine v_iload_n (n := 1) dX8_cabin_0 rfl rfl ?_
  refine v_callS (n := 4) (As := [.int (nI l)]) (rest := []) dX8_cabin_1 rfl lk_X8_51 rfl rfl (Nat.le_of_ble_eq_true rfl) ⟨Nat.le_of_ble_eq_true rfl, Nat.le_of_ble_eq_true rfl, Nat.le_of_ble_eq_true rfl, Nat.le_of_ble_eq_true rfl⟩ (s_X8_lift0N G l μ) (fun v μ9 hp => ?_) (fun _ _ hp => False.elim hp)
  rw [hp.1, hp.2]
  refine v_norm (st' := [.int (nI (6 + 21 * l))]) (cells' := 0) (slots' := 0) rfl rfl rfl ?_
  refine v_istore_n (n := 5) (L' := [(0, .ref (zad G.1 10 0 0)), (1, .int (nI l)), (2, .int (nI (6 + 21 * l)))]) dX8_cabin_4 rfl (by decide) rfl ?_
  refine v_aload_n (n := 6) dX8_cabin_5 rfl rfl ?_
  refine v_getf (n := 9) dX8_cabin_6 rfl fl_X8_9 zokc_10 rfl ?_
  refine v_iload_n (n := 10) dX8_cabin_9 rfl rfl ?_
  refine v_bipush (n := 12) (x := nI 10) dX8_cabin_10 rfl (by decide) ?_
  refine v_iadd (n := 13) dX8_cabin_12 rfl ?_
  refine v_top (y := nI (6 + 21 * l + 10)) (nI_add (6 + 21 * l) 10) ?_
  refine v_iald (n := 14) (j := (6 + 21 * l + 10)) dX8_cabin_13 rfl zokc_26 (by decide) rfl rfl (show 6 + 21 * l + 10 < 372 by omega) (rfl) ?_
  refine v_aload_n (n := 15) dX8_cabin_14 rfl rfl ?_
  refine v_getf (n := 18) dX8_cabin_15 rfl fl_X8_9 zokc_10 rfl ?_
  refine v_iload_n (n := 19) dX8_cabin_18 rfl rfl ?_
  refine v_iconst (n := 20) (x := nI 4) dX8_cabin_19 rfl (by decide) ?_
  refine v_iadd (n := 21) dX8_cabin_20 rfl ?_
  refine v_top (y := nI (6 + 21 * l + 4)) (nI_add (6 + 21 * l) 4) ?_
  refine v_iald (n := 22) (j := (6 + 21 * l + 4)) dX8_cabin_21 rfl zokc_26 (by decide) rfl rfl (show 6 + 21 * l + 4 < 372 by omega) (rfl) ?_
  refine v_callS (n := 25) (As := [.int (μ 26 0 0 (6 + 21 * l + 10)), .int (μ 26 0 0 (6 + 21 * l + 4))]) (rest := []) dX8_cabin_22 rfl lk_X8_127 rfl rfl (Nat.le_of_ble_eq_true rfl) ⟨Nat.le_of_ble_eq_true rfl, Nat.le_of_ble_eq_true rfl, Nat.le_of_ble_eq_true rfl, Nat.le_of_ble_eq_true rfl⟩ (s_J9_min_7cf53 G (μ 26 0 0 (6 + 21 * l + 10)) (μ 26 0 0 (6 + 21 * l + 4)) μ) (fun v μ9 hp => ?_) (fun _ _ hp => False.elim hp)
  rw [hp.1, hp.2]
  refine v_norm (st' := [.int (imn (μ 26 0 0 (6 + 21 * l + 10)) (μ 26 0 0 (6 + 21 * l + 4)))]) (cells' := 0) (slots' := 0) rfl rfl rfl ?_
  refine v_istore_n (n := 26) (L' := [(0, .ref (zad G.1 10 0 0)), (1, .int (nI l)), (2, .int (nI (6 + 21 * l))), (3, .int (imn (μ 26 0 0 (6 + 21 * l + 10)) (μ 26 0 0 (6 + 21 * l + 4))))]) dX8_cabin_25 rfl (by decide) rfl ?_
  refine v_iconst (n := 27) (x := nI 0) dX8_cabin_26 rfl (by decide) ?_
  refine v_istore (n := 29) (L' := [(0, .ref (zad G.1 10 0 0)), (1, .int (nI l)), (2, .int (nI (6 + 21 * l))), (3, .int (imn (μ 26 0 0 (6 + 21 * l + 10)) (μ 26 0 0 (6 + 21 * l + 4)))), (4, .int (nI 0))]) dX8_cabin_27 rfl (by decide) rfl ?_
  exact h

set_option maxRecDepth 20000 in
set_option maxHeartbeats 4000000 in
theorem wX8_cabin_29 (G : Gl) {P : Option Value → St → Prop} {X : String → St → Prop} (l : Nat) (hl : l < 6) (y3 : Int32) (i4 : Nat) (μ : St)
    (h : ((y3 ≤ nI i4 → Con G mX8_drops [.ref (zad G.1 10 0 0), .int (nI l), .int (nI 0), .int y3] μ (fun v μ1 => v = none ∧ P none (up (up (up μ1 26 0 0 (6 + 21 * l + 8) ((μ1 26 0 0 (6 + 21 * l + 8)) + y3)) 26 0 0 (6 + 21 * l + 9) (((up μ1 26 0 0 (6 + 21 * l + 8) ((μ1 26 0 0 (6 + 21 * l + 8)) + y3)) 26 0 0 (6 + 21 * l + 9)) + (nI 1))) 26 0 0 (6 + 21 * l + 7) (((up (up μ1 26 0 0 (6 + 21 * l + 8) ((μ1 26 0 0 (6 + 21 * l + 8)) + y3)) 26 0 0 (6 + 21 * l + 9) (((up μ1 26 0 0 (6 + 21 * l + 8) ((μ1 26 0 0 (6 + 21 * l + 8)) + y3)) 26 0 0 (6 + 21 * l + 9)) + (nI 1))) 26 0 0 (6 + 21 * l + 7)) - ((nI 2) * ((up (up μ1 26 0 0 (6 + 21 * l + 8) ((μ1 26 0 0 (6 + 21 * l + 8)) + y3)) 26 0 0 (6 + 21 * l + 9) (((up μ1 26 0 0 (6 + 21 * l + 8) ((μ1 26 0 0 (6 + 21 * l + 8)) + y3)) 26 0 0 (6 + 21 * l + 9)) + (nI 1))) 26 0 0 (6 + 21 * l + 3)))))) noX) ∧ (¬ y3 ≤ nI i4 → 6 + 21 * l + 11 + i4 < 372 ∧ ∃ j1 : Nat, (nI 212 + nI 10 * (μ 26 0 0 (6 + 21 * l + 11 + i4))) + (nI 4) = nI j1 ∧ j1 < 372 ∧ ∃ j2 : Nat, (nI 212 + nI 10 * (μ 26 0 0 (6 + 21 * l + 11 + i4))) + (nI 6) = nI j2 ∧ j2 < 372 ∧ ∃ j3 : Nat, (nI 212 + nI 10 * (μ 26 0 0 (6 + 21 * l + 11 + i4))) + (nI 7) = nI j3 ∧ j3 < 372 ∧ ∃ j4 : Nat, (nI 212 + nI 10 * (μ 26 0 0 (6 + 21 * l + 11 + i4))) + (nI 7) = nI j4 ∧ j4 < 372 ∧ VL G mX8_cabin P X 29 [(0, .ref (zad G.1 10 0 0)), (1, .int (nI l)), (2, .int (nI (6 + 21 * l))), (3, .int y3), (4, .int (nI (i4 + 1)))] [] (up (up (up μ 26 0 0 j1 (nI 2)) 26 0 0 j2 ((nI 2) * ((up μ 26 0 0 j1 (nI 2)) 26 0 0 (6 + 21 * l + 5)))) 26 0 0 j4 (((up (up μ 26 0 0 j1 (nI 2)) 26 0 0 j2 ((nI 2) * ((up μ 26 0 0 j1 (nI 2)) 26 0 0 (6 + 21 * l + 5)))) 26 0 0 j3) + (nI 1)))))) :
    VL G mX8_cabin P X 29 [(0, .ref (zad G.1 10 0 0)), (1, .int (nI l)), (2, .int (nI (6 + 21 * l))), (3, .int y3), (4, .int (nI i4))] [] μ := by
  refine v_iload (n := 31) dX8_cabin_29 rfl rfl ?_
  refine v_iload_n (n := 32) dX8_cabin_31 rfl rfl ?_
  refine v_icmp_ge (n := 35) (t := 102) dX8_cabin_32 rfl (by decide) (fun hq => ?_) (fun hq => ?_)
  · replace h := h.1 hq
    refine v_aload_n (n := 103) dX8_cabin_102 rfl rfl ?_
    refine v_iload_n (n := 104) dX8_cabin_103 rfl rfl ?_
    refine v_iconst (n := 105) (x := nI 0) dX8_cabin_104 rfl (by decide) ?_
    refine v_iload_n (n := 106) dX8_cabin_105 rfl rfl ?_
    refine v_callV (n := 109) (k := 10) (b := 0) (i := 0) (As := [.int (nI l), .int (nI 0), .int y3]) (rest := []) dX8_cabin_106 rfl lk_X8_120 rfl rfl (Nat.le_of_ble_eq_true rfl) ⟨Nat.le_of_ble_eq_true rfl, Nat.le_of_ble_eq_true rfl, Nat.le_of_ble_eq_true rfl, Nat.le_of_ble_eq_true rfl⟩ zokc_10 h (fun v μ1 h => ?_) (fun _ _ hp => False.elim hp)
    obtain ⟨rfl, h⟩ := h
    refine v_norm (st' := []) (cells' := 0) (slots' := 0) rfl rfl rfl ?_
    refine v_aload_n (n := 110) dX8_cabin_109 rfl rfl ?_
    refine v_getf (n := 113) dX8_cabin_110 rfl fl_X8_9 zokc_10 rfl ?_
    refine v_iload_n (n := 114) dX8_cabin_113 rfl rfl ?_
    refine v_bipush (n := 116) (x := nI 8) dX8_cabin_114 rfl (by decide) ?_
    refine v_iadd (n := 117) dX8_cabin_116 rfl ?_
    refine v_top (y := nI (6 + 21 * l + 8)) (nI_add (6 + 21 * l) 8) ?_
    refine v_dup2 (n := 118) dX8_cabin_117 rfl rfl rfl ?_
    refine v_iald (n := 119) (j := (6 + 21 * l + 8)) dX8_cabin_118 rfl zokc_26 (by decide) rfl rfl (show 6 + 21 * l + 8 < 372 by omega) (rfl) ?_
    refine v_iload_n (n := 120) dX8_cabin_119 rfl rfl ?_
    refine v_iadd (n := 121) dX8_cabin_120 rfl ?_
    refine v_iast (n := 122) (j := (6 + 21 * l + 8)) dX8_cabin_121 rfl zokc_26 (by decide) (by decide) rfl rfl (show 6 + 21 * l + 8 < 372 by omega) (fun _ => rfl) ?_
    refine v_aload_n (n := 123) dX8_cabin_122 rfl rfl ?_
    refine v_getf (n := 126) dX8_cabin_123 rfl fl_X8_9 zokc_10 rfl ?_
    refine v_iload_n (n := 127) dX8_cabin_126 rfl rfl ?_
    refine v_bipush (n := 129) (x := nI 9) dX8_cabin_127 rfl (by decide) ?_
    refine v_iadd (n := 130) dX8_cabin_129 rfl ?_
    refine v_top (y := nI (6 + 21 * l + 9)) (nI_add (6 + 21 * l) 9) ?_
    refine v_dup2 (n := 131) dX8_cabin_130 rfl rfl rfl ?_
    refine v_iald (n := 132) (j := (6 + 21 * l + 9)) dX8_cabin_131 rfl zokc_26 (by decide) rfl rfl (show 6 + 21 * l + 9 < 372 by omega) (rfl) ?_
    refine v_iconst (n := 133) (x := nI 1) dX8_cabin_132 rfl (by decide) ?_
    refine v_iadd (n := 134) dX8_cabin_133 rfl ?_
    refine v_iast (n := 135) (j := (6 + 21 * l + 9)) dX8_cabin_134 rfl zokc_26 (by decide) (by decide) rfl rfl (show 6 + 21 * l + 9 < 372 by omega) (fun _ => rfl) ?_
    refine v_aload_n (n := 136) dX8_cabin_135 rfl rfl ?_
    refine v_getf (n := 139) dX8_cabin_136 rfl fl_X8_9 zokc_10 rfl ?_
    refine v_iload_n (n := 140) dX8_cabin_139 rfl rfl ?_
    refine v_bipush (n := 142) (x := nI 7) dX8_cabin_140 rfl (by decide) ?_
    refine v_iadd (n := 143) dX8_cabin_142 rfl ?_
    refine v_top (y := nI (6 + 21 * l + 7)) (nI_add (6 + 21 * l) 7) ?_
    refine v_dup2 (n := 144) dX8_cabin_143 rfl rfl rfl ?_
    refine v_iald (n := 145) (j := (6 + 21 * l + 7)) dX8_cabin_144 rfl zokc_26 (by decide) rfl rfl (show 6 + 21 * l + 7 < 372 by omega) (rfl) ?_
    refine v_iconst (n := 146) (x := nI 2) dX8_cabin_145 rfl (by decide) ?_
    refine v_aload_n (n := 147) dX8_cabin_146 rfl rfl ?_
    refine v_getf (n := 150) dX8_cabin_147 rfl fl_X8_9 zokc_10 rfl ?_
    refine v_iload_n (n := 151) dX8_cabin_150 rfl rfl ?_
    refine v_iconst (n := 152) (x := nI 3) dX8_cabin_151 rfl (by decide) ?_
    refine v_iadd (n := 153) dX8_cabin_152 rfl ?_
    refine v_top (y := nI (6 + 21 * l + 3)) (nI_add (6 + 21 * l) 3) ?_
    refine v_iald (n := 154) (j := (6 + 21 * l + 3)) dX8_cabin_153 rfl zokc_26 (by decide) rfl rfl (show 6 + 21 * l + 3 < 372 by omega) (rfl) ?_
    refine v_imul (n := 155) dX8_cabin_154 rfl ?_
    refine v_isub (n := 156) dX8_cabin_155 rfl ?_
    refine v_iast (n := 157) (j := (6 + 21 * l + 7)) dX8_cabin_156 rfl zokc_26 (by decide) (by decide) rfl rfl (show 6 + 21 * l + 7 < 372 by omega) (fun _ => rfl) ?_
    exact v_vret dX8_cabin_157 rfl (Nat.le_of_ble_eq_true rfl) (Nat.le_of_ble_eq_true rfl) h
  · replace h := h.2 hq
    refine v_aload_n (n := 36) dX8_cabin_35 rfl rfl ?_
    refine v_getf (n := 39) dX8_cabin_36 rfl fl_X8_9 zokc_10 rfl ?_
    refine v_iload_n (n := 40) dX8_cabin_39 rfl rfl ?_
    refine v_bipush (n := 42) (x := nI 11) dX8_cabin_40 rfl (by decide) ?_
    refine v_iadd (n := 43) dX8_cabin_42 rfl ?_
    refine v_top (y := nI (6 + 21 * l + 11)) (nI_add (6 + 21 * l) 11) ?_
    refine v_iload (n := 45) dX8_cabin_43 rfl rfl ?_
    refine v_iadd (n := 46) dX8_cabin_45 rfl ?_
    refine v_top (y := nI (6 + 21 * l + 11 + i4)) (nI_add (6 + 21 * l + 11) i4) ?_
    obtain ⟨hf1, h⟩ := h
    refine v_iald (n := 47) (j := (6 + 21 * l + 11 + i4)) dX8_cabin_46 rfl zokc_26 (by decide) rfl rfl hf1 (rfl) ?_
    refine v_callS (n := 50) (As := [.int (μ 26 0 0 (6 + 21 * l + 11 + i4))]) (rest := []) dX8_cabin_47 rfl lk_X8_71 rfl rfl (Nat.le_of_ble_eq_true rfl) ⟨Nat.le_of_ble_eq_true rfl, Nat.le_of_ble_eq_true rfl, Nat.le_of_ble_eq_true rfl, Nat.le_of_ble_eq_true rfl⟩ (s_X8_guest0 G (μ 26 0 0 (6 + 21 * l + 11 + i4)) μ) (fun v μ9 hp => ?_) (fun _ _ hp => False.elim hp)
    rw [hp.1, hp.2]
    refine v_norm (st' := [.int (nI 212 + nI 10 * (μ 26 0 0 (6 + 21 * l + 11 + i4)))]) (cells' := 0) (slots' := 0) rfl rfl rfl ?_
    refine v_istore (n := 52) (L' := [(0, .ref (zad G.1 10 0 0)), (1, .int (nI l)), (2, .int (nI (6 + 21 * l))), (3, .int y3), (4, .int (nI i4)), (5, .int (nI 212 + nI 10 * (μ 26 0 0 (6 + 21 * l + 11 + i4))))]) dX8_cabin_50 rfl (by decide) rfl ?_
    refine v_aload_n (n := 53) dX8_cabin_52 rfl rfl ?_
    refine v_getf (n := 56) dX8_cabin_53 rfl fl_X8_9 zokc_10 rfl ?_
    refine v_iload (n := 58) dX8_cabin_56 rfl rfl ?_
    refine v_iconst (n := 59) (x := nI 4) dX8_cabin_58 rfl (by decide) ?_
    refine v_iadd (n := 60) dX8_cabin_59 rfl ?_
    refine v_iconst (n := 61) (x := nI 2) dX8_cabin_60 rfl (by decide) ?_
    obtain ⟨j1, ej1, hj1, h⟩ := h
    refine v_iast (n := 62) (j := j1) dX8_cabin_61 rfl zokc_26 (by decide) (by decide) rfl ej1 hj1 (fun _ => rfl) ?_
    refine v_aload_n (n := 63) dX8_cabin_62 rfl rfl ?_
    refine v_getf (n := 66) dX8_cabin_63 rfl fl_X8_9 zokc_10 rfl ?_
    refine v_iload (n := 68) dX8_cabin_66 rfl rfl ?_
    refine v_bipush (n := 70) (x := nI 6) dX8_cabin_68 rfl (by decide) ?_
    refine v_iadd (n := 71) dX8_cabin_70 rfl ?_
    refine v_iconst (n := 72) (x := nI 2) dX8_cabin_71 rfl (by decide) ?_
    refine v_aload_n (n := 73) dX8_cabin_72 rfl rfl ?_
    refine v_getf (n := 76) dX8_cabin_73 rfl fl_X8_9 zokc_10 rfl ?_
    refine v_iload_n (n := 77) dX8_cabin_76 rfl rfl ?_
    refine v_iconst (n := 78) (x := nI 5) dX8_cabin_77 rfl (by decide) ?_
    refine v_iadd (n := 79) dX8_cabin_78 rfl ?_
    refine v_top (y := nI (6 + 21 * l + 5)) (nI_add (6 + 21 * l) 5) ?_
    refine v_iald (n := 80) (j := (6 + 21 * l + 5)) dX8_cabin_79 rfl zokc_26 (by decide) rfl rfl (show 6 + 21 * l + 5 < 372 by omega) (rfl) ?_
    refine v_imul (n := 81) dX8_cabin_80 rfl ?_
    obtain ⟨j2, ej2, hj2, h⟩ := h
    refine v_iast (n := 82) (j := j2) dX8_cabin_81 rfl zokc_26 (by decide) (by decide) rfl ej2 hj2 (fun _ => rfl) ?_
    refine v_aload_n (n := 83) dX8_cabin_82 rfl rfl ?_
    refine v_getf (n := 86) dX8_cabin_83 rfl fl_X8_9 zokc_10 rfl ?_
    refine v_iload (n := 88) dX8_cabin_86 rfl rfl ?_
    refine v_bipush (n := 90) (x := nI 7) dX8_cabin_88 rfl (by decide) ?_
    refine v_iadd (n := 91) dX8_cabin_90 rfl ?_
    refine v_dup2 (n := 92) dX8_cabin_91 rfl rfl rfl ?_
    obtain ⟨j3, ej3, hj3, h⟩ := h
    refine v_iald (n := 93) (j := j3) dX8_cabin_92 rfl zokc_26 (by decide) rfl ej3 hj3 (rfl) ?_
    refine v_iconst (n := 94) (x := nI 1) dX8_cabin_93 rfl (by decide) ?_
    refine v_iadd (n := 95) dX8_cabin_94 rfl ?_
    obtain ⟨j4, ej4, hj4, h⟩ := h
    refine v_iast (n := 96) (j := j4) dX8_cabin_95 rfl zokc_26 (by decide) (by decide) rfl ej4 hj4 (fun _ => rfl) ?_
    refine v_iinc (n := 99) (x := nI i4) (y := nI (i4 + 1)) (L' := [(0, .ref (zad G.1 10 0 0)), (1, .int (nI l)), (2, .int (nI (6 + 21 * l))), (3, .int y3), (4, .int (nI (i4 + 1))), (5, .int (nI 212 + nI 10 * (μ 26 0 0 (6 + 21 * l + 11 + i4))))]) dX8_cabin_96 rfl rfl (nI_1 i4) (by decide) rfl ?_
    refine v_goto (n := 29) dX8_cabin_99 (by decide) ?_
    exact v_pick [0, 1, 2, 3, 4] rfl h

set_option maxRecDepth 20000 in
set_option maxHeartbeats 4000000 in
theorem wX8_tick (G : Gl) {P : Option Value → St → Prop} {X : String → St → Prop}  (μ : St)
    (h : VL G mX8_tick P X 2 [(0, .ref (zad G.1 10 0 0)), (1, .int (nI 0))] [] μ) :
    Con G mX8_tick [.ref (zad G.1 10 0 0)] μ P X := by
  refine con_of pn_X8 rfl (Nat.le_of_ble_eq_true rfl) ?_
  show VL G mX8_tick P X 0 [(0, .ref (zad G.1 10 0 0))] [] μ
  refine v_iconst (n := 1) (x := nI 0) dX8_tick_0 rfl (by decide) ?_
  refine v_istore_n (n := 2) (L' := [(0, .ref (zad G.1 10 0 0)), (1, .int (nI 0))]) dX8_tick_1 rfl (by decide) rfl ?_
  exact h

set_option maxRecDepth 20000 in
set_option maxHeartbeats 4000000 in
theorem wX8_tick_2 (G : Gl) {P : Option Value → St → Prop} {X : String → St → Prop} (i1 : Nat) (μ : St)
    (h : ((μ 26 0 0 5 ≤ nI i1 → VL G mX8_tick P X 96 [(0, .ref (zad G.1 10 0 0)), (1, .int (nI 0))] [] μ) ∧ (¬ μ 26 0 0 5 ≤ nI i1 → 212 + 10 * i1 + 4 < 372 ∧ ((¬ μ 26 0 0 (212 + 10 * i1 + 4) = nI 2 → VL G mX8_tick P X 2 [(0, .ref (zad G.1 10 0 0)), (1, .int (nI (i1 + 1)))] [] μ) ∧ (μ 26 0 0 (212 + 10 * i1 + 4) = nI 2 → 212 + 10 * i1 + 6 < 372 ∧ 212 + 10 * i1 + 5 < 372 ∧ ∃ j1 : Nat, μ 26 0 0 (212 + 10 * i1 + 5) = nI j1 ∧ j1 < 6 ∧ ((0 < (μ 26 0 0 (212 + 10 * i1 + 6)) - (nI 2 - msf μ j1) → VL G mX8_tick P X 2 [(0, .ref (zad G.1 10 0 0)), (1, .int (nI (i1 + 1)))] [] (up μ 26 0 0 (212 + 10 * i1 + 6) ((μ 26 0 0 (212 + 10 * i1 + 6)) - (nI 2 - msf μ j1)))) ∧ (¬ 0 < (μ 26 0 0 (212 + 10 * i1 + 6)) - (nI 2 - msf μ j1) → ∃ j2 : Nat, (nI 6 + nI 21 * ((up μ 26 0 0 (212 + 10 * i1 + 6) ((μ 26 0 0 (212 + 10 * i1 + 6)) - (nI 2 - msf μ j1))) 26 0 0 (212 + 10 * i1 + 5))) + (nI 1) = nI j2 ∧ j2 < 372 ∧ Con G mX8_comesTo [.ref (zad G.1 10 0 0), .int (nI i1), .int ((up μ 26 0 0 (212 + 10 * i1 + 6) ((μ 26 0 0 (212 + 10 * i1 + 6)) - (nI 2 - msf μ j1))) 26 0 0 j2)] (up μ 26 0 0 (212 + 10 * i1 + 6) ((μ 26 0 0 (212 + 10 * i1 + 6)) - (nI 2 - msf μ j1))) (fun v μ1 => v = none ∧ VL G mX8_tick P X 2 [(0, .ref (zad G.1 10 0 0)), (1, .int (nI (i1 + 1)))] [] μ1) noX))))))) :
    VL G mX8_tick P X 2 [(0, .ref (zad G.1 10 0 0)), (1, .int (nI i1))] [] μ := by
  refine v_iload_n (n := 3) dX8_tick_2 rfl rfl ?_
  refine v_aload_n (n := 4) dX8_tick_3 rfl rfl ?_
  refine v_getf (n := 7) dX8_tick_4 rfl fl_X8_9 zokc_10 rfl ?_
  refine v_iconst (n := 8) (x := nI 5) dX8_tick_7 rfl (by decide) ?_
  refine v_iald (n := 9) (j := 5) dX8_tick_8 rfl zokc_26 (by decide) rfl rfl (by decide) (rfl) ?_
  refine v_icmp_ge (n := 12) (t := 94) dX8_tick_9 rfl (by decide) (fun hq => ?_) (fun hq => ?_)
  · replace h := h.1 hq
    refine v_iconst (n := 95) (x := nI 0) dX8_tick_94 rfl (by decide) ?_
    refine v_istore_n (n := 96) (L' := [(0, .ref (zad G.1 10 0 0)), (1, .int (nI 0))]) dX8_tick_95 rfl (by decide) rfl ?_
    exact h
  · replace h := h.2 hq
    refine v_iload_n (n := 13) dX8_tick_12 rfl rfl ?_
    refine v_callS (n := 16) (As := [.int (nI i1)]) (rest := []) dX8_tick_13 rfl lk_X8_71 rfl rfl (Nat.le_of_ble_eq_true rfl) ⟨Nat.le_of_ble_eq_true rfl, Nat.le_of_ble_eq_true rfl, Nat.le_of_ble_eq_true rfl, Nat.le_of_ble_eq_true rfl⟩ (s_X8_guest0N G i1 μ) (fun v μ9 hp => ?_) (fun _ _ hp => False.elim hp)
    rw [hp.1, hp.2]
    refine v_norm (st' := [.int (nI (212 + 10 * i1))]) (cells' := 0) (slots' := 0) rfl rfl rfl ?_
    refine v_istore_n (n := 17) (L' := [(0, .ref (zad G.1 10 0 0)), (1, .int (nI i1)), (2, .int (nI (212 + 10 * i1)))]) dX8_tick_16 rfl (by decide) rfl ?_
    refine v_aload_n (n := 18) dX8_tick_17 rfl rfl ?_
    refine v_getf (n := 21) dX8_tick_18 rfl fl_X8_9 zokc_10 rfl ?_
    refine v_iload_n (n := 22) dX8_tick_21 rfl rfl ?_
    refine v_iconst (n := 23) (x := nI 4) dX8_tick_22 rfl (by decide) ?_
    refine v_iadd (n := 24) dX8_tick_23 rfl ?_
    refine v_top (y := nI (212 + 10 * i1 + 4)) (nI_add (212 + 10 * i1) 4) ?_
    obtain ⟨hf1, h⟩ := h
    refine v_iald (n := 25) (j := (212 + 10 * i1 + 4)) dX8_tick_24 rfl zokc_26 (by decide) rfl rfl hf1 (rfl) ?_
    refine v_iconst (n := 26) (x := nI 2) dX8_tick_25 rfl (by decide) ?_
    refine v_icmp_ne (n := 29) (t := 88) dX8_tick_26 rfl (by decide) (fun hq => ?_) (fun hq => ?_)
    · replace h := h.1 hq
      refine v_iinc (n := 91) (x := nI i1) (y := nI (i1 + 1)) (L' := [(0, .ref (zad G.1 10 0 0)), (1, .int (nI (i1 + 1))), (2, .int (nI (212 + 10 * i1)))]) dX8_tick_88 rfl rfl (nI_1 i1) (by decide) rfl ?_
      refine v_goto (n := 2) dX8_tick_91 (by decide) ?_
      exact v_pick [0, 1] rfl h
    · replace h := h.2 hq
      refine v_aload_n (n := 30) dX8_tick_29 rfl rfl ?_
      refine v_getf (n := 33) dX8_tick_30 rfl fl_X8_9 zokc_10 rfl ?_
      refine v_iload_n (n := 34) dX8_tick_33 rfl rfl ?_
      refine v_bipush (n := 36) (x := nI 6) dX8_tick_34 rfl (by decide) ?_
      refine v_iadd (n := 37) dX8_tick_36 rfl ?_
      refine v_top (y := nI (212 + 10 * i1 + 6)) (nI_add (212 + 10 * i1) 6) ?_
      refine v_dup2 (n := 38) dX8_tick_37 rfl rfl rfl ?_
      obtain ⟨hf2, h⟩ := h
      refine v_iald (n := 39) (j := (212 + 10 * i1 + 6)) dX8_tick_38 rfl zokc_26 (by decide) rfl rfl hf2 (rfl) ?_
      refine v_aload_n (n := 40) dX8_tick_39 rfl rfl ?_
      refine v_aload_n (n := 41) dX8_tick_40 rfl rfl ?_
      refine v_getf (n := 44) dX8_tick_41 rfl fl_X8_9 zokc_10 rfl ?_
      refine v_iload_n (n := 45) dX8_tick_44 rfl rfl ?_
      refine v_iconst (n := 46) (x := nI 5) dX8_tick_45 rfl (by decide) ?_
      refine v_iadd (n := 47) dX8_tick_46 rfl ?_
      refine v_top (y := nI (212 + 10 * i1 + 5)) (nI_add (212 + 10 * i1) 5) ?_
      obtain ⟨hf3, h⟩ := h
      refine v_iald (n := 48) (j := (212 + 10 * i1 + 5)) dX8_tick_47 rfl zokc_26 (by decide) rfl rfl hf3 (rfl) ?_
      obtain ⟨j1, ej1, hj1, h⟩ := h
      refine v_callV (n := 51) (k := 10) (b := 0) (i := 0) (As := [.int (μ 26 0 0 (212 + 10 * i1 + 5))]) (rest := [.int (μ 26 0 0 (212 + 10 * i1 + 6)), .int (nI (212 + 10 * i1 + 6)), .ref (zad G.1 26 0 0)]) dX8_tick_48 rfl lk_X8_132 rfl rfl (Nat.le_of_ble_eq_true rfl) ⟨Nat.le_of_ble_eq_true rfl, Nat.le_of_ble_eq_true rfl, Nat.le_of_ble_eq_true rfl, Nat.le_of_ble_eq_true rfl⟩ zokc_10 (s_X8_stepOf G (μ 26 0 0 (212 + 10 * i1 + 5)) j1 ej1 hj1 μ) (fun v μ9 hp => ?_) (fun _ _ hp => False.elim hp)
      rw [hp.1, hp.2]
      refine v_norm (st' := [.int (nI 2 - msf μ j1), .int (μ 26 0 0 (212 + 10 * i1 + 6)), .int (nI (212 + 10 * i1 + 6)), .ref (zad G.1 26 0 0)]) (cells' := 0) (slots' := 0) rfl rfl rfl ?_
      refine v_isub (n := 52) dX8_tick_51 rfl ?_
      refine v_iast (n := 53) (j := (212 + 10 * i1 + 6)) dX8_tick_52 rfl zokc_26 (by decide) (by decide) rfl rfl hf2 (fun _ => rfl) ?_
      refine v_aload_n (n := 54) dX8_tick_53 rfl rfl ?_
      refine v_getf (n := 57) dX8_tick_54 rfl fl_X8_9 zokc_10 rfl ?_
      refine v_iload_n (n := 58) dX8_tick_57 rfl rfl ?_
      refine v_bipush (n := 60) (x := nI 6) dX8_tick_58 rfl (by decide) ?_
      refine v_iadd (n := 61) dX8_tick_60 rfl ?_
      refine v_top (y := nI (212 + 10 * i1 + 6)) (nI_add (212 + 10 * i1) 6) ?_
      refine v_iald (n := 62) (j := (212 + 10 * i1 + 6)) dX8_tick_61 rfl zokc_26 (by decide) rfl rfl hf2 (congrArg Value.int (up_self _ _ _ _ _ _)) ?_
      refine v_if_gt (n := 65) (t := 88) dX8_tick_62 rfl (by decide) (fun hq => ?_) (fun hq => ?_)
      · replace h := h.1 hq
        refine v_iinc (n := 91) (x := nI i1) (y := nI (i1 + 1)) (L' := [(0, .ref (zad G.1 10 0 0)), (1, .int (nI (i1 + 1))), (2, .int (nI (212 + 10 * i1)))]) dX8_tick_88 rfl rfl (nI_1 i1) (by decide) rfl ?_
        refine v_goto (n := 2) dX8_tick_91 (by decide) ?_
        exact v_pick [0, 1] rfl h
      · replace h := h.2 hq
        refine v_aload_n (n := 66) dX8_tick_65 rfl rfl ?_
        refine v_iload_n (n := 67) dX8_tick_66 rfl rfl ?_
        refine v_aload_n (n := 68) dX8_tick_67 rfl rfl ?_
        refine v_getf (n := 71) dX8_tick_68 rfl fl_X8_9 zokc_10 rfl ?_
        refine v_aload_n (n := 72) dX8_tick_71 rfl rfl ?_
        refine v_getf (n := 75) dX8_tick_72 rfl fl_X8_9 zokc_10 rfl ?_
        refine v_iload_n (n := 76) dX8_tick_75 rfl rfl ?_
        refine v_iconst (n := 77) (x := nI 5) dX8_tick_76 rfl (by decide) ?_
        refine v_iadd (n := 78) dX8_tick_77 rfl ?_
        refine v_top (y := nI (212 + 10 * i1 + 5)) (nI_add (212 + 10 * i1) 5) ?_
        refine v_iald (n := 79) (j := (212 + 10 * i1 + 5)) dX8_tick_78 rfl zokc_26 (by decide) rfl rfl hf3 (rfl) ?_
        refine v_callS (n := 82) (As := [.int ((up μ 26 0 0 (212 + 10 * i1 + 6) ((μ 26 0 0 (212 + 10 * i1 + 6)) - (nI 2 - msf μ j1))) 26 0 0 (212 + 10 * i1 + 5))]) (rest := [.ref (zad G.1 26 0 0), .int (nI i1), .ref (zad G.1 10 0 0)]) dX8_tick_79 rfl lk_X8_51 rfl rfl (Nat.le_of_ble_eq_true rfl) ⟨Nat.le_of_ble_eq_true rfl, Nat.le_of_ble_eq_true rfl, Nat.le_of_ble_eq_true rfl, Nat.le_of_ble_eq_true rfl⟩ (s_X8_lift0 G ((up μ 26 0 0 (212 + 10 * i1 + 6) ((μ 26 0 0 (212 + 10 * i1 + 6)) - (nI 2 - msf μ j1))) 26 0 0 (212 + 10 * i1 + 5)) (up μ 26 0 0 (212 + 10 * i1 + 6) ((μ 26 0 0 (212 + 10 * i1 + 6)) - (nI 2 - msf μ j1)))) (fun v μ9 hp => ?_) (fun _ _ hp => False.elim hp)
        rw [hp.1, hp.2]
        refine v_norm (st' := [.int (nI 6 + nI 21 * ((up μ 26 0 0 (212 + 10 * i1 + 6) ((μ 26 0 0 (212 + 10 * i1 + 6)) - (nI 2 - msf μ j1))) 26 0 0 (212 + 10 * i1 + 5))), .ref (zad G.1 26 0 0), .int (nI i1), .ref (zad G.1 10 0 0)]) (cells' := 0) (slots' := 0) rfl rfl rfl ?_
        refine v_iconst (n := 83) (x := nI 1) dX8_tick_82 rfl (by decide) ?_
        refine v_iadd (n := 84) dX8_tick_83 rfl ?_
        obtain ⟨j2, ej2, hj2, h⟩ := h
        refine v_iald (n := 85) (j := j2) dX8_tick_84 rfl zokc_26 (by decide) rfl ej2 hj2 (rfl) ?_
        refine v_callV (n := 88) (k := 10) (b := 0) (i := 0) (As := [.int (nI i1), .int ((up μ 26 0 0 (212 + 10 * i1 + 6) ((μ 26 0 0 (212 + 10 * i1 + 6)) - (nI 2 - msf μ j1))) 26 0 0 j2)]) (rest := []) dX8_tick_85 rfl lk_X8_135 rfl rfl (Nat.le_of_ble_eq_true rfl) ⟨Nat.le_of_ble_eq_true rfl, Nat.le_of_ble_eq_true rfl, Nat.le_of_ble_eq_true rfl, Nat.le_of_ble_eq_true rfl⟩ zokc_10 h (fun v μ1 h => ?_) (fun _ _ hp => False.elim hp)
        obtain ⟨rfl, h⟩ := h
        refine v_norm (st' := []) (cells' := 0) (slots' := 0) rfl rfl rfl ?_
        refine v_iinc (n := 91) (x := nI i1) (y := nI (i1 + 1)) (L' := [(0, .ref (zad G.1 10 0 0)), (1, .int (nI (i1 + 1))), (2, .int (nI (212 + 10 * i1)))]) dX8_tick_88 rfl rfl (nI_1 i1) (by decide) rfl ?_
        refine v_goto (n := 2) dX8_tick_91 (by decide) ?_
        exact v_pick [0, 1] rfl h

set_option maxRecDepth 20000 in
set_option maxHeartbeats 4000000 in
theorem wX8_tick_96 (G : Gl) {P : Option Value → St → Prop} {X : String → St → Prop} (i1 : Nat) (μ : St)
    (h : ((μ 26 0 0 5 ≤ nI i1 → VL G mX8_tick P X 179 [(0, .ref (zad G.1 10 0 0)), (1, .int (nI 0))] [] μ) ∧ (¬ μ 26 0 0 5 ≤ nI i1 → 212 + 10 * i1 + 4 < 372 ∧ ((¬ μ 26 0 0 (212 + 10 * i1 + 4) = nI 3 → VL G mX8_tick P X 96 [(0, .ref (zad G.1 10 0 0)), (1, .int (nI (i1 + 1)))] [] μ) ∧ (μ 26 0 0 (212 + 10 * i1 + 4) = nI 3 → 212 + 10 * i1 + 6 < 372 ∧ ((¬ (μ 26 0 0 (212 + 10 * i1 + 6)) - (nI 1) = 0 → VL G mX8_tick P X 96 [(0, .ref (zad G.1 10 0 0)), (1, .int (nI (i1 + 1)))] [] (up μ 26 0 0 (212 + 10 * i1 + 6) ((μ 26 0 0 (212 + 10 * i1 + 6)) - (nI 1)))) ∧ ((μ 26 0 0 (212 + 10 * i1 + 6)) - (nI 1) = 0 → 212 + 10 * i1 + 5 < 372 ∧ ∃ j1 : Nat, (nI 132 + nI 8 * ((up μ 26 0 0 (212 + 10 * i1 + 6) ((μ 26 0 0 (212 + 10 * i1 + 6)) - (nI 1))) 26 0 0 (212 + 10 * i1 + 5))) + (nI 1) = nI j1 ∧ j1 < 372 ∧ Con G mX8_comesTo [.ref (zad G.1 10 0 0), .int (nI i1), .int ((up μ 26 0 0 (212 + 10 * i1 + 6) ((μ 26 0 0 (212 + 10 * i1 + 6)) - (nI 1))) 26 0 0 j1)] (up μ 26 0 0 (212 + 10 * i1 + 6) ((μ 26 0 0 (212 + 10 * i1 + 6)) - (nI 1))) (fun v μ1 => v = none ∧ VL G mX8_tick P X 96 [(0, .ref (zad G.1 10 0 0)), (1, .int (nI (i1 + 1)))] [] μ1) noX))))))) :
    VL G mX8_tick P X 96 [(0, .ref (zad G.1 10 0 0)), (1, .int (nI i1))] [] μ := by
  refine v_iload_n (n := 97) dX8_tick_96 rfl rfl ?_
  refine v_aload_n (n := 98) dX8_tick_97 rfl rfl ?_
  refine v_getf (n := 101) dX8_tick_98 rfl fl_X8_9 zokc_10 rfl ?_
  refine v_iconst (n := 102) (x := nI 5) dX8_tick_101 rfl (by decide) ?_
  refine v_iald (n := 103) (j := 5) dX8_tick_102 rfl zokc_26 (by decide) rfl rfl (by decide) (rfl) ?_
  refine v_icmp_ge (n := 106) (t := 177) dX8_tick_103 rfl (by decide) (fun hq => ?_) (fun hq => ?_)
  · replace h := h.1 hq
    refine v_iconst (n := 178) (x := nI 0) dX8_tick_177 rfl (by decide) ?_
    refine v_istore_n (n := 179) (L' := [(0, .ref (zad G.1 10 0 0)), (1, .int (nI 0))]) dX8_tick_178 rfl (by decide) rfl ?_
    exact h
  · replace h := h.2 hq
    refine v_iload_n (n := 107) dX8_tick_106 rfl rfl ?_
    refine v_callS (n := 110) (As := [.int (nI i1)]) (rest := []) dX8_tick_107 rfl lk_X8_71 rfl rfl (Nat.le_of_ble_eq_true rfl) ⟨Nat.le_of_ble_eq_true rfl, Nat.le_of_ble_eq_true rfl, Nat.le_of_ble_eq_true rfl, Nat.le_of_ble_eq_true rfl⟩ (s_X8_guest0N G i1 μ) (fun v μ9 hp => ?_) (fun _ _ hp => False.elim hp)
    rw [hp.1, hp.2]
    refine v_norm (st' := [.int (nI (212 + 10 * i1))]) (cells' := 0) (slots' := 0) rfl rfl rfl ?_
    refine v_istore_n (n := 111) (L' := [(0, .ref (zad G.1 10 0 0)), (1, .int (nI i1)), (2, .int (nI (212 + 10 * i1)))]) dX8_tick_110 rfl (by decide) rfl ?_
    refine v_aload_n (n := 112) dX8_tick_111 rfl rfl ?_
    refine v_getf (n := 115) dX8_tick_112 rfl fl_X8_9 zokc_10 rfl ?_
    refine v_iload_n (n := 116) dX8_tick_115 rfl rfl ?_
    refine v_iconst (n := 117) (x := nI 4) dX8_tick_116 rfl (by decide) ?_
    refine v_iadd (n := 118) dX8_tick_117 rfl ?_
    refine v_top (y := nI (212 + 10 * i1 + 4)) (nI_add (212 + 10 * i1) 4) ?_
    obtain ⟨hf1, h⟩ := h
    refine v_iald (n := 119) (j := (212 + 10 * i1 + 4)) dX8_tick_118 rfl zokc_26 (by decide) rfl rfl hf1 (rfl) ?_
    refine v_iconst (n := 120) (x := nI 3) dX8_tick_119 rfl (by decide) ?_
    refine v_icmp_ne (n := 123) (t := 171) dX8_tick_120 rfl (by decide) (fun hq => ?_) (fun hq => ?_)
    · replace h := h.1 hq
      refine v_iinc (n := 174) (x := nI i1) (y := nI (i1 + 1)) (L' := [(0, .ref (zad G.1 10 0 0)), (1, .int (nI (i1 + 1))), (2, .int (nI (212 + 10 * i1)))]) dX8_tick_171 rfl rfl (nI_1 i1) (by decide) rfl ?_
      refine v_goto (n := 96) dX8_tick_174 (by decide) ?_
      exact v_pick [0, 1] rfl h
    · replace h := h.2 hq
      refine v_aload_n (n := 124) dX8_tick_123 rfl rfl ?_
      refine v_getf (n := 127) dX8_tick_124 rfl fl_X8_9 zokc_10 rfl ?_
      refine v_iload_n (n := 128) dX8_tick_127 rfl rfl ?_
      refine v_bipush (n := 130) (x := nI 6) dX8_tick_128 rfl (by decide) ?_
      refine v_iadd (n := 131) dX8_tick_130 rfl ?_
      refine v_top (y := nI (212 + 10 * i1 + 6)) (nI_add (212 + 10 * i1) 6) ?_
      refine v_dup2 (n := 132) dX8_tick_131 rfl rfl rfl ?_
      obtain ⟨hf2, h⟩ := h
      refine v_iald (n := 133) (j := (212 + 10 * i1 + 6)) dX8_tick_132 rfl zokc_26 (by decide) rfl rfl hf2 (rfl) ?_
      refine v_iconst (n := 134) (x := nI 1) dX8_tick_133 rfl (by decide) ?_
      refine v_isub (n := 135) dX8_tick_134 rfl ?_
      refine v_iast (n := 136) (j := (212 + 10 * i1 + 6)) dX8_tick_135 rfl zokc_26 (by decide) (by decide) rfl rfl hf2 (fun _ => rfl) ?_
      refine v_aload_n (n := 137) dX8_tick_136 rfl rfl ?_
      refine v_getf (n := 140) dX8_tick_137 rfl fl_X8_9 zokc_10 rfl ?_
      refine v_iload_n (n := 141) dX8_tick_140 rfl rfl ?_
      refine v_bipush (n := 143) (x := nI 6) dX8_tick_141 rfl (by decide) ?_
      refine v_iadd (n := 144) dX8_tick_143 rfl ?_
      refine v_top (y := nI (212 + 10 * i1 + 6)) (nI_add (212 + 10 * i1) 6) ?_
      refine v_iald (n := 145) (j := (212 + 10 * i1 + 6)) dX8_tick_144 rfl zokc_26 (by decide) rfl rfl hf2 (congrArg Value.int (up_self _ _ _ _ _ _)) ?_
      refine v_if_ne (n := 148) (t := 171) dX8_tick_145 rfl (by decide) (fun hq => ?_) (fun hq => ?_)
      · replace h := h.1 hq
        refine v_iinc (n := 174) (x := nI i1) (y := nI (i1 + 1)) (L' := [(0, .ref (zad G.1 10 0 0)), (1, .int (nI (i1 + 1))), (2, .int (nI (212 + 10 * i1)))]) dX8_tick_171 rfl rfl (nI_1 i1) (by decide) rfl ?_
        refine v_goto (n := 96) dX8_tick_174 (by decide) ?_
        exact v_pick [0, 1] rfl h
      · replace h := h.2 hq
        refine v_aload_n (n := 149) dX8_tick_148 rfl rfl ?_
        refine v_iload_n (n := 150) dX8_tick_149 rfl rfl ?_
        refine v_aload_n (n := 151) dX8_tick_150 rfl rfl ?_
        refine v_getf (n := 154) dX8_tick_151 rfl fl_X8_9 zokc_10 rfl ?_
        refine v_aload_n (n := 155) dX8_tick_154 rfl rfl ?_
        refine v_getf (n := 158) dX8_tick_155 rfl fl_X8_9 zokc_10 rfl ?_
        refine v_iload_n (n := 159) dX8_tick_158 rfl rfl ?_
        refine v_iconst (n := 160) (x := nI 5) dX8_tick_159 rfl (by decide) ?_
        refine v_iadd (n := 161) dX8_tick_160 rfl ?_
        refine v_top (y := nI (212 + 10 * i1 + 5)) (nI_add (212 + 10 * i1) 5) ?_
        obtain ⟨hf3, h⟩ := h
        refine v_iald (n := 162) (j := (212 + 10 * i1 + 5)) dX8_tick_161 rfl zokc_26 (by decide) rfl rfl hf3 (rfl) ?_
        refine v_callS (n := 165) (As := [.int ((up μ 26 0 0 (212 + 10 * i1 + 6) ((μ 26 0 0 (212 + 10 * i1 + 6)) - (nI 1))) 26 0 0 (212 + 10 * i1 + 5))]) (rest := [.ref (zad G.1 26 0 0), .int (nI i1), .ref (zad G.1 10 0 0)]) dX8_tick_162 rfl lk_X8_68 rfl rfl (Nat.le_of_ble_eq_true rfl) ⟨Nat.le_of_ble_eq_true rfl, Nat.le_of_ble_eq_true rfl, Nat.le_of_ble_eq_true rfl, Nat.le_of_ble_eq_true rfl⟩ (s_X8_piste0 G ((up μ 26 0 0 (212 + 10 * i1 + 6) ((μ 26 0 0 (212 + 10 * i1 + 6)) - (nI 1))) 26 0 0 (212 + 10 * i1 + 5)) (up μ 26 0 0 (212 + 10 * i1 + 6) ((μ 26 0 0 (212 + 10 * i1 + 6)) - (nI 1)))) (fun v μ9 hp => ?_) (fun _ _ hp => False.elim hp)
        rw [hp.1, hp.2]
        refine v_norm (st' := [.int (nI 132 + nI 8 * ((up μ 26 0 0 (212 + 10 * i1 + 6) ((μ 26 0 0 (212 + 10 * i1 + 6)) - (nI 1))) 26 0 0 (212 + 10 * i1 + 5))), .ref (zad G.1 26 0 0), .int (nI i1), .ref (zad G.1 10 0 0)]) (cells' := 0) (slots' := 0) rfl rfl rfl ?_
        refine v_iconst (n := 166) (x := nI 1) dX8_tick_165 rfl (by decide) ?_
        refine v_iadd (n := 167) dX8_tick_166 rfl ?_
        obtain ⟨j1, ej1, hj1, h⟩ := h
        refine v_iald (n := 168) (j := j1) dX8_tick_167 rfl zokc_26 (by decide) rfl ej1 hj1 (rfl) ?_
        refine v_callV (n := 171) (k := 10) (b := 0) (i := 0) (As := [.int (nI i1), .int ((up μ 26 0 0 (212 + 10 * i1 + 6) ((μ 26 0 0 (212 + 10 * i1 + 6)) - (nI 1))) 26 0 0 j1)]) (rest := []) dX8_tick_168 rfl lk_X8_135 rfl rfl (Nat.le_of_ble_eq_true rfl) ⟨Nat.le_of_ble_eq_true rfl, Nat.le_of_ble_eq_true rfl, Nat.le_of_ble_eq_true rfl, Nat.le_of_ble_eq_true rfl⟩ zokc_10 h (fun v μ1 h => ?_) (fun _ _ hp => False.elim hp)
        obtain ⟨rfl, h⟩ := h
        refine v_norm (st' := []) (cells' := 0) (slots' := 0) rfl rfl rfl ?_
        refine v_iinc (n := 174) (x := nI i1) (y := nI (i1 + 1)) (L' := [(0, .ref (zad G.1 10 0 0)), (1, .int (nI (i1 + 1))), (2, .int (nI (212 + 10 * i1)))]) dX8_tick_171 rfl rfl (nI_1 i1) (by decide) rfl ?_
        refine v_goto (n := 96) dX8_tick_174 (by decide) ?_
        exact v_pick [0, 1] rfl h

set_option maxRecDepth 20000 in
set_option maxHeartbeats 4000000 in
theorem wX8_tick_179 (G : Gl) {P : Option Value → St → Prop} {X : String → St → Prop} (i1 : Nat) (μ : St)
    (h : ((μ 26 0 0 3 ≤ nI i1 → VL G mX8_tick P X 249 [(0, .ref (zad G.1 10 0 0)), (1, .int (nI 0))] [] μ) ∧ (¬ μ 26 0 0 3 ≤ nI i1 → 6 + 21 * i1 + 7 < 372 ∧ i1 < 6 ∧ VL G mX8_tick P X 211 [(0, .ref (zad G.1 10 0 0)), (1, .int (nI i1)), (2, .int (nI (6 + 21 * i1)))] [] (up μ 26 0 0 (6 + 21 * i1 + 7) ((μ 26 0 0 (6 + 21 * i1 + 7)) + (nI 2 - msf μ i1)))))) :
    VL G mX8_tick P X 179 [(0, .ref (zad G.1 10 0 0)), (1, .int (nI i1))] [] μ := by
  refine v_iload_n (n := 180) dX8_tick_179 rfl rfl ?_
  refine v_aload_n (n := 181) dX8_tick_180 rfl rfl ?_
  refine v_getf (n := 184) dX8_tick_181 rfl fl_X8_9 zokc_10 rfl ?_
  refine v_iconst (n := 185) (x := nI 3) dX8_tick_184 rfl (by decide) ?_
  refine v_iald (n := 186) (j := 3) dX8_tick_185 rfl zokc_26 (by decide) rfl rfl (by decide) (rfl) ?_
  refine v_icmp_ge (n := 189) (t := 247) dX8_tick_186 rfl (by decide) (fun hq => ?_) (fun hq => ?_)
  · replace h := h.1 hq
    refine v_iconst (n := 248) (x := nI 0) dX8_tick_247 rfl (by decide) ?_
    refine v_istore_n (n := 249) (L' := [(0, .ref (zad G.1 10 0 0)), (1, .int (nI 0))]) dX8_tick_248 rfl (by decide) rfl ?_
    exact h
  · replace h := h.2 hq
    refine v_iload_n (n := 190) dX8_tick_189 rfl rfl ?_
    refine v_callS (n := 193) (As := [.int (nI i1)]) (rest := []) dX8_tick_190 rfl lk_X8_51 rfl rfl (Nat.le_of_ble_eq_true rfl) ⟨Nat.le_of_ble_eq_true rfl, Nat.le_of_ble_eq_true rfl, Nat.le_of_ble_eq_true rfl, Nat.le_of_ble_eq_true rfl⟩ (s_X8_lift0N G i1 μ) (fun v μ9 hp => ?_) (fun _ _ hp => False.elim hp)
    rw [hp.1, hp.2]
    refine v_norm (st' := [.int (nI (6 + 21 * i1))]) (cells' := 0) (slots' := 0) rfl rfl rfl ?_
    refine v_istore_n (n := 194) (L' := [(0, .ref (zad G.1 10 0 0)), (1, .int (nI i1)), (2, .int (nI (6 + 21 * i1)))]) dX8_tick_193 rfl (by decide) rfl ?_
    refine v_aload_n (n := 195) dX8_tick_194 rfl rfl ?_
    refine v_getf (n := 198) dX8_tick_195 rfl fl_X8_9 zokc_10 rfl ?_
    refine v_iload_n (n := 199) dX8_tick_198 rfl rfl ?_
    refine v_bipush (n := 201) (x := nI 7) dX8_tick_199 rfl (by decide) ?_
    refine v_iadd (n := 202) dX8_tick_201 rfl ?_
    refine v_top (y := nI (6 + 21 * i1 + 7)) (nI_add (6 + 21 * i1) 7) ?_
    refine v_dup2 (n := 203) dX8_tick_202 rfl rfl rfl ?_
    obtain ⟨hf1, h⟩ := h
    refine v_iald (n := 204) (j := (6 + 21 * i1 + 7)) dX8_tick_203 rfl zokc_26 (by decide) rfl rfl hf1 (rfl) ?_
    refine v_aload_n (n := 205) dX8_tick_204 rfl rfl ?_
    refine v_iload_n (n := 206) dX8_tick_205 rfl rfl ?_
    obtain ⟨hf2, h⟩ := h
    refine v_callV (n := 209) (k := 10) (b := 0) (i := 0) (As := [.int (nI i1)]) (rest := [.int (μ 26 0 0 (6 + 21 * i1 + 7)), .int (nI (6 + 21 * i1 + 7)), .ref (zad G.1 26 0 0)]) dX8_tick_206 rfl lk_X8_132 rfl rfl (Nat.le_of_ble_eq_true rfl) ⟨Nat.le_of_ble_eq_true rfl, Nat.le_of_ble_eq_true rfl, Nat.le_of_ble_eq_true rfl, Nat.le_of_ble_eq_true rfl⟩ zokc_10 (s_X8_stepOf G (nI i1) i1 rfl hf2 μ) (fun v μ9 hp => ?_) (fun _ _ hp => False.elim hp)
    rw [hp.1, hp.2]
    refine v_norm (st' := [.int (nI 2 - msf μ i1), .int (μ 26 0 0 (6 + 21 * i1 + 7)), .int (nI (6 + 21 * i1 + 7)), .ref (zad G.1 26 0 0)]) (cells' := 0) (slots' := 0) rfl rfl rfl ?_
    refine v_iadd (n := 210) dX8_tick_209 rfl ?_
    refine v_iast (n := 211) (j := (6 + 21 * i1 + 7)) dX8_tick_210 rfl zokc_26 (by decide) (by decide) rfl rfl hf1 (fun _ => rfl) ?_
    exact h

set_option maxRecDepth 20000 in
set_option maxHeartbeats 4000000 in
theorem wX8_tick_211 (G : Gl) {P : Option Value → St → Prop} {X : String → St → Prop} (n1 : Nat) (n2 : Nat) (μ : St)
    (h : n2 + 7 < 372 ∧ n2 + 3 < 372 ∧ ((μ 26 0 0 (n2 + 7) < (nI 2) * (μ 26 0 0 (n2 + 3)) → VL G mX8_tick P X 179 [(0, .ref (zad G.1 10 0 0)), (1, .int (nI (n1 + 1)))] [] μ) ∧ (¬ μ 26 0 0 (n2 + 7) < (nI 2) * (μ 26 0 0 (n2 + 3)) → Con G mX8_cabin [.ref (zad G.1 10 0 0), .int (nI n1)] μ (fun v μ1 => v = none ∧ VL G mX8_tick P X 211 [(0, .ref (zad G.1 10 0 0)), (1, .int (nI n1)), (2, .int (nI n2))] [] μ1) noX))) :
    VL G mX8_tick P X 211 [(0, .ref (zad G.1 10 0 0)), (1, .int (nI n1)), (2, .int (nI n2))] [] μ := by
  refine v_aload_n (n := 212) dX8_tick_211 rfl rfl ?_
  refine v_getf (n := 215) dX8_tick_212 rfl fl_X8_9 zokc_10 rfl ?_
  refine v_iload_n (n := 216) dX8_tick_215 rfl rfl ?_
  refine v_bipush (n := 218) (x := nI 7) dX8_tick_216 rfl (by decide) ?_
  refine v_iadd (n := 219) dX8_tick_218 rfl ?_
  refine v_top (y := nI (n2 + 7)) (nI_add n2 7) ?_
  obtain ⟨hf1, h⟩ := h
  refine v_iald (n := 220) (j := (n2 + 7)) dX8_tick_219 rfl zokc_26 (by decide) rfl rfl hf1 (rfl) ?_
  refine v_iconst (n := 221) (x := nI 2) dX8_tick_220 rfl (by decide) ?_
  refine v_aload_n (n := 222) dX8_tick_221 rfl rfl ?_
  refine v_getf (n := 225) dX8_tick_222 rfl fl_X8_9 zokc_10 rfl ?_
  refine v_iload_n (n := 226) dX8_tick_225 rfl rfl ?_
  refine v_iconst (n := 227) (x := nI 3) dX8_tick_226 rfl (by decide) ?_
  refine v_iadd (n := 228) dX8_tick_227 rfl ?_
  refine v_top (y := nI (n2 + 3)) (nI_add n2 3) ?_
  obtain ⟨hf2, h⟩ := h
  refine v_iald (n := 229) (j := (n2 + 3)) dX8_tick_228 rfl zokc_26 (by decide) rfl rfl hf2 (rfl) ?_
  refine v_imul (n := 230) dX8_tick_229 rfl ?_
  refine v_icmp_lt (n := 233) (t := 241) dX8_tick_230 rfl (by decide) (fun hq => ?_) (fun hq => ?_)
  · replace h := h.1 hq
    refine v_iinc (n := 244) (x := nI n1) (y := nI (n1 + 1)) (L' := [(0, .ref (zad G.1 10 0 0)), (1, .int (nI (n1 + 1))), (2, .int (nI n2))]) dX8_tick_241 rfl rfl (nI_1 n1) (by decide) rfl ?_
    refine v_goto (n := 179) dX8_tick_244 (by decide) ?_
    exact v_pick [0, 1] rfl h
  · replace h := h.2 hq
    refine v_aload_n (n := 234) dX8_tick_233 rfl rfl ?_
    refine v_iload_n (n := 235) dX8_tick_234 rfl rfl ?_
    refine v_callV (n := 238) (k := 10) (b := 0) (i := 0) (As := [.int (nI n1)]) (rest := []) dX8_tick_235 rfl lk_X8_139 rfl rfl (Nat.le_of_ble_eq_true rfl) ⟨Nat.le_of_ble_eq_true rfl, Nat.le_of_ble_eq_true rfl, Nat.le_of_ble_eq_true rfl, Nat.le_of_ble_eq_true rfl⟩ zokc_10 h (fun v μ1 h => ?_) (fun _ _ hp => False.elim hp)
    obtain ⟨rfl, h⟩ := h
    refine v_norm (st' := []) (cells' := 0) (slots' := 0) rfl rfl rfl ?_
    refine v_goto (n := 211) dX8_tick_238 (by decide) ?_
    exact h

set_option maxRecDepth 20000 in
set_option maxHeartbeats 4000000 in
theorem wX8_tick_249 (G : Gl) {P : Option Value → St → Prop} {X : String → St → Prop} (i1 : Nat) (μ : St)
    (h : ((μ 26 0 0 4 ≤ nI i1 → VL G mX8_tick P X 327 [(0, .ref (zad G.1 10 0 0)), (1, .int (nI 0))] [] μ) ∧ (¬ μ 26 0 0 4 ≤ nI i1 → 132 + 8 * i1 + 4 < 372 ∧ ((¬ μ 26 0 0 (132 + 8 * i1 + 4) = nI 2 → VL G mX8_tick P X 249 [(0, .ref (zad G.1 10 0 0)), (1, .int (nI (i1 + 1)))] [] μ) ∧ (μ 26 0 0 (132 + 8 * i1 + 4) = nI 2 → 132 + 8 * i1 + 6 < 372 ∧ ((¬ (μ 26 0 0 (132 + 8 * i1 + 6)) - (nI 1) = 0 → VL G mX8_tick P X 249 [(0, .ref (zad G.1 10 0 0)), (1, .int (nI (i1 + 1)))] [] (up μ 26 0 0 (132 + 8 * i1 + 6) ((μ 26 0 0 (132 + 8 * i1 + 6)) - (nI 1)))) ∧ ((μ 26 0 0 (132 + 8 * i1 + 6)) - (nI 1) = 0 → 132 + 8 * i1 + 5 < 372 ∧ VL G mX8_tick P X 249 [(0, .ref (zad G.1 10 0 0)), (1, .int (nI (i1 + 1)))] [] (up (up (up μ 26 0 0 (132 + 8 * i1 + 6) ((μ 26 0 0 (132 + 8 * i1 + 6)) - (nI 1))) 26 0 0 (132 + 8 * i1 + 4) (nI 0)) 26 0 0 (132 + 8 * i1 + 5) (nI 0))))))))) :
    VL G mX8_tick P X 249 [(0, .ref (zad G.1 10 0 0)), (1, .int (nI i1))] [] μ := by
  refine v_iload_n (n := 250) dX8_tick_249 rfl rfl ?_
  refine v_aload_n (n := 251) dX8_tick_250 rfl rfl ?_
  refine v_getf (n := 254) dX8_tick_251 rfl fl_X8_9 zokc_10 rfl ?_
  refine v_iconst (n := 255) (x := nI 4) dX8_tick_254 rfl (by decide) ?_
  refine v_iald (n := 256) (j := 4) dX8_tick_255 rfl zokc_26 (by decide) rfl rfl (by decide) (rfl) ?_
  refine v_icmp_ge (n := 259) (t := 325) dX8_tick_256 rfl (by decide) (fun hq => ?_) (fun hq => ?_)
  · replace h := h.1 hq
    refine v_iconst (n := 326) (x := nI 0) dX8_tick_325 rfl (by decide) ?_
    refine v_istore_n (n := 327) (L' := [(0, .ref (zad G.1 10 0 0)), (1, .int (nI 0))]) dX8_tick_326 rfl (by decide) rfl ?_
    exact h
  · replace h := h.2 hq
    refine v_iload_n (n := 260) dX8_tick_259 rfl rfl ?_
    refine v_callS (n := 263) (As := [.int (nI i1)]) (rest := []) dX8_tick_260 rfl lk_X8_68 rfl rfl (Nat.le_of_ble_eq_true rfl) ⟨Nat.le_of_ble_eq_true rfl, Nat.le_of_ble_eq_true rfl, Nat.le_of_ble_eq_true rfl, Nat.le_of_ble_eq_true rfl⟩ (s_X8_piste0N G i1 μ) (fun v μ9 hp => ?_) (fun _ _ hp => False.elim hp)
    rw [hp.1, hp.2]
    refine v_norm (st' := [.int (nI (132 + 8 * i1))]) (cells' := 0) (slots' := 0) rfl rfl rfl ?_
    refine v_istore_n (n := 264) (L' := [(0, .ref (zad G.1 10 0 0)), (1, .int (nI i1)), (2, .int (nI (132 + 8 * i1)))]) dX8_tick_263 rfl (by decide) rfl ?_
    refine v_aload_n (n := 265) dX8_tick_264 rfl rfl ?_
    refine v_getf (n := 268) dX8_tick_265 rfl fl_X8_9 zokc_10 rfl ?_
    refine v_iload_n (n := 269) dX8_tick_268 rfl rfl ?_
    refine v_iconst (n := 270) (x := nI 4) dX8_tick_269 rfl (by decide) ?_
    refine v_iadd (n := 271) dX8_tick_270 rfl ?_
    refine v_top (y := nI (132 + 8 * i1 + 4)) (nI_add (132 + 8 * i1) 4) ?_
    obtain ⟨hf1, h⟩ := h
    refine v_iald (n := 272) (j := (132 + 8 * i1 + 4)) dX8_tick_271 rfl zokc_26 (by decide) rfl rfl hf1 (rfl) ?_
    refine v_iconst (n := 273) (x := nI 2) dX8_tick_272 rfl (by decide) ?_
    refine v_icmp_ne (n := 276) (t := 319) dX8_tick_273 rfl (by decide) (fun hq => ?_) (fun hq => ?_)
    · replace h := h.1 hq
      refine v_iinc (n := 322) (x := nI i1) (y := nI (i1 + 1)) (L' := [(0, .ref (zad G.1 10 0 0)), (1, .int (nI (i1 + 1))), (2, .int (nI (132 + 8 * i1)))]) dX8_tick_319 rfl rfl (nI_1 i1) (by decide) rfl ?_
      refine v_goto (n := 249) dX8_tick_322 (by decide) ?_
      exact v_pick [0, 1] rfl h
    · replace h := h.2 hq
      refine v_aload_n (n := 277) dX8_tick_276 rfl rfl ?_
      refine v_getf (n := 280) dX8_tick_277 rfl fl_X8_9 zokc_10 rfl ?_
      refine v_iload_n (n := 281) dX8_tick_280 rfl rfl ?_
      refine v_bipush (n := 283) (x := nI 6) dX8_tick_281 rfl (by decide) ?_
      refine v_iadd (n := 284) dX8_tick_283 rfl ?_
      refine v_top (y := nI (132 + 8 * i1 + 6)) (nI_add (132 + 8 * i1) 6) ?_
      refine v_dup2 (n := 285) dX8_tick_284 rfl rfl rfl ?_
      obtain ⟨hf2, h⟩ := h
      refine v_iald (n := 286) (j := (132 + 8 * i1 + 6)) dX8_tick_285 rfl zokc_26 (by decide) rfl rfl hf2 (rfl) ?_
      refine v_iconst (n := 287) (x := nI 1) dX8_tick_286 rfl (by decide) ?_
      refine v_isub (n := 288) dX8_tick_287 rfl ?_
      refine v_iast (n := 289) (j := (132 + 8 * i1 + 6)) dX8_tick_288 rfl zokc_26 (by decide) (by decide) rfl rfl hf2 (fun _ => rfl) ?_
      refine v_aload_n (n := 290) dX8_tick_289 rfl rfl ?_
      refine v_getf (n := 293) dX8_tick_290 rfl fl_X8_9 zokc_10 rfl ?_
      refine v_iload_n (n := 294) dX8_tick_293 rfl rfl ?_
      refine v_bipush (n := 296) (x := nI 6) dX8_tick_294 rfl (by decide) ?_
      refine v_iadd (n := 297) dX8_tick_296 rfl ?_
      refine v_top (y := nI (132 + 8 * i1 + 6)) (nI_add (132 + 8 * i1) 6) ?_
      refine v_iald (n := 298) (j := (132 + 8 * i1 + 6)) dX8_tick_297 rfl zokc_26 (by decide) rfl rfl hf2 (congrArg Value.int (up_self _ _ _ _ _ _)) ?_
      refine v_if_ne (n := 301) (t := 319) dX8_tick_298 rfl (by decide) (fun hq => ?_) (fun hq => ?_)
      · replace h := h.1 hq
        refine v_iinc (n := 322) (x := nI i1) (y := nI (i1 + 1)) (L' := [(0, .ref (zad G.1 10 0 0)), (1, .int (nI (i1 + 1))), (2, .int (nI (132 + 8 * i1)))]) dX8_tick_319 rfl rfl (nI_1 i1) (by decide) rfl ?_
        refine v_goto (n := 249) dX8_tick_322 (by decide) ?_
        exact v_pick [0, 1] rfl h
      · replace h := h.2 hq
        refine v_aload_n (n := 302) dX8_tick_301 rfl rfl ?_
        refine v_getf (n := 305) dX8_tick_302 rfl fl_X8_9 zokc_10 rfl ?_
        refine v_iload_n (n := 306) dX8_tick_305 rfl rfl ?_
        refine v_iconst (n := 307) (x := nI 4) dX8_tick_306 rfl (by decide) ?_
        refine v_iadd (n := 308) dX8_tick_307 rfl ?_
        refine v_top (y := nI (132 + 8 * i1 + 4)) (nI_add (132 + 8 * i1) 4) ?_
        refine v_iconst (n := 309) (x := nI 0) dX8_tick_308 rfl (by decide) ?_
        refine v_iast (n := 310) (j := (132 + 8 * i1 + 4)) dX8_tick_309 rfl zokc_26 (by decide) (by decide) rfl rfl hf1 (fun _ => rfl) ?_
        refine v_aload_n (n := 311) dX8_tick_310 rfl rfl ?_
        refine v_getf (n := 314) dX8_tick_311 rfl fl_X8_9 zokc_10 rfl ?_
        refine v_iload_n (n := 315) dX8_tick_314 rfl rfl ?_
        refine v_iconst (n := 316) (x := nI 5) dX8_tick_315 rfl (by decide) ?_
        refine v_iadd (n := 317) dX8_tick_316 rfl ?_
        refine v_top (y := nI (132 + 8 * i1 + 5)) (nI_add (132 + 8 * i1) 5) ?_
        refine v_iconst (n := 318) (x := nI 0) dX8_tick_317 rfl (by decide) ?_
        obtain ⟨hf3, h⟩ := h
        refine v_iast (n := 319) (j := (132 + 8 * i1 + 5)) dX8_tick_318 rfl zokc_26 (by decide) (by decide) rfl rfl hf3 (fun _ => rfl) ?_
        refine v_iinc (n := 322) (x := nI i1) (y := nI (i1 + 1)) (L' := [(0, .ref (zad G.1 10 0 0)), (1, .int (nI (i1 + 1))), (2, .int (nI (132 + 8 * i1)))]) dX8_tick_319 rfl rfl (nI_1 i1) (by decide) rfl ?_
        refine v_goto (n := 249) dX8_tick_322 (by decide) ?_
        exact v_pick [0, 1] rfl h

set_option maxRecDepth 20000 in
set_option maxHeartbeats 4000000 in
theorem wX8_tick_327 (G : Gl) {P : Option Value → St → Prop} {X : String → St → Prop} (i1 : Nat) (μ : St)
    (h : ((μ 26 0 0 4 ≤ nI i1 → P none (up μ 26 0 0 1 ((μ 26 0 0 1) + (nI 1)))) ∧ (¬ μ 26 0 0 4 ≤ nI i1 → 132 + 8 * i1 + 4 < 372 ∧ ((¬ μ 26 0 0 (132 + 8 * i1 + 4) = 0 → VL G mX8_tick P X 327 [(0, .ref (zad G.1 10 0 0)), (1, .int (nI (i1 + 1)))] [] (up μ 26 0 0 (132 + 8 * i1 + 4) (μ 26 0 0 (132 + 8 * i1 + 4)))) ∧ (μ 26 0 0 (132 + 8 * i1 + 4) = 0 → 132 + 8 * i1 + 5 < 372 ∧ ((μ 26 0 0 (132 + 8 * i1 + 5) < nI 20 → VL G mX8_tick P X 327 [(0, .ref (zad G.1 10 0 0)), (1, .int (nI (i1 + 1)))] [] (up μ 26 0 0 (132 + 8 * i1 + 4) (μ 26 0 0 (132 + 8 * i1 + 4)))) ∧ (¬ μ 26 0 0 (132 + 8 * i1 + 5) < nI 20 → VL G mX8_tick P X 327 [(0, .ref (zad G.1 10 0 0)), (1, .int (nI (i1 + 1)))] [] (up μ 26 0 0 (132 + 8 * i1 + 4) (nI 1))))))))) :
    VL G mX8_tick P X 327 [(0, .ref (zad G.1 10 0 0)), (1, .int (nI i1))] [] μ := by
  refine v_iload_n (n := 328) dX8_tick_327 rfl rfl ?_
  refine v_aload_n (n := 329) dX8_tick_328 rfl rfl ?_
  refine v_getf (n := 332) dX8_tick_329 rfl fl_X8_9 zokc_10 rfl ?_
  refine v_iconst (n := 333) (x := nI 4) dX8_tick_332 rfl (by decide) ?_
  refine v_iald (n := 334) (j := 4) dX8_tick_333 rfl zokc_26 (by decide) rfl rfl (by decide) (rfl) ?_
  refine v_icmp_ge (n := 337) (t := 392) dX8_tick_334 rfl (by decide) (fun hq => ?_) (fun hq => ?_)
  · replace h := h.1 hq
    refine v_aload_n (n := 393) dX8_tick_392 rfl rfl ?_
    refine v_getf (n := 396) dX8_tick_393 rfl fl_X8_9 zokc_10 rfl ?_
    refine v_iconst (n := 397) (x := nI 1) dX8_tick_396 rfl (by decide) ?_
    refine v_dup2 (n := 398) dX8_tick_397 rfl rfl rfl ?_
    refine v_iald (n := 399) (j := 1) dX8_tick_398 rfl zokc_26 (by decide) rfl rfl (by decide) (rfl) ?_
    refine v_iconst (n := 400) (x := nI 1) dX8_tick_399 rfl (by decide) ?_
    refine v_iadd (n := 401) dX8_tick_400 rfl ?_
    refine v_iast (n := 402) (j := 1) dX8_tick_401 rfl zokc_26 (by decide) (by decide) rfl rfl (by decide) (fun _ => rfl) ?_
    exact v_vret dX8_tick_402 rfl (Nat.le_of_ble_eq_true rfl) (Nat.le_of_ble_eq_true rfl) h
  · replace h := h.2 hq
    refine v_iload_n (n := 338) dX8_tick_337 rfl rfl ?_
    refine v_callS (n := 341) (As := [.int (nI i1)]) (rest := []) dX8_tick_338 rfl lk_X8_68 rfl rfl (Nat.le_of_ble_eq_true rfl) ⟨Nat.le_of_ble_eq_true rfl, Nat.le_of_ble_eq_true rfl, Nat.le_of_ble_eq_true rfl, Nat.le_of_ble_eq_true rfl⟩ (s_X8_piste0N G i1 μ) (fun v μ9 hp => ?_) (fun _ _ hp => False.elim hp)
    rw [hp.1, hp.2]
    refine v_norm (st' := [.int (nI (132 + 8 * i1))]) (cells' := 0) (slots' := 0) rfl rfl rfl ?_
    refine v_istore_n (n := 342) (L' := [(0, .ref (zad G.1 10 0 0)), (1, .int (nI i1)), (2, .int (nI (132 + 8 * i1)))]) dX8_tick_341 rfl (by decide) rfl ?_
    refine v_aload_n (n := 343) dX8_tick_342 rfl rfl ?_
    refine v_getf (n := 346) dX8_tick_343 rfl fl_X8_9 zokc_10 rfl ?_
    refine v_iload_n (n := 347) dX8_tick_346 rfl rfl ?_
    refine v_iconst (n := 348) (x := nI 4) dX8_tick_347 rfl (by decide) ?_
    refine v_iadd (n := 349) dX8_tick_348 rfl ?_
    refine v_top (y := nI (132 + 8 * i1 + 4)) (nI_add (132 + 8 * i1) 4) ?_
    refine v_aload_n (n := 350) dX8_tick_349 rfl rfl ?_
    refine v_getf (n := 353) dX8_tick_350 rfl fl_X8_9 zokc_10 rfl ?_
    refine v_iload_n (n := 354) dX8_tick_353 rfl rfl ?_
    refine v_iconst (n := 355) (x := nI 4) dX8_tick_354 rfl (by decide) ?_
    refine v_iadd (n := 356) dX8_tick_355 rfl ?_
    refine v_top (y := nI (132 + 8 * i1 + 4)) (nI_add (132 + 8 * i1) 4) ?_
    obtain ⟨hf1, h⟩ := h
    refine v_iald (n := 357) (j := (132 + 8 * i1 + 4)) dX8_tick_356 rfl zokc_26 (by decide) rfl rfl hf1 (rfl) ?_
    refine v_if_ne (n := 360) (t := 377) dX8_tick_357 rfl (by decide) (fun hq => ?_) (fun hq => ?_)
    · replace h := h.1 hq
      refine v_aload_n (n := 378) dX8_tick_377 rfl rfl ?_
      refine v_getf (n := 381) dX8_tick_378 rfl fl_X8_9 zokc_10 rfl ?_
      refine v_iload_n (n := 382) dX8_tick_381 rfl rfl ?_
      refine v_iconst (n := 383) (x := nI 4) dX8_tick_382 rfl (by decide) ?_
      refine v_iadd (n := 384) dX8_tick_383 rfl ?_
      refine v_top (y := nI (132 + 8 * i1 + 4)) (nI_add (132 + 8 * i1) 4) ?_
      refine v_iald (n := 385) (j := (132 + 8 * i1 + 4)) dX8_tick_384 rfl zokc_26 (by decide) rfl rfl hf1 (rfl) ?_
      refine v_iast (n := 386) (j := (132 + 8 * i1 + 4)) dX8_tick_385 rfl zokc_26 (by decide) (by decide) rfl rfl hf1 (fun _ => rfl) ?_
      refine v_iinc (n := 389) (x := nI i1) (y := nI (i1 + 1)) (L' := [(0, .ref (zad G.1 10 0 0)), (1, .int (nI (i1 + 1))), (2, .int (nI (132 + 8 * i1)))]) dX8_tick_386 rfl rfl (nI_1 i1) (by decide) rfl ?_
      refine v_goto (n := 327) dX8_tick_389 (by decide) ?_
      exact v_pick [0, 1] rfl h
    · replace h := h.2 hq
      refine v_aload_n (n := 361) dX8_tick_360 rfl rfl ?_
      refine v_getf (n := 364) dX8_tick_361 rfl fl_X8_9 zokc_10 rfl ?_
      refine v_iload_n (n := 365) dX8_tick_364 rfl rfl ?_
      refine v_iconst (n := 366) (x := nI 5) dX8_tick_365 rfl (by decide) ?_
      refine v_iadd (n := 367) dX8_tick_366 rfl ?_
      refine v_top (y := nI (132 + 8 * i1 + 5)) (nI_add (132 + 8 * i1) 5) ?_
      obtain ⟨hf2, h⟩ := h
      refine v_iald (n := 368) (j := (132 + 8 * i1 + 5)) dX8_tick_367 rfl zokc_26 (by decide) rfl rfl hf2 (rfl) ?_
      refine v_bipush (n := 370) (x := nI 20) dX8_tick_368 rfl (by decide) ?_
      refine v_icmp_lt (n := 373) (t := 377) dX8_tick_370 rfl (by decide) (fun hq => ?_) (fun hq => ?_)
      · replace h := h.1 hq
        refine v_aload_n (n := 378) dX8_tick_377 rfl rfl ?_
        refine v_getf (n := 381) dX8_tick_378 rfl fl_X8_9 zokc_10 rfl ?_
        refine v_iload_n (n := 382) dX8_tick_381 rfl rfl ?_
        refine v_iconst (n := 383) (x := nI 4) dX8_tick_382 rfl (by decide) ?_
        refine v_iadd (n := 384) dX8_tick_383 rfl ?_
        refine v_top (y := nI (132 + 8 * i1 + 4)) (nI_add (132 + 8 * i1) 4) ?_
        refine v_iald (n := 385) (j := (132 + 8 * i1 + 4)) dX8_tick_384 rfl zokc_26 (by decide) rfl rfl hf1 (rfl) ?_
        refine v_iast (n := 386) (j := (132 + 8 * i1 + 4)) dX8_tick_385 rfl zokc_26 (by decide) (by decide) rfl rfl hf1 (fun _ => rfl) ?_
        refine v_iinc (n := 389) (x := nI i1) (y := nI (i1 + 1)) (L' := [(0, .ref (zad G.1 10 0 0)), (1, .int (nI (i1 + 1))), (2, .int (nI (132 + 8 * i1)))]) dX8_tick_386 rfl rfl (nI_1 i1) (by decide) rfl ?_
        refine v_goto (n := 327) dX8_tick_389 (by decide) ?_
        exact v_pick [0, 1] rfl h
      · replace h := h.2 hq
        refine v_iconst (n := 374) (x := nI 1) dX8_tick_373 rfl (by decide) ?_
        refine v_goto (n := 385) dX8_tick_374 (by decide) ?_
        refine v_iast (n := 386) (j := (132 + 8 * i1 + 4)) dX8_tick_385 rfl zokc_26 (by decide) (by decide) rfl rfl hf1 (fun _ => rfl) ?_
        refine v_iinc (n := 389) (x := nI i1) (y := nI (i1 + 1)) (L' := [(0, .ref (zad G.1 10 0 0)), (1, .int (nI (i1 + 1))), (2, .int (nI (132 + 8 * i1)))]) dX8_tick_386 rfl rfl (nI_1 i1) (by decide) rfl ?_
        refine v_goto (n := 327) dX8_tick_389 (by decide) ?_
        exact v_pick [0, 1] rfl h

set_option maxRecDepth 20000 in
set_option maxHeartbeats 4000000 in
theorem wX8_ticks (G : Gl) {P : Option Value → St → Prop} {X : String → St → Prop} (x1 : Int32) (μ : St)
    (h : VL G mX8_ticks P X 7 [(0, .ref (zad G.1 10 0 0)), (1, .int x1), (2, .int (nI 0))] [] (up μ 10 0 0 7 (nI 0))) :
    Con G mX8_ticks [.ref (zad G.1 10 0 0), .int x1] μ P X := by
  refine con_of pn_X8 rfl (Nat.le_of_ble_eq_true rfl) ?_
  show VL G mX8_ticks P X 0 [(0, .ref (zad G.1 10 0 0)), (1, .int x1)] [] μ
  refine v_aload_n (n := 1) dX8_ticks_0 rfl rfl ?_
  refine v_iconst (n := 2) (x := nI 0) dX8_ticks_1 rfl (by decide) ?_
  refine v_putf (n := 5) dX8_ticks_2 rfl fw_X8_124 zokc_10 (fun _ => rfl) rfl rfl ?_
  refine v_iconst (n := 6) (x := nI 0) dX8_ticks_5 rfl (by decide) ?_
  refine v_istore_n (n := 7) (L' := [(0, .ref (zad G.1 10 0 0)), (1, .int x1), (2, .int (nI 0))]) dX8_ticks_6 rfl (by decide) rfl ?_
  exact h

set_option maxRecDepth 20000 in
set_option maxHeartbeats 4000000 in
theorem wX8_ticks_7 (G : Gl) {P : Option Value → St → Prop} {X : String → St → Prop} (x1 : Int32) (i2 : Nat) (μ : St)
    (h : ((x1 ≤ nI i2 → P (some (.int (μ 10 0 0 7))) μ) ∧ (¬ x1 ≤ nI i2 → Con G mX8_tick [.ref (zad G.1 10 0 0)] μ (fun v μ1 => v = none ∧ VL G mX8_ticks P X 7 [(0, .ref (zad G.1 10 0 0)), (1, .int x1), (2, .int (nI (i2 + 1)))] [] μ1) noX))) :
    VL G mX8_ticks P X 7 [(0, .ref (zad G.1 10 0 0)), (1, .int x1), (2, .int (nI i2))] [] μ := by
  refine v_iload_n (n := 8) dX8_ticks_7 rfl rfl ?_
  refine v_iload_n (n := 9) dX8_ticks_8 rfl rfl ?_
  refine v_icmp_ge (n := 12) (t := 22) dX8_ticks_9 rfl (by decide) (fun hq => ?_) (fun hq => ?_)
  · replace h := h.1 hq
    refine v_aload_n (n := 23) dX8_ticks_22 rfl rfl ?_
    refine v_getf (n := 26) dX8_ticks_23 rfl fl_X8_124 zokc_10 (rfl) ?_
    exact v_iret dX8_ticks_26 rfl (Nat.le_of_ble_eq_true rfl) (Nat.le_of_ble_eq_true rfl) h
  · replace h := h.2 hq
    refine v_aload_n (n := 13) dX8_ticks_12 rfl rfl ?_
    refine v_callV (n := 16) (k := 10) (b := 0) (i := 0) (As := []) (rest := []) dX8_ticks_13 rfl lk_X8_143 rfl rfl (Nat.le_of_ble_eq_true rfl) ⟨Nat.le_of_ble_eq_true rfl, Nat.le_of_ble_eq_true rfl, Nat.le_of_ble_eq_true rfl, Nat.le_of_ble_eq_true rfl⟩ zokc_10 h (fun v μ1 h => ?_) (fun _ _ hp => False.elim hp)
    obtain ⟨rfl, h⟩ := h
    refine v_norm (st' := []) (cells' := 0) (slots' := 0) rfl rfl rfl ?_
    refine v_iinc (n := 19) (x := nI i2) (y := nI (i2 + 1)) (L' := [(0, .ref (zad G.1 10 0 0)), (1, .int x1), (2, .int (nI (i2 + 1)))]) dX8_ticks_16 rfl rfl (nI_1 i2) (by decide) rfl ?_
    refine v_goto (n := 7) dX8_ticks_19 (by decide) ?_
    exact h

set_option maxRecDepth 20000 in
set_option maxHeartbeats 4000000 in
theorem wX8_advance (G : Gl) {P : Option Value → St → Prop} {X : String → St → Prop} (x1 : Int32) (μ : St)
    (h : ((btw x1 (nI 1) (nI 50) = true → (((μ 26 0 0 1) + x1 ≤ nI 1000 → ((nI 0 ≤ 0 → Con G mX8_keep [.ref (zad G.1 10 0 0)] (up μ 10 0 0 6 (nI 0)) (fun v μ1 => v = none ∧ Con G mX8_ticks [.ref (zad G.1 10 0 0), .int x1] μ1 (fun v μ2 => ∃ r1 : Int32, v = some (.int r1) ∧ P (some (.int r1)) μ2) noX) noX) ∧ (¬ nI 0 ≤ 0 → P (some (.int (nI 0))) (up μ 10 0 0 6 (nI 0))))) ∧ (¬ (μ 26 0 0 1) + x1 ≤ nI 1000 → ((nI 2 ≤ 0 → Con G mX8_keep [.ref (zad G.1 10 0 0)] (up μ 10 0 0 6 (nI 2)) (fun v μ3 => v = none ∧ Con G mX8_ticks [.ref (zad G.1 10 0 0), .int x1] μ3 (fun v μ4 => ∃ r2 : Int32, v = some (.int r2) ∧ P (some (.int r2)) μ4) noX) noX) ∧ (¬ nI 2 ≤ 0 → P (some (.int (nI 0))) (up μ 10 0 0 6 (nI 2))))))) ∧ (btw x1 (nI 1) (nI 50) = false → ((nI 1 ≤ 0 → Con G mX8_keep [.ref (zad G.1 10 0 0)] (up μ 10 0 0 6 (nI 1)) (fun v μ5 => v = none ∧ Con G mX8_ticks [.ref (zad G.1 10 0 0), .int x1] μ5 (fun v μ6 => ∃ r3 : Int32, v = some (.int r3) ∧ P (some (.int r3)) μ6) noX) noX) ∧ (¬ nI 1 ≤ 0 → P (some (.int (nI 0))) (up μ 10 0 0 6 (nI 1))))))) :
    Con G mX8_advance [.ref (zad G.1 10 0 0), .int x1] μ P X := by
  refine con_of pn_X8 rfl (Nat.le_of_ble_eq_true rfl) ?_
  show VL G mX8_advance P X 0 [(0, .ref (zad G.1 10 0 0)), (1, .int x1)] [] μ
  refine v_aload_n (n := 1) dX8_advance_0 rfl rfl ?_
  refine v_iload_n (n := 2) dX8_advance_1 rfl rfl ?_
  refine v_iconst (n := 3) (x := nI 1) dX8_advance_2 rfl (by decide) ?_
  refine v_bipush (n := 5) (x := nI 50) dX8_advance_3 rfl (by decide) ?_
  refine v_callS (n := 8) (As := [.int x1, .int (nI 1), .int (nI 50)]) (rest := [.ref (zad G.1 10 0 0)]) dX8_advance_5 rfl lk_X8_47 rfl rfl (Nat.le_of_ble_eq_true rfl) ⟨Nat.le_of_ble_eq_true rfl, Nat.le_of_ble_eq_true rfl, Nat.le_of_ble_eq_true rfl, Nat.le_of_ble_eq_true rfl⟩ (s_X8_in G x1 (nI 1) (nI 50) μ) (fun v μ9 hp => ?_) (fun _ _ hp => False.elim hp)
  rw [hp.1, hp.2]
  refine v_norm (st' := [.int (bI (btw x1 (nI 1) (nI 50))), .ref (zad G.1 10 0 0)]) (cells' := 0) (slots' := 0) rfl rfl rfl ?_
  refine v_if_ne (n := 11) (t := 15) dX8_advance_8 rfl (by decide) (fun hq => ?_) (fun hq => ?_)
  · replace h := h.1 (bI_nf hq)
    refine v_aload_n (n := 16) dX8_advance_15 rfl rfl ?_
    refine v_getf (n := 19) dX8_advance_16 rfl fl_X8_9 zokc_10 rfl ?_
    refine v_iconst (n := 20) (x := nI 1) dX8_advance_19 rfl (by decide) ?_
    refine v_iald (n := 21) (j := 1) dX8_advance_20 rfl zokc_26 (by decide) rfl rfl (by decide) (rfl) ?_
    refine v_iload_n (n := 22) dX8_advance_21 rfl rfl ?_
    refine v_iadd (n := 23) dX8_advance_22 rfl ?_
    refine v_sipush (n := 26) (x := nI 1000) dX8_advance_23 rfl (by decide) ?_
    refine v_icmp_le (n := 29) (t := 33) dX8_advance_26 rfl (by decide) (fun hq => ?_) (fun hq => ?_)
    · replace h := h.1 hq
      refine v_iconst (n := 34) (x := nI 0) dX8_advance_33 rfl (by decide) ?_
      refine v_putf (n := 37) dX8_advance_34 rfl fw_X8_41 zokc_10 (fun _ => rfl) rfl rfl ?_
      refine v_aload_n (n := 38) dX8_advance_37 rfl rfl ?_
      refine v_getf (n := 41) dX8_advance_38 rfl fl_X8_41 zokc_10 (congrArg Value.int (up_self _ _ _ _ _ _)) ?_
      refine v_if_le (n := 44) (t := 46) dX8_advance_41 rfl (by decide) (fun hq => ?_) (fun hq => ?_)
      · replace h := h.1 hq
        refine v_aload_n (n := 47) dX8_advance_46 rfl rfl ?_
        refine v_callV (n := 50) (k := 10) (b := 0) (i := 0) (As := []) (rest := []) dX8_advance_47 rfl lk_X8_65 rfl rfl (Nat.le_of_ble_eq_true rfl) ⟨Nat.le_of_ble_eq_true rfl, Nat.le_of_ble_eq_true rfl, Nat.le_of_ble_eq_true rfl, Nat.le_of_ble_eq_true rfl⟩ zokc_10 h (fun v μ1 h => ?_) (fun _ _ hp => False.elim hp)
        obtain ⟨rfl, h⟩ := h
        refine v_norm (st' := []) (cells' := 0) (slots' := 0) rfl rfl rfl ?_
        refine v_aload_n (n := 51) dX8_advance_50 rfl rfl ?_
        refine v_iload_n (n := 52) dX8_advance_51 rfl rfl ?_
        refine v_callV (n := 55) (k := 10) (b := 0) (i := 0) (As := [.int x1]) (rest := []) dX8_advance_52 rfl lk_X8_146 rfl rfl (Nat.le_of_ble_eq_true rfl) ⟨Nat.le_of_ble_eq_true rfl, Nat.le_of_ble_eq_true rfl, Nat.le_of_ble_eq_true rfl, Nat.le_of_ble_eq_true rfl⟩ zokc_10 h (fun v μ2 h => ?_) (fun _ _ hp => False.elim hp)
        obtain ⟨r1, rfl, h⟩ := h
        refine v_norm (st' := [.int r1]) (cells' := 0) (slots' := 0) rfl rfl rfl ?_
        exact v_iret dX8_advance_55 rfl (Nat.le_of_ble_eq_true rfl) (Nat.le_of_ble_eq_true rfl) h
      · replace h := h.2 hq
        refine v_iconst (n := 45) (x := nI 0) dX8_advance_44 rfl (by decide) ?_
        exact v_iret dX8_advance_45 rfl (Nat.le_of_ble_eq_true rfl) (Nat.le_of_ble_eq_true rfl) h
    · replace h := h.2 hq
      refine v_iconst (n := 30) (x := nI 2) dX8_advance_29 rfl (by decide) ?_
      refine v_goto (n := 34) dX8_advance_30 (by decide) ?_
      refine v_putf (n := 37) dX8_advance_34 rfl fw_X8_41 zokc_10 (fun _ => rfl) rfl rfl ?_
      refine v_aload_n (n := 38) dX8_advance_37 rfl rfl ?_
      refine v_getf (n := 41) dX8_advance_38 rfl fl_X8_41 zokc_10 (congrArg Value.int (up_self _ _ _ _ _ _)) ?_
      refine v_if_le (n := 44) (t := 46) dX8_advance_41 rfl (by decide) (fun hq => ?_) (fun hq => ?_)
      · replace h := h.1 hq
        refine v_aload_n (n := 47) dX8_advance_46 rfl rfl ?_
        refine v_callV (n := 50) (k := 10) (b := 0) (i := 0) (As := []) (rest := []) dX8_advance_47 rfl lk_X8_65 rfl rfl (Nat.le_of_ble_eq_true rfl) ⟨Nat.le_of_ble_eq_true rfl, Nat.le_of_ble_eq_true rfl, Nat.le_of_ble_eq_true rfl, Nat.le_of_ble_eq_true rfl⟩ zokc_10 h (fun v μ3 h => ?_) (fun _ _ hp => False.elim hp)
        obtain ⟨rfl, h⟩ := h
        refine v_norm (st' := []) (cells' := 0) (slots' := 0) rfl rfl rfl ?_
        refine v_aload_n (n := 51) dX8_advance_50 rfl rfl ?_
        refine v_iload_n (n := 52) dX8_advance_51 rfl rfl ?_
        refine v_callV (n := 55) (k := 10) (b := 0) (i := 0) (As := [.int x1]) (rest := []) dX8_advance_52 rfl lk_X8_146 rfl rfl (Nat.le_of_ble_eq_true rfl) ⟨Nat.le_of_ble_eq_true rfl, Nat.le_of_ble_eq_true rfl, Nat.le_of_ble_eq_true rfl, Nat.le_of_ble_eq_true rfl⟩ zokc_10 h (fun v μ4 h => ?_) (fun _ _ hp => False.elim hp)
        obtain ⟨r2, rfl, h⟩ := h
        refine v_norm (st' := [.int r2]) (cells' := 0) (slots' := 0) rfl rfl rfl ?_
        exact v_iret dX8_advance_55 rfl (Nat.le_of_ble_eq_true rfl) (Nat.le_of_ble_eq_true rfl) h
      · replace h := h.2 hq
        refine v_iconst (n := 45) (x := nI 0) dX8_advance_44 rfl (by decide) ?_
        exact v_iret dX8_advance_45 rfl (Nat.le_of_ble_eq_true rfl) (Nat.le_of_ble_eq_true rfl) h
  · replace h := h.2 (bI_f hq)
    refine v_iconst (n := 12) (x := nI 1) dX8_advance_11 rfl (by decide) ?_
    refine v_goto (n := 34) dX8_advance_12 (by decide) ?_
    refine v_putf (n := 37) dX8_advance_34 rfl fw_X8_41 zokc_10 (fun _ => rfl) rfl rfl ?_
    refine v_aload_n (n := 38) dX8_advance_37 rfl rfl ?_
    refine v_getf (n := 41) dX8_advance_38 rfl fl_X8_41 zokc_10 (congrArg Value.int (up_self _ _ _ _ _ _)) ?_
    refine v_if_le (n := 44) (t := 46) dX8_advance_41 rfl (by decide) (fun hq => ?_) (fun hq => ?_)
    · replace h := h.1 hq
      refine v_aload_n (n := 47) dX8_advance_46 rfl rfl ?_
      refine v_callV (n := 50) (k := 10) (b := 0) (i := 0) (As := []) (rest := []) dX8_advance_47 rfl lk_X8_65 rfl rfl (Nat.le_of_ble_eq_true rfl) ⟨Nat.le_of_ble_eq_true rfl, Nat.le_of_ble_eq_true rfl, Nat.le_of_ble_eq_true rfl, Nat.le_of_ble_eq_true rfl⟩ zokc_10 h (fun v μ5 h => ?_) (fun _ _ hp => False.elim hp)
      obtain ⟨rfl, h⟩ := h
      refine v_norm (st' := []) (cells' := 0) (slots' := 0) rfl rfl rfl ?_
      refine v_aload_n (n := 51) dX8_advance_50 rfl rfl ?_
      refine v_iload_n (n := 52) dX8_advance_51 rfl rfl ?_
      refine v_callV (n := 55) (k := 10) (b := 0) (i := 0) (As := [.int x1]) (rest := []) dX8_advance_52 rfl lk_X8_146 rfl rfl (Nat.le_of_ble_eq_true rfl) ⟨Nat.le_of_ble_eq_true rfl, Nat.le_of_ble_eq_true rfl, Nat.le_of_ble_eq_true rfl, Nat.le_of_ble_eq_true rfl⟩ zokc_10 h (fun v μ6 h => ?_) (fun _ _ hp => False.elim hp)
      obtain ⟨r3, rfl, h⟩ := h
      refine v_norm (st' := [.int r3]) (cells' := 0) (slots' := 0) rfl rfl rfl ?_
      exact v_iret dX8_advance_55 rfl (Nat.le_of_ble_eq_true rfl) (Nat.le_of_ble_eq_true rfl) h
    · replace h := h.2 hq
      refine v_iconst (n := 45) (x := nI 0) dX8_advance_44 rfl (by decide) ?_
      exact v_iret dX8_advance_45 rfl (Nat.le_of_ble_eq_true rfl) (Nat.le_of_ble_eq_true rfl) h

set_option maxRecDepth 20000 in
set_option maxHeartbeats 4000000 in
theorem wX8_endDay (G : Gl) {P : Option Value → St → Prop} {X : String → St → Prop}  (μ : St)
    (h : ((¬ μ 26 0 0 2 = nI 1000 → ((nI 0 ≤ 0 → Con G mX8_keep [.ref (zad G.1 10 0 0)] (up μ 10 0 0 6 (nI 0)) (fun v μ1 => v = none ∧ Con G mX8_guestsWho [.ref (zad G.1 10 0 0), .int (nI 4), .int (-1 : Int32)] μ1 (fun v μ2 => ∃ r1 : Int32, v = some (.int r1) ∧ VL G mX8_endDay P X 50 [(0, .ref (zad G.1 10 0 0)), (1, .int ((μ1 26 0 0 5) - r1)), (2, .int (nI 0))] [] μ2) noX) noX) ∧ (¬ nI 0 ≤ 0 → P (some (.int (nI 0))) (up μ 10 0 0 6 (nI 0))))) ∧ (μ 26 0 0 2 = nI 1000 → ((nI 1 ≤ 0 → Con G mX8_keep [.ref (zad G.1 10 0 0)] (up μ 10 0 0 6 (nI 1)) (fun v μ3 => v = none ∧ Con G mX8_guestsWho [.ref (zad G.1 10 0 0), .int (nI 4), .int (-1 : Int32)] μ3 (fun v μ4 => ∃ r2 : Int32, v = some (.int r2) ∧ VL G mX8_endDay P X 50 [(0, .ref (zad G.1 10 0 0)), (1, .int ((μ3 26 0 0 5) - r2)), (2, .int (nI 0))] [] μ4) noX) noX) ∧ (¬ nI 1 ≤ 0 → P (some (.int (nI 0))) (up μ 10 0 0 6 (nI 1))))))) :
    Con G mX8_endDay [.ref (zad G.1 10 0 0)] μ P X := by
  refine con_of pn_X8 rfl (Nat.le_of_ble_eq_true rfl) ?_
  show VL G mX8_endDay P X 0 [(0, .ref (zad G.1 10 0 0))] [] μ
  refine v_aload_n (n := 1) dX8_endDay_0 rfl rfl ?_
  refine v_aload_n (n := 2) dX8_endDay_1 rfl rfl ?_
  refine v_getf (n := 5) dX8_endDay_2 rfl fl_X8_9 zokc_10 rfl ?_
  refine v_iconst (n := 6) (x := nI 2) dX8_endDay_5 rfl (by decide) ?_
  refine v_iald (n := 7) (j := 2) dX8_endDay_6 rfl zokc_26 (by decide) rfl rfl (by decide) (rfl) ?_
  refine v_sipush (n := 10) (x := nI 1000) dX8_endDay_7 rfl (by decide) ?_
  refine v_icmp_ne (n := 13) (t := 17) dX8_endDay_10 rfl (by decide) (fun hq => ?_) (fun hq => ?_)
  · replace h := h.1 hq
    refine v_iconst (n := 18) (x := nI 0) dX8_endDay_17 rfl (by decide) ?_
    refine v_putf (n := 21) dX8_endDay_18 rfl fw_X8_41 zokc_10 (fun _ => rfl) rfl rfl ?_
    refine v_aload_n (n := 22) dX8_endDay_21 rfl rfl ?_
    refine v_getf (n := 25) dX8_endDay_22 rfl fl_X8_41 zokc_10 (congrArg Value.int (up_self _ _ _ _ _ _)) ?_
    refine v_if_le (n := 28) (t := 30) dX8_endDay_25 rfl (by decide) (fun hq => ?_) (fun hq => ?_)
    · replace h := h.1 hq
      refine v_aload_n (n := 31) dX8_endDay_30 rfl rfl ?_
      refine v_callV (n := 34) (k := 10) (b := 0) (i := 0) (As := []) (rest := []) dX8_endDay_31 rfl lk_X8_65 rfl rfl (Nat.le_of_ble_eq_true rfl) ⟨Nat.le_of_ble_eq_true rfl, Nat.le_of_ble_eq_true rfl, Nat.le_of_ble_eq_true rfl, Nat.le_of_ble_eq_true rfl⟩ zokc_10 h (fun v μ1 h => ?_) (fun _ _ hp => False.elim hp)
      obtain ⟨rfl, h⟩ := h
      refine v_norm (st' := []) (cells' := 0) (slots' := 0) rfl rfl rfl ?_
      refine v_aload_n (n := 35) dX8_endDay_34 rfl rfl ?_
      refine v_getf (n := 38) dX8_endDay_35 rfl fl_X8_9 zokc_10 rfl ?_
      refine v_iconst (n := 39) (x := nI 5) dX8_endDay_38 rfl (by decide) ?_
      refine v_iald (n := 40) (j := 5) dX8_endDay_39 rfl zokc_26 (by decide) rfl rfl (by decide) (rfl) ?_
      refine v_aload_n (n := 41) dX8_endDay_40 rfl rfl ?_
      refine v_iconst (n := 42) (x := nI 4) dX8_endDay_41 rfl (by decide) ?_
      refine v_iconst (n := 43) (x := (-1 : Int32)) dX8_endDay_42 rfl (by decide) ?_
      refine v_callV (n := 46) (k := 10) (b := 0) (i := 0) (As := [.int (nI 4), .int (-1 : Int32)]) (rest := [.int (μ1 26 0 0 5)]) dX8_endDay_43 rfl lk_X8_77 rfl rfl (Nat.le_of_ble_eq_true rfl) ⟨Nat.le_of_ble_eq_true rfl, Nat.le_of_ble_eq_true rfl, Nat.le_of_ble_eq_true rfl, Nat.le_of_ble_eq_true rfl⟩ zokc_10 h (fun v μ2 h => ?_) (fun _ _ hp => False.elim hp)
      obtain ⟨r1, rfl, h⟩ := h
      refine v_norm (st' := [.int r1, .int (μ1 26 0 0 5)]) (cells' := 0) (slots' := 0) rfl rfl rfl ?_
      refine v_isub (n := 47) dX8_endDay_46 rfl ?_
      refine v_istore_n (n := 48) (L' := [(0, .ref (zad G.1 10 0 0)), (1, .int ((μ1 26 0 0 5) - r1))]) dX8_endDay_47 rfl (by decide) rfl ?_
      refine v_iconst (n := 49) (x := nI 0) dX8_endDay_48 rfl (by decide) ?_
      refine v_istore_n (n := 50) (L' := [(0, .ref (zad G.1 10 0 0)), (1, .int ((μ1 26 0 0 5) - r1)), (2, .int (nI 0))]) dX8_endDay_49 rfl (by decide) rfl ?_
      exact h
    · replace h := h.2 hq
      refine v_iconst (n := 29) (x := nI 0) dX8_endDay_28 rfl (by decide) ?_
      exact v_iret dX8_endDay_29 rfl (Nat.le_of_ble_eq_true rfl) (Nat.le_of_ble_eq_true rfl) h
  · replace h := h.2 hq
    refine v_iconst (n := 14) (x := nI 1) dX8_endDay_13 rfl (by decide) ?_
    refine v_goto (n := 18) dX8_endDay_14 (by decide) ?_
    refine v_putf (n := 21) dX8_endDay_18 rfl fw_X8_41 zokc_10 (fun _ => rfl) rfl rfl ?_
    refine v_aload_n (n := 22) dX8_endDay_21 rfl rfl ?_
    refine v_getf (n := 25) dX8_endDay_22 rfl fl_X8_41 zokc_10 (congrArg Value.int (up_self _ _ _ _ _ _)) ?_
    refine v_if_le (n := 28) (t := 30) dX8_endDay_25 rfl (by decide) (fun hq => ?_) (fun hq => ?_)
    · replace h := h.1 hq
      refine v_aload_n (n := 31) dX8_endDay_30 rfl rfl ?_
      refine v_callV (n := 34) (k := 10) (b := 0) (i := 0) (As := []) (rest := []) dX8_endDay_31 rfl lk_X8_65 rfl rfl (Nat.le_of_ble_eq_true rfl) ⟨Nat.le_of_ble_eq_true rfl, Nat.le_of_ble_eq_true rfl, Nat.le_of_ble_eq_true rfl, Nat.le_of_ble_eq_true rfl⟩ zokc_10 h (fun v μ3 h => ?_) (fun _ _ hp => False.elim hp)
      obtain ⟨rfl, h⟩ := h
      refine v_norm (st' := []) (cells' := 0) (slots' := 0) rfl rfl rfl ?_
      refine v_aload_n (n := 35) dX8_endDay_34 rfl rfl ?_
      refine v_getf (n := 38) dX8_endDay_35 rfl fl_X8_9 zokc_10 rfl ?_
      refine v_iconst (n := 39) (x := nI 5) dX8_endDay_38 rfl (by decide) ?_
      refine v_iald (n := 40) (j := 5) dX8_endDay_39 rfl zokc_26 (by decide) rfl rfl (by decide) (rfl) ?_
      refine v_aload_n (n := 41) dX8_endDay_40 rfl rfl ?_
      refine v_iconst (n := 42) (x := nI 4) dX8_endDay_41 rfl (by decide) ?_
      refine v_iconst (n := 43) (x := (-1 : Int32)) dX8_endDay_42 rfl (by decide) ?_
      refine v_callV (n := 46) (k := 10) (b := 0) (i := 0) (As := [.int (nI 4), .int (-1 : Int32)]) (rest := [.int (μ3 26 0 0 5)]) dX8_endDay_43 rfl lk_X8_77 rfl rfl (Nat.le_of_ble_eq_true rfl) ⟨Nat.le_of_ble_eq_true rfl, Nat.le_of_ble_eq_true rfl, Nat.le_of_ble_eq_true rfl, Nat.le_of_ble_eq_true rfl⟩ zokc_10 h (fun v μ4 h => ?_) (fun _ _ hp => False.elim hp)
      obtain ⟨r2, rfl, h⟩ := h
      refine v_norm (st' := [.int r2, .int (μ3 26 0 0 5)]) (cells' := 0) (slots' := 0) rfl rfl rfl ?_
      refine v_isub (n := 47) dX8_endDay_46 rfl ?_
      refine v_istore_n (n := 48) (L' := [(0, .ref (zad G.1 10 0 0)), (1, .int ((μ3 26 0 0 5) - r2))]) dX8_endDay_47 rfl (by decide) rfl ?_
      refine v_iconst (n := 49) (x := nI 0) dX8_endDay_48 rfl (by decide) ?_
      refine v_istore_n (n := 50) (L' := [(0, .ref (zad G.1 10 0 0)), (1, .int ((μ3 26 0 0 5) - r2)), (2, .int (nI 0))]) dX8_endDay_49 rfl (by decide) rfl ?_
      exact h
    · replace h := h.2 hq
      refine v_iconst (n := 29) (x := nI 0) dX8_endDay_28 rfl (by decide) ?_
      exact v_iret dX8_endDay_29 rfl (Nat.le_of_ble_eq_true rfl) (Nat.le_of_ble_eq_true rfl) h

set_option maxRecDepth 20000 in
set_option maxHeartbeats 4000000 in
theorem wX8_endDay_50 (G : Gl) {P : Option Value → St → Prop} {X : String → St → Prop} (y1 : Int32) (i2 : Nat) (μ : St)
    (h : ((μ 26 0 0 5 ≤ nI i2 → VL G mX8_endDay P X 93 [(0, .ref (zad G.1 10 0 0)), (1, .int y1), (2, .int (nI 0))] [] μ) ∧ (¬ μ 26 0 0 5 ≤ nI i2 → 212 + 10 * i2 + 4 < 372 ∧ 212 + 10 * i2 + 6 < 372 ∧ VL G mX8_endDay P X 50 [(0, .ref (zad G.1 10 0 0)), (1, .int y1), (2, .int (nI (i2 + 1)))] [] (up (up μ 26 0 0 (212 + 10 * i2 + 4) (nI 4)) 26 0 0 (212 + 10 * i2 + 6) (nI 0))))) :
    VL G mX8_endDay P X 50 [(0, .ref (zad G.1 10 0 0)), (1, .int y1), (2, .int (nI i2))] [] μ := by
  refine v_iload_n (n := 51) dX8_endDay_50 rfl rfl ?_
  refine v_aload_n (n := 52) dX8_endDay_51 rfl rfl ?_
  refine v_getf (n := 55) dX8_endDay_52 rfl fl_X8_9 zokc_10 rfl ?_
  refine v_iconst (n := 56) (x := nI 5) dX8_endDay_55 rfl (by decide) ?_
  refine v_iald (n := 57) (j := 5) dX8_endDay_56 rfl zokc_26 (by decide) rfl rfl (by decide) (rfl) ?_
  refine v_icmp_ge (n := 60) (t := 91) dX8_endDay_57 rfl (by decide) (fun hq => ?_) (fun hq => ?_)
  · replace h := h.1 hq
    refine v_iconst (n := 92) (x := nI 0) dX8_endDay_91 rfl (by decide) ?_
    refine v_istore_n (n := 93) (L' := [(0, .ref (zad G.1 10 0 0)), (1, .int y1), (2, .int (nI 0))]) dX8_endDay_92 rfl (by decide) rfl ?_
    exact h
  · replace h := h.2 hq
    refine v_aload_n (n := 61) dX8_endDay_60 rfl rfl ?_
    refine v_getf (n := 64) dX8_endDay_61 rfl fl_X8_9 zokc_10 rfl ?_
    refine v_iload_n (n := 65) dX8_endDay_64 rfl rfl ?_
    refine v_callS (n := 68) (As := [.int (nI i2)]) (rest := [.ref (zad G.1 26 0 0)]) dX8_endDay_65 rfl lk_X8_71 rfl rfl (Nat.le_of_ble_eq_true rfl) ⟨Nat.le_of_ble_eq_true rfl, Nat.le_of_ble_eq_true rfl, Nat.le_of_ble_eq_true rfl, Nat.le_of_ble_eq_true rfl⟩ (s_X8_guest0N G i2 μ) (fun v μ9 hp => ?_) (fun _ _ hp => False.elim hp)
    rw [hp.1, hp.2]
    refine v_norm (st' := [.int (nI (212 + 10 * i2)), .ref (zad G.1 26 0 0)]) (cells' := 0) (slots' := 0) rfl rfl rfl ?_
    refine v_iconst (n := 69) (x := nI 4) dX8_endDay_68 rfl (by decide) ?_
    refine v_iadd (n := 70) dX8_endDay_69 rfl ?_
    refine v_top (y := nI (212 + 10 * i2 + 4)) (nI_add (212 + 10 * i2) 4) ?_
    refine v_iconst (n := 71) (x := nI 4) dX8_endDay_70 rfl (by decide) ?_
    obtain ⟨hf1, h⟩ := h
    refine v_iast (n := 72) (j := (212 + 10 * i2 + 4)) dX8_endDay_71 rfl zokc_26 (by decide) (by decide) rfl rfl hf1 (fun _ => rfl) ?_
    refine v_aload_n (n := 73) dX8_endDay_72 rfl rfl ?_
    refine v_getf (n := 76) dX8_endDay_73 rfl fl_X8_9 zokc_10 rfl ?_
    refine v_iload_n (n := 77) dX8_endDay_76 rfl rfl ?_
    refine v_callS (n := 80) (As := [.int (nI i2)]) (rest := [.ref (zad G.1 26 0 0)]) dX8_endDay_77 rfl lk_X8_71 rfl rfl (Nat.le_of_ble_eq_true rfl) ⟨Nat.le_of_ble_eq_true rfl, Nat.le_of_ble_eq_true rfl, Nat.le_of_ble_eq_true rfl, Nat.le_of_ble_eq_true rfl⟩ (s_X8_guest0N G i2 (up μ 26 0 0 (212 + 10 * i2 + 4) (nI 4))) (fun v μ9 hp => ?_) (fun _ _ hp => False.elim hp)
    rw [hp.1, hp.2]
    refine v_norm (st' := [.int (nI (212 + 10 * i2)), .ref (zad G.1 26 0 0)]) (cells' := 0) (slots' := 0) rfl rfl rfl ?_
    refine v_bipush (n := 82) (x := nI 6) dX8_endDay_80 rfl (by decide) ?_
    refine v_iadd (n := 83) dX8_endDay_82 rfl ?_
    refine v_top (y := nI (212 + 10 * i2 + 6)) (nI_add (212 + 10 * i2) 6) ?_
    refine v_iconst (n := 84) (x := nI 0) dX8_endDay_83 rfl (by decide) ?_
    obtain ⟨hf2, h⟩ := h
    refine v_iast (n := 85) (j := (212 + 10 * i2 + 6)) dX8_endDay_84 rfl zokc_26 (by decide) (by decide) rfl rfl hf2 (fun _ => rfl) ?_
    refine v_iinc (n := 88) (x := nI i2) (y := nI (i2 + 1)) (L' := [(0, .ref (zad G.1 10 0 0)), (1, .int y1), (2, .int (nI (i2 + 1)))]) dX8_endDay_85 rfl rfl (nI_1 i2) (by decide) rfl ?_
    refine v_goto (n := 50) dX8_endDay_88 (by decide) ?_
    exact h

set_option maxRecDepth 20000 in
set_option maxHeartbeats 4000000 in
theorem wX8_endDay_93 (G : Gl) {P : Option Value → St → Prop} {X : String → St → Prop} (y1 : Int32) (i2 : Nat) (μ : St)
    (h : ((μ 26 0 0 3 ≤ nI i2 → VL G mX8_endDay P X 137 [(0, .ref (zad G.1 10 0 0)), (1, .int y1), (2, .int (nI 0))] [] μ) ∧ (¬ μ 26 0 0 3 ≤ nI i2 → 6 + 21 * i2 + 10 < 372 ∧ 6 + 21 * i2 + 7 < 372 ∧ VL G mX8_endDay P X 93 [(0, .ref (zad G.1 10 0 0)), (1, .int y1), (2, .int (nI (i2 + 1)))] [] (up (up μ 26 0 0 (6 + 21 * i2 + 10) (nI 0)) 26 0 0 (6 + 21 * i2 + 7) (nI 0))))) :
    VL G mX8_endDay P X 93 [(0, .ref (zad G.1 10 0 0)), (1, .int y1), (2, .int (nI i2))] [] μ := by
  refine v_iload_n (n := 94) dX8_endDay_93 rfl rfl ?_
  refine v_aload_n (n := 95) dX8_endDay_94 rfl rfl ?_
  refine v_getf (n := 98) dX8_endDay_95 rfl fl_X8_9 zokc_10 rfl ?_
  refine v_iconst (n := 99) (x := nI 3) dX8_endDay_98 rfl (by decide) ?_
  refine v_iald (n := 100) (j := 3) dX8_endDay_99 rfl zokc_26 (by decide) rfl rfl (by decide) (rfl) ?_
  refine v_icmp_ge (n := 103) (t := 135) dX8_endDay_100 rfl (by decide) (fun hq => ?_) (fun hq => ?_)
  · replace h := h.1 hq
    refine v_iconst (n := 136) (x := nI 0) dX8_endDay_135 rfl (by decide) ?_
    refine v_istore_n (n := 137) (L' := [(0, .ref (zad G.1 10 0 0)), (1, .int y1), (2, .int (nI 0))]) dX8_endDay_136 rfl (by decide) rfl ?_
    exact h
  · replace h := h.2 hq
    refine v_aload_n (n := 104) dX8_endDay_103 rfl rfl ?_
    refine v_getf (n := 107) dX8_endDay_104 rfl fl_X8_9 zokc_10 rfl ?_
    refine v_iload_n (n := 108) dX8_endDay_107 rfl rfl ?_
    refine v_callS (n := 111) (As := [.int (nI i2)]) (rest := [.ref (zad G.1 26 0 0)]) dX8_endDay_108 rfl lk_X8_51 rfl rfl (Nat.le_of_ble_eq_true rfl) ⟨Nat.le_of_ble_eq_true rfl, Nat.le_of_ble_eq_true rfl, Nat.le_of_ble_eq_true rfl, Nat.le_of_ble_eq_true rfl⟩ (s_X8_lift0N G i2 μ) (fun v μ9 hp => ?_) (fun _ _ hp => False.elim hp)
    rw [hp.1, hp.2]
    refine v_norm (st' := [.int (nI (6 + 21 * i2)), .ref (zad G.1 26 0 0)]) (cells' := 0) (slots' := 0) rfl rfl rfl ?_
    refine v_bipush (n := 113) (x := nI 10) dX8_endDay_111 rfl (by decide) ?_
    refine v_iadd (n := 114) dX8_endDay_113 rfl ?_
    refine v_top (y := nI (6 + 21 * i2 + 10)) (nI_add (6 + 21 * i2) 10) ?_
    refine v_iconst (n := 115) (x := nI 0) dX8_endDay_114 rfl (by decide) ?_
    obtain ⟨hf1, h⟩ := h
    refine v_iast (n := 116) (j := (6 + 21 * i2 + 10)) dX8_endDay_115 rfl zokc_26 (by decide) (by decide) rfl rfl hf1 (fun _ => rfl) ?_
    refine v_aload_n (n := 117) dX8_endDay_116 rfl rfl ?_
    refine v_getf (n := 120) dX8_endDay_117 rfl fl_X8_9 zokc_10 rfl ?_
    refine v_iload_n (n := 121) dX8_endDay_120 rfl rfl ?_
    refine v_callS (n := 124) (As := [.int (nI i2)]) (rest := [.ref (zad G.1 26 0 0)]) dX8_endDay_121 rfl lk_X8_51 rfl rfl (Nat.le_of_ble_eq_true rfl) ⟨Nat.le_of_ble_eq_true rfl, Nat.le_of_ble_eq_true rfl, Nat.le_of_ble_eq_true rfl, Nat.le_of_ble_eq_true rfl⟩ (s_X8_lift0N G i2 (up μ 26 0 0 (6 + 21 * i2 + 10) (nI 0))) (fun v μ9 hp => ?_) (fun _ _ hp => False.elim hp)
    rw [hp.1, hp.2]
    refine v_norm (st' := [.int (nI (6 + 21 * i2)), .ref (zad G.1 26 0 0)]) (cells' := 0) (slots' := 0) rfl rfl rfl ?_
    refine v_bipush (n := 126) (x := nI 7) dX8_endDay_124 rfl (by decide) ?_
    refine v_iadd (n := 127) dX8_endDay_126 rfl ?_
    refine v_top (y := nI (6 + 21 * i2 + 7)) (nI_add (6 + 21 * i2) 7) ?_
    refine v_iconst (n := 128) (x := nI 0) dX8_endDay_127 rfl (by decide) ?_
    obtain ⟨hf2, h⟩ := h
    refine v_iast (n := 129) (j := (6 + 21 * i2 + 7)) dX8_endDay_128 rfl zokc_26 (by decide) (by decide) rfl rfl hf2 (fun _ => rfl) ?_
    refine v_iinc (n := 132) (x := nI i2) (y := nI (i2 + 1)) (L' := [(0, .ref (zad G.1 10 0 0)), (1, .int y1), (2, .int (nI (i2 + 1)))]) dX8_endDay_129 rfl rfl (nI_1 i2) (by decide) rfl ?_
    refine v_goto (n := 93) dX8_endDay_132 (by decide) ?_
    exact h

set_option maxRecDepth 20000 in
set_option maxHeartbeats 4000000 in
theorem wX8_endDay_137 (G : Gl) {P : Option Value → St → Prop} {X : String → St → Prop} (y1 : Int32) (i2 : Nat) (μ : St)
    (h : ((μ 26 0 0 4 ≤ nI i2 → P (some (.int y1)) (up (up μ 26 0 0 1 (nI 0)) 26 0 0 2 ((μ 26 0 0 2) + (nI 1)))) ∧ (¬ μ 26 0 0 4 ≤ nI i2 → 132 + 8 * i2 + 4 < 372 ∧ ((¬ μ 26 0 0 (132 + 8 * i2 + 4) = nI 2 → VL G mX8_endDay P X 137 [(0, .ref (zad G.1 10 0 0)), (1, .int y1), (2, .int (nI (i2 + 1)))] [] μ) ∧ (μ 26 0 0 (132 + 8 * i2 + 4) = nI 2 → 132 + 8 * i2 + 5 < 372 ∧ 132 + 8 * i2 + 6 < 372 ∧ VL G mX8_endDay P X 137 [(0, .ref (zad G.1 10 0 0)), (1, .int y1), (2, .int (nI (i2 + 1)))] [] (up (up (up μ 26 0 0 (132 + 8 * i2 + 4) (nI 0)) 26 0 0 (132 + 8 * i2 + 5) (nI 0)) 26 0 0 (132 + 8 * i2 + 6) (nI 0))))))) :
    VL G mX8_endDay P X 137 [(0, .ref (zad G.1 10 0 0)), (1, .int y1), (2, .int (nI i2))] [] μ := by
  refine v_iload_n (n := 138) dX8_endDay_137 rfl rfl ?_
  refine v_aload_n (n := 139) dX8_endDay_138 rfl rfl ?_
  refine v_getf (n := 142) dX8_endDay_139 rfl fl_X8_9 zokc_10 rfl ?_
  refine v_iconst (n := 143) (x := nI 4) dX8_endDay_142 rfl (by decide) ?_
  refine v_iald (n := 144) (j := 4) dX8_endDay_143 rfl zokc_26 (by decide) rfl rfl (by decide) (rfl) ?_
  refine v_icmp_ge (n := 147) (t := 198) dX8_endDay_144 rfl (by decide) (fun hq => ?_) (fun hq => ?_)
  · replace h := h.1 hq
    refine v_aload_n (n := 199) dX8_endDay_198 rfl rfl ?_
    refine v_getf (n := 202) dX8_endDay_199 rfl fl_X8_9 zokc_10 rfl ?_
    refine v_iconst (n := 203) (x := nI 1) dX8_endDay_202 rfl (by decide) ?_
    refine v_iconst (n := 204) (x := nI 0) dX8_endDay_203 rfl (by decide) ?_
    refine v_iast (n := 205) (j := 1) dX8_endDay_204 rfl zokc_26 (by decide) (by decide) rfl rfl (by decide) (fun _ => rfl) ?_
    refine v_aload_n (n := 206) dX8_endDay_205 rfl rfl ?_
    refine v_getf (n := 209) dX8_endDay_206 rfl fl_X8_9 zokc_10 rfl ?_
    refine v_iconst (n := 210) (x := nI 2) dX8_endDay_209 rfl (by decide) ?_
    refine v_dup2 (n := 211) dX8_endDay_210 rfl rfl rfl ?_
    refine v_iald (n := 212) (j := 2) dX8_endDay_211 rfl zokc_26 (by decide) rfl rfl (by decide) (congrArg Value.int (up_sl (by decide))) ?_
    refine v_iconst (n := 213) (x := nI 1) dX8_endDay_212 rfl (by decide) ?_
    refine v_iadd (n := 214) dX8_endDay_213 rfl ?_
    refine v_iast (n := 215) (j := 2) dX8_endDay_214 rfl zokc_26 (by decide) (by decide) rfl rfl (by decide) (fun _ => rfl) ?_
    refine v_iload_n (n := 216) dX8_endDay_215 rfl rfl ?_
    exact v_iret dX8_endDay_216 rfl (Nat.le_of_ble_eq_true rfl) (Nat.le_of_ble_eq_true rfl) h
  · replace h := h.2 hq
    refine v_iload_n (n := 148) dX8_endDay_147 rfl rfl ?_
    refine v_callS (n := 151) (As := [.int (nI i2)]) (rest := []) dX8_endDay_148 rfl lk_X8_68 rfl rfl (Nat.le_of_ble_eq_true rfl) ⟨Nat.le_of_ble_eq_true rfl, Nat.le_of_ble_eq_true rfl, Nat.le_of_ble_eq_true rfl, Nat.le_of_ble_eq_true rfl⟩ (s_X8_piste0N G i2 μ) (fun v μ9 hp => ?_) (fun _ _ hp => False.elim hp)
    rw [hp.1, hp.2]
    refine v_norm (st' := [.int (nI (132 + 8 * i2))]) (cells' := 0) (slots' := 0) rfl rfl rfl ?_
    refine v_istore_n (n := 152) (L' := [(0, .ref (zad G.1 10 0 0)), (1, .int y1), (2, .int (nI i2)), (3, .int (nI (132 + 8 * i2)))]) dX8_endDay_151 rfl (by decide) rfl ?_
    refine v_aload_n (n := 153) dX8_endDay_152 rfl rfl ?_
    refine v_getf (n := 156) dX8_endDay_153 rfl fl_X8_9 zokc_10 rfl ?_
    refine v_iload_n (n := 157) dX8_endDay_156 rfl rfl ?_
    refine v_iconst (n := 158) (x := nI 4) dX8_endDay_157 rfl (by decide) ?_
    refine v_iadd (n := 159) dX8_endDay_158 rfl ?_
    refine v_top (y := nI (132 + 8 * i2 + 4)) (nI_add (132 + 8 * i2) 4) ?_
    obtain ⟨hf1, h⟩ := h
    refine v_iald (n := 160) (j := (132 + 8 * i2 + 4)) dX8_endDay_159 rfl zokc_26 (by decide) rfl rfl hf1 (rfl) ?_
    refine v_iconst (n := 161) (x := nI 2) dX8_endDay_160 rfl (by decide) ?_
    refine v_icmp_ne (n := 164) (t := 192) dX8_endDay_161 rfl (by decide) (fun hq => ?_) (fun hq => ?_)
    · replace h := h.1 hq
      refine v_iinc (n := 195) (x := nI i2) (y := nI (i2 + 1)) (L' := [(0, .ref (zad G.1 10 0 0)), (1, .int y1), (2, .int (nI (i2 + 1))), (3, .int (nI (132 + 8 * i2)))]) dX8_endDay_192 rfl rfl (nI_1 i2) (by decide) rfl ?_
      refine v_goto (n := 137) dX8_endDay_195 (by decide) ?_
      exact v_pick [0, 1, 2] rfl h
    · replace h := h.2 hq
      refine v_aload_n (n := 165) dX8_endDay_164 rfl rfl ?_
      refine v_getf (n := 168) dX8_endDay_165 rfl fl_X8_9 zokc_10 rfl ?_
      refine v_iload_n (n := 169) dX8_endDay_168 rfl rfl ?_
      refine v_iconst (n := 170) (x := nI 4) dX8_endDay_169 rfl (by decide) ?_
      refine v_iadd (n := 171) dX8_endDay_170 rfl ?_
      refine v_top (y := nI (132 + 8 * i2 + 4)) (nI_add (132 + 8 * i2) 4) ?_
      refine v_iconst (n := 172) (x := nI 0) dX8_endDay_171 rfl (by decide) ?_
      refine v_iast (n := 173) (j := (132 + 8 * i2 + 4)) dX8_endDay_172 rfl zokc_26 (by decide) (by decide) rfl rfl hf1 (fun _ => rfl) ?_
      refine v_aload_n (n := 174) dX8_endDay_173 rfl rfl ?_
      refine v_getf (n := 177) dX8_endDay_174 rfl fl_X8_9 zokc_10 rfl ?_
      refine v_iload_n (n := 178) dX8_endDay_177 rfl rfl ?_
      refine v_iconst (n := 179) (x := nI 5) dX8_endDay_178 rfl (by decide) ?_
      refine v_iadd (n := 180) dX8_endDay_179 rfl ?_
      refine v_top (y := nI (132 + 8 * i2 + 5)) (nI_add (132 + 8 * i2) 5) ?_
      refine v_iconst (n := 181) (x := nI 0) dX8_endDay_180 rfl (by decide) ?_
      obtain ⟨hf2, h⟩ := h
      refine v_iast (n := 182) (j := (132 + 8 * i2 + 5)) dX8_endDay_181 rfl zokc_26 (by decide) (by decide) rfl rfl hf2 (fun _ => rfl) ?_
      refine v_aload_n (n := 183) dX8_endDay_182 rfl rfl ?_
      refine v_getf (n := 186) dX8_endDay_183 rfl fl_X8_9 zokc_10 rfl ?_
      refine v_iload_n (n := 187) dX8_endDay_186 rfl rfl ?_
      refine v_bipush (n := 189) (x := nI 6) dX8_endDay_187 rfl (by decide) ?_
      refine v_iadd (n := 190) dX8_endDay_189 rfl ?_
      refine v_top (y := nI (132 + 8 * i2 + 6)) (nI_add (132 + 8 * i2) 6) ?_
      refine v_iconst (n := 191) (x := nI 0) dX8_endDay_190 rfl (by decide) ?_
      obtain ⟨hf3, h⟩ := h
      refine v_iast (n := 192) (j := (132 + 8 * i2 + 6)) dX8_endDay_191 rfl zokc_26 (by decide) (by decide) rfl rfl hf3 (fun _ => rfl) ?_
      refine v_iinc (n := 195) (x := nI i2) (y := nI (i2 + 1)) (L' := [(0, .ref (zad G.1 10 0 0)), (1, .int y1), (2, .int (nI (i2 + 1))), (3, .int (nI (132 + 8 * i2)))]) dX8_endDay_192 rfl rfl (nI_1 i2) (by decide) rfl ?_
      refine v_goto (n := 137) dX8_endDay_195 (by decide) ?_
      exact v_pick [0, 1, 2] rfl h

set_option maxRecDepth 20000 in
set_option maxHeartbeats 4000000 in
theorem wX8_layAside (G : Gl) {P : Option Value → St → Prop} {X : String → St → Prop}  (μ : St)
    (h : VL G mX8_layAside P X 2 [(0, .ref (zad G.1 10 0 0)), (1, .int (nI 0))] [] μ) :
    Con G mX8_layAside [.ref (zad G.1 10 0 0)] μ P X := by
  refine con_of pn_X8 rfl (Nat.le_of_ble_eq_true rfl) ?_
  show VL G mX8_layAside P X 0 [(0, .ref (zad G.1 10 0 0))] [] μ
  refine v_iconst (n := 1) (x := nI 0) dX8_layAside_0 rfl (by decide) ?_
  refine v_istore_n (n := 2) (L' := [(0, .ref (zad G.1 10 0 0)), (1, .int (nI 0))]) dX8_layAside_1 rfl (by decide) rfl ?_
  exact h

set_option maxRecDepth 20000 in
set_option maxHeartbeats 4000000 in
theorem wX8_layAside_2 (G : Gl) {P : Option Value → St → Prop} {X : String → St → Prop} (i1 : Nat) (μ : St)
    (h : ((nI 372 ≤ nI i1 → P none μ) ∧ (¬ nI 372 ≤ nI i1 → i1 < 372 ∧ VL G mX8_layAside P X 2 [(0, .ref (zad G.1 10 0 0)), (1, .int (nI (i1 + 1)))] [] (up μ 29 0 0 i1 (μ 26 0 0 i1))))) :
    VL G mX8_layAside P X 2 [(0, .ref (zad G.1 10 0 0)), (1, .int (nI i1))] [] μ := by
  refine v_iload_n (n := 3) dX8_layAside_2 rfl rfl ?_
  refine v_sipush (n := 6) (x := nI 372) dX8_layAside_3 rfl (by decide) ?_
  refine v_icmp_ge (n := 9) (t := 27) dX8_layAside_6 rfl (by decide) (fun hq => ?_) (fun hq => ?_)
  · replace h := h.1 hq
    exact v_vret dX8_layAside_27 rfl (Nat.le_of_ble_eq_true rfl) (Nat.le_of_ble_eq_true rfl) h
  · replace h := h.2 hq
    refine v_aload_n (n := 10) dX8_layAside_9 rfl rfl ?_
    refine v_getf (n := 13) dX8_layAside_10 rfl fl_X8_19 zokc_10 rfl ?_
    refine v_iload_n (n := 14) dX8_layAside_13 rfl rfl ?_
    refine v_aload_n (n := 15) dX8_layAside_14 rfl rfl ?_
    refine v_getf (n := 18) dX8_layAside_15 rfl fl_X8_9 zokc_10 rfl ?_
    refine v_iload_n (n := 19) dX8_layAside_18 rfl rfl ?_
    obtain ⟨hf1, h⟩ := h
    refine v_iald (n := 20) (j := i1) dX8_layAside_19 rfl zokc_26 (by decide) rfl rfl hf1 (rfl) ?_
    refine v_iast (n := 21) (j := i1) dX8_layAside_20 rfl zokc_29 (by decide) (by decide) rfl rfl hf1 (fun _ => rfl) ?_
    refine v_iinc (n := 24) (x := nI i1) (y := nI (i1 + 1)) (L' := [(0, .ref (zad G.1 10 0 0)), (1, .int (nI (i1 + 1)))]) dX8_layAside_21 rfl rfl (nI_1 i1) (by decide) rfl ?_
    refine v_goto (n := 2) dX8_layAside_24 (by decide) ?_
    exact h

set_option maxRecDepth 20000 in
set_option maxHeartbeats 4000000 in
theorem wX8_takeBack (G : Gl) {P : Option Value → St → Prop} {X : String → St → Prop}  (μ : St)
    (h : VL G mX8_takeBack P X 2 [(0, .ref (zad G.1 10 0 0)), (1, .int (nI 0))] [] μ) :
    Con G mX8_takeBack [.ref (zad G.1 10 0 0)] μ P X := by
  refine con_of pn_X8 rfl (Nat.le_of_ble_eq_true rfl) ?_
  show VL G mX8_takeBack P X 0 [(0, .ref (zad G.1 10 0 0))] [] μ
  refine v_iconst (n := 1) (x := nI 0) dX8_takeBack_0 rfl (by decide) ?_
  refine v_istore_n (n := 2) (L' := [(0, .ref (zad G.1 10 0 0)), (1, .int (nI 0))]) dX8_takeBack_1 rfl (by decide) rfl ?_
  exact h

set_option maxRecDepth 20000 in
set_option maxHeartbeats 4000000 in
theorem wX8_takeBack_2 (G : Gl) {P : Option Value → St → Prop} {X : String → St → Prop} (i1 : Nat) (μ : St)
    (h : ((nI 372 ≤ nI i1 → P none μ) ∧ (¬ nI 372 ≤ nI i1 → i1 < 372 ∧ VL G mX8_takeBack P X 2 [(0, .ref (zad G.1 10 0 0)), (1, .int (nI (i1 + 1)))] [] (up μ 26 0 0 i1 (μ 29 0 0 i1))))) :
    VL G mX8_takeBack P X 2 [(0, .ref (zad G.1 10 0 0)), (1, .int (nI i1))] [] μ := by
  refine v_iload_n (n := 3) dX8_takeBack_2 rfl rfl ?_
  refine v_sipush (n := 6) (x := nI 372) dX8_takeBack_3 rfl (by decide) ?_
  refine v_icmp_ge (n := 9) (t := 27) dX8_takeBack_6 rfl (by decide) (fun hq => ?_) (fun hq => ?_)
  · replace h := h.1 hq
    exact v_vret dX8_takeBack_27 rfl (Nat.le_of_ble_eq_true rfl) (Nat.le_of_ble_eq_true rfl) h
  · replace h := h.2 hq
    refine v_aload_n (n := 10) dX8_takeBack_9 rfl rfl ?_
    refine v_getf (n := 13) dX8_takeBack_10 rfl fl_X8_9 zokc_10 rfl ?_
    refine v_iload_n (n := 14) dX8_takeBack_13 rfl rfl ?_
    refine v_aload_n (n := 15) dX8_takeBack_14 rfl rfl ?_
    refine v_getf (n := 18) dX8_takeBack_15 rfl fl_X8_19 zokc_10 rfl ?_
    refine v_iload_n (n := 19) dX8_takeBack_18 rfl rfl ?_
    obtain ⟨hf1, h⟩ := h
    refine v_iald (n := 20) (j := i1) dX8_takeBack_19 rfl zokc_29 (by decide) rfl rfl hf1 (rfl) ?_
    refine v_iast (n := 21) (j := i1) dX8_takeBack_20 rfl zokc_26 (by decide) (by decide) rfl rfl hf1 (fun _ => rfl) ?_
    refine v_iinc (n := 24) (x := nI i1) (y := nI (i1 + 1)) (L' := [(0, .ref (zad G.1 10 0 0)), (1, .int (nI (i1 + 1)))]) dX8_takeBack_21 rfl rfl (nI_1 i1) (by decide) rfl ?_
    refine v_goto (n := 2) dX8_takeBack_24 (by decide) ?_
    exact h

set_option maxRecDepth 20000 in
set_option maxHeartbeats 4000000 in
theorem wX8_arrival (G : Gl) {P : Option Value → St → Prop} {X : String → St → Prop} (x1 : Int32) (μ : St)
    (h : ((mix (up μ 10 0 0 6 (nI 0)) 5 x1 = true → ∃ j1 : Nat, (nI 212 + nI 10 * x1) + (nI 4) = nI j1 ∧ j1 < 372 ∧ ((¬ μ 26 0 0 j1 = nI 4 → Con G mX8_layAside [.ref (zad G.1 10 0 0)] (up μ 10 0 0 6 (nI 0)) (fun v μ1 => v = none ∧ VL G mX8_arrival P X 46 [(0, .ref (zad G.1 10 0 0)), (1, .int x1), (2, .int (nI 0))] [] μ1) noX) ∧ (μ 26 0 0 j1 = nI 4 → P (some (.int (nI 0))) (up (up μ 10 0 0 6 (nI 0)) 10 0 0 6 (nI 2))))) ∧ (mix (up μ 10 0 0 6 (nI 0)) 5 x1 = false → P (some (.int (nI 0))) (up (up μ 10 0 0 6 (nI 0)) 10 0 0 6 (nI 1))))) :
    Con G mX8_arrival [.ref (zad G.1 10 0 0), .int x1] μ P X := by
  refine con_of pn_X8 rfl (Nat.le_of_ble_eq_true rfl) ?_
  show VL G mX8_arrival P X 0 [(0, .ref (zad G.1 10 0 0)), (1, .int x1)] [] μ
  refine v_aload_n (n := 1) dX8_arrival_0 rfl rfl ?_
  refine v_iconst (n := 2) (x := nI 0) dX8_arrival_1 rfl (by decide) ?_
  refine v_putf (n := 5) dX8_arrival_2 rfl fw_X8_41 zokc_10 (fun _ => rfl) rfl rfl ?_
  refine v_aload_n (n := 6) dX8_arrival_5 rfl rfl ?_
  refine v_iload_n (n := 7) dX8_arrival_6 rfl rfl ?_
  refine v_callV (n := 10) (k := 10) (b := 0) (i := 0) (As := [.int x1]) (rest := []) dX8_arrival_7 rfl lk_X8_92 rfl rfl (Nat.le_of_ble_eq_true rfl) ⟨Nat.le_of_ble_eq_true rfl, Nat.le_of_ble_eq_true rfl, Nat.le_of_ble_eq_true rfl, Nat.le_of_ble_eq_true rfl⟩ zokc_10 (s_X8_isGuest G x1 (up μ 10 0 0 6 (nI 0))) (fun v μ9 hp => ?_) (fun _ _ hp => False.elim hp)
  rw [hp.1, hp.2]
  refine v_norm (st' := [.int (bI (mix (up μ 10 0 0 6 (nI 0)) 5 x1))]) (cells' := 0) (slots' := 0) rfl rfl rfl ?_
  refine v_if_ne (n := 13) (t := 19) dX8_arrival_10 rfl (by decide) (fun hq => ?_) (fun hq => ?_)
  · replace h := h.1 (bI_nf hq)
    refine v_aload_n (n := 20) dX8_arrival_19 rfl rfl ?_
    refine v_getf (n := 23) dX8_arrival_20 rfl fl_X8_9 zokc_10 rfl ?_
    refine v_iload_n (n := 24) dX8_arrival_23 rfl rfl ?_
    refine v_callS (n := 27) (As := [.int x1]) (rest := [.ref (zad G.1 26 0 0)]) dX8_arrival_24 rfl lk_X8_71 rfl rfl (Nat.le_of_ble_eq_true rfl) ⟨Nat.le_of_ble_eq_true rfl, Nat.le_of_ble_eq_true rfl, Nat.le_of_ble_eq_true rfl, Nat.le_of_ble_eq_true rfl⟩ (s_X8_guest0 G x1 (up μ 10 0 0 6 (nI 0))) (fun v μ9 hp => ?_) (fun _ _ hp => False.elim hp)
    rw [hp.1, hp.2]
    refine v_norm (st' := [.int (nI 212 + nI 10 * x1), .ref (zad G.1 26 0 0)]) (cells' := 0) (slots' := 0) rfl rfl rfl ?_
    refine v_iconst (n := 28) (x := nI 4) dX8_arrival_27 rfl (by decide) ?_
    refine v_iadd (n := 29) dX8_arrival_28 rfl ?_
    obtain ⟨j1, ej1, hj1, h⟩ := h
    refine v_iald (n := 30) (j := j1) dX8_arrival_29 rfl zokc_26 (by decide) rfl ej1 hj1 (congrArg Value.int (up_k (by decide))) ?_
    refine v_iconst (n := 31) (x := nI 4) dX8_arrival_30 rfl (by decide) ?_
    refine v_icmp_ne (n := 34) (t := 40) dX8_arrival_31 rfl (by decide) (fun hq => ?_) (fun hq => ?_)
    · replace h := h.1 hq
      refine v_aload_n (n := 41) dX8_arrival_40 rfl rfl ?_
      refine v_callV (n := 44) (k := 10) (b := 0) (i := 0) (As := []) (rest := []) dX8_arrival_41 rfl lk_X8_149 rfl rfl (Nat.le_of_ble_eq_true rfl) ⟨Nat.le_of_ble_eq_true rfl, Nat.le_of_ble_eq_true rfl, Nat.le_of_ble_eq_true rfl, Nat.le_of_ble_eq_true rfl⟩ zokc_10 h (fun v μ1 h => ?_) (fun _ _ hp => False.elim hp)
      obtain ⟨rfl, h⟩ := h
      refine v_norm (st' := []) (cells' := 0) (slots' := 0) rfl rfl rfl ?_
      refine v_iconst (n := 45) (x := nI 0) dX8_arrival_44 rfl (by decide) ?_
      refine v_istore_n (n := 46) (L' := [(0, .ref (zad G.1 10 0 0)), (1, .int x1), (2, .int (nI 0))]) dX8_arrival_45 rfl (by decide) rfl ?_
      exact h
    · replace h := h.2 hq
      refine v_aload_n (n := 35) dX8_arrival_34 rfl rfl ?_
      refine v_iconst (n := 36) (x := nI 2) dX8_arrival_35 rfl (by decide) ?_
      refine v_callV (n := 39) (k := 10) (b := 0) (i := 0) (As := [.int (nI 2)]) (rest := []) dX8_arrival_36 rfl lk_X8_62 rfl rfl (Nat.le_of_ble_eq_true rfl) ⟨Nat.le_of_ble_eq_true rfl, Nat.le_of_ble_eq_true rfl, Nat.le_of_ble_eq_true rfl, Nat.le_of_ble_eq_true rfl⟩ zokc_10 (s_X8_refuse G (nI 2) (up μ 10 0 0 6 (nI 0))) (fun v μ9 hp => ?_) (fun _ _ hp => False.elim hp)
      rw [hp.1, hp.2]
      refine v_norm (st' := [.int (nI 0)]) (cells' := 0) (slots' := 0) rfl rfl rfl ?_
      exact v_iret dX8_arrival_39 rfl (Nat.le_of_ble_eq_true rfl) (Nat.le_of_ble_eq_true rfl) h
  · replace h := h.2 (bI_f hq)
    refine v_aload_n (n := 14) dX8_arrival_13 rfl rfl ?_
    refine v_iconst (n := 15) (x := nI 1) dX8_arrival_14 rfl (by decide) ?_
    refine v_callV (n := 18) (k := 10) (b := 0) (i := 0) (As := [.int (nI 1)]) (rest := []) dX8_arrival_15 rfl lk_X8_62 rfl rfl (Nat.le_of_ble_eq_true rfl) ⟨Nat.le_of_ble_eq_true rfl, Nat.le_of_ble_eq_true rfl, Nat.le_of_ble_eq_true rfl, Nat.le_of_ble_eq_true rfl⟩ zokc_10 (s_X8_refuse G (nI 1) (up μ 10 0 0 6 (nI 0))) (fun v μ9 hp => ?_) (fun _ _ hp => False.elim hp)
    rw [hp.1, hp.2]
    refine v_norm (st' := [.int (nI 0)]) (cells' := 0) (slots' := 0) rfl rfl rfl ?_
    exact v_iret dX8_arrival_18 rfl (Nat.le_of_ble_eq_true rfl) (Nat.le_of_ble_eq_true rfl) h

set_option maxRecDepth 20000 in
set_option maxHeartbeats 4000000 in
theorem wX8_arrival_46 (G : Gl) {P : Option Value → St → Prop} {X : String → St → Prop} (x1 : Int32) (i2 : Nat) (μ : St)
    (h : ((nI 60 ≤ nI i2 → ∃ j1 : Nat, (nI 212 + nI 10 * x1) + (nI 4) = nI j1 ∧ j1 < 372 ∧ ((¬ μ 26 0 0 j1 = 0 → Con G mX8_takeBack [.ref (zad G.1 10 0 0)] μ (fun v μ1 => v = none ∧ P (some (.int (nI 0))) (up μ1 10 0 0 6 (nI 2))) noX) ∧ (μ 26 0 0 j1 = 0 → Con G mX8_takeBack [.ref (zad G.1 10 0 0)] μ (fun v μ2 => v = none ∧ P (some (.int (nI i2))) μ2) noX))) ∧ (¬ nI 60 ≤ nI i2 → ∃ j2 : Nat, (nI 212 + nI 10 * x1) + (nI 4) = nI j2 ∧ j2 < 372 ∧ ((μ 26 0 0 j2 = 0 → ∃ j3 : Nat, (nI 212 + nI 10 * x1) + (nI 4) = nI j3 ∧ j3 < 372 ∧ ((¬ μ 26 0 0 j3 = 0 → Con G mX8_takeBack [.ref (zad G.1 10 0 0)] μ (fun v μ3 => v = none ∧ P (some (.int (nI 0))) (up μ3 10 0 0 6 (nI 2))) noX) ∧ (μ 26 0 0 j3 = 0 → Con G mX8_takeBack [.ref (zad G.1 10 0 0)] μ (fun v μ4 => v = none ∧ P (some (.int (nI i2))) μ4) noX))) ∧ (¬ μ 26 0 0 j2 = 0 → Con G mX8_tick [.ref (zad G.1 10 0 0)] μ (fun v μ5 => v = none ∧ VL G mX8_arrival P X 46 [(0, .ref (zad G.1 10 0 0)), (1, .int x1), (2, .int (nI (i2 + 1)))] [] μ5) noX))))) :
    VL G mX8_arrival P X 46 [(0, .ref (zad G.1 10 0 0)), (1, .int x1), (2, .int (nI i2))] [] μ := by
  refine v_iload_n (n := 47) dX8_arrival_46 rfl rfl ?_
  refine v_bipush (n := 49) (x := nI 60) dX8_arrival_47 rfl (by decide) ?_
  refine v_icmp_ge (n := 52) (t := 76) dX8_arrival_49 rfl (by decide) (fun hq => ?_) (fun hq => ?_)
  · replace h := h.1 hq
    refine v_aload_n (n := 77) dX8_arrival_76 rfl rfl ?_
    refine v_getf (n := 80) dX8_arrival_77 rfl fl_X8_9 zokc_10 rfl ?_
    refine v_iload_n (n := 81) dX8_arrival_80 rfl rfl ?_
    refine v_callS (n := 84) (As := [.int x1]) (rest := [.ref (zad G.1 26 0 0)]) dX8_arrival_81 rfl lk_X8_71 rfl rfl (Nat.le_of_ble_eq_true rfl) ⟨Nat.le_of_ble_eq_true rfl, Nat.le_of_ble_eq_true rfl, Nat.le_of_ble_eq_true rfl, Nat.le_of_ble_eq_true rfl⟩ (s_X8_guest0 G x1 μ) (fun v μ9 hp => ?_) (fun _ _ hp => False.elim hp)
    rw [hp.1, hp.2]
    refine v_norm (st' := [.int (nI 212 + nI 10 * x1), .ref (zad G.1 26 0 0)]) (cells' := 0) (slots' := 0) rfl rfl rfl ?_
    refine v_iconst (n := 85) (x := nI 4) dX8_arrival_84 rfl (by decide) ?_
    refine v_iadd (n := 86) dX8_arrival_85 rfl ?_
    obtain ⟨j1, ej1, hj1, h⟩ := h
    refine v_iald (n := 87) (j := j1) dX8_arrival_86 rfl zokc_26 (by decide) rfl ej1 hj1 (rfl) ?_
    refine v_if_ne (n := 90) (t := 94) dX8_arrival_87 rfl (by decide) (fun hq => ?_) (fun hq => ?_)
    · replace h := h.1 hq
      refine v_iconst (n := 95) (x := nI 0) dX8_arrival_94 rfl (by decide) ?_
      refine v_istore_n (n := 96) (L' := [(0, .ref (zad G.1 10 0 0)), (1, .int x1), (2, .int (nI i2)), (3, .int (nI 0))]) dX8_arrival_95 rfl (by decide) rfl ?_
      refine v_aload_n (n := 97) dX8_arrival_96 rfl rfl ?_
      refine v_callV (n := 100) (k := 10) (b := 0) (i := 0) (As := []) (rest := []) dX8_arrival_97 rfl lk_X8_152 rfl rfl (Nat.le_of_ble_eq_true rfl) ⟨Nat.le_of_ble_eq_true rfl, Nat.le_of_ble_eq_true rfl, Nat.le_of_ble_eq_true rfl, Nat.le_of_ble_eq_true rfl⟩ zokc_10 h (fun v μ1 h => ?_) (fun _ _ hp => False.elim hp)
      obtain ⟨rfl, h⟩ := h
      refine v_norm (st' := []) (cells' := 0) (slots' := 0) rfl rfl rfl ?_
      refine v_iload_n (n := 101) dX8_arrival_100 rfl rfl ?_
      refine v_if_eq (n := 104) (t := 108) dX8_arrival_101 rfl (by decide) (fun _ => ?_) (fun hq => absurd (by decide) hq)
      refine v_aload_n (n := 109) dX8_arrival_108 rfl rfl ?_
      refine v_iconst (n := 110) (x := nI 2) dX8_arrival_109 rfl (by decide) ?_
      refine v_callV (n := 113) (k := 10) (b := 0) (i := 0) (As := [.int (nI 2)]) (rest := []) dX8_arrival_110 rfl lk_X8_62 rfl rfl (Nat.le_of_ble_eq_true rfl) ⟨Nat.le_of_ble_eq_true rfl, Nat.le_of_ble_eq_true rfl, Nat.le_of_ble_eq_true rfl, Nat.le_of_ble_eq_true rfl⟩ zokc_10 (s_X8_refuse G (nI 2) μ1) (fun v μ9 hp => ?_) (fun _ _ hp => False.elim hp)
      rw [hp.1, hp.2]
      refine v_norm (st' := [.int (nI 0)]) (cells' := 0) (slots' := 0) rfl rfl rfl ?_
      exact v_iret dX8_arrival_113 rfl (Nat.le_of_ble_eq_true rfl) (Nat.le_of_ble_eq_true rfl) h
    · replace h := h.2 hq
      refine v_iconst (n := 91) (x := nI 1) dX8_arrival_90 rfl (by decide) ?_
      refine v_goto (n := 95) dX8_arrival_91 (by decide) ?_
      refine v_istore_n (n := 96) (L' := [(0, .ref (zad G.1 10 0 0)), (1, .int x1), (2, .int (nI i2)), (3, .int (nI 1))]) dX8_arrival_95 rfl (by decide) rfl ?_
      refine v_aload_n (n := 97) dX8_arrival_96 rfl rfl ?_
      refine v_callV (n := 100) (k := 10) (b := 0) (i := 0) (As := []) (rest := []) dX8_arrival_97 rfl lk_X8_152 rfl rfl (Nat.le_of_ble_eq_true rfl) ⟨Nat.le_of_ble_eq_true rfl, Nat.le_of_ble_eq_true rfl, Nat.le_of_ble_eq_true rfl, Nat.le_of_ble_eq_true rfl⟩ zokc_10 h (fun v μ2 h => ?_) (fun _ _ hp => False.elim hp)
      obtain ⟨rfl, h⟩ := h
      refine v_norm (st' := []) (cells' := 0) (slots' := 0) rfl rfl rfl ?_
      refine v_iload_n (n := 101) dX8_arrival_100 rfl rfl ?_
      refine v_if_eq (n := 104) (t := 108) dX8_arrival_101 rfl (by decide) (fun hq => absurd hq (by decide)) (fun _ => ?_)
      refine v_iload_n (n := 105) dX8_arrival_104 rfl rfl ?_
      refine v_goto (n := 113) dX8_arrival_105 (by decide) ?_
      exact v_iret dX8_arrival_113 rfl (Nat.le_of_ble_eq_true rfl) (Nat.le_of_ble_eq_true rfl) h
  · replace h := h.2 hq
    refine v_aload_n (n := 53) dX8_arrival_52 rfl rfl ?_
    refine v_getf (n := 56) dX8_arrival_53 rfl fl_X8_9 zokc_10 rfl ?_
    refine v_iload_n (n := 57) dX8_arrival_56 rfl rfl ?_
    refine v_callS (n := 60) (As := [.int x1]) (rest := [.ref (zad G.1 26 0 0)]) dX8_arrival_57 rfl lk_X8_71 rfl rfl (Nat.le_of_ble_eq_true rfl) ⟨Nat.le_of_ble_eq_true rfl, Nat.le_of_ble_eq_true rfl, Nat.le_of_ble_eq_true rfl, Nat.le_of_ble_eq_true rfl⟩ (s_X8_guest0 G x1 μ) (fun v μ9 hp => ?_) (fun _ _ hp => False.elim hp)
    rw [hp.1, hp.2]
    refine v_norm (st' := [.int (nI 212 + nI 10 * x1), .ref (zad G.1 26 0 0)]) (cells' := 0) (slots' := 0) rfl rfl rfl ?_
    refine v_iconst (n := 61) (x := nI 4) dX8_arrival_60 rfl (by decide) ?_
    refine v_iadd (n := 62) dX8_arrival_61 rfl ?_
    obtain ⟨j2, ej2, hj2, h⟩ := h
    refine v_iald (n := 63) (j := j2) dX8_arrival_62 rfl zokc_26 (by decide) rfl ej2 hj2 (rfl) ?_
    refine v_if_eq (n := 66) (t := 76) dX8_arrival_63 rfl (by decide) (fun hq => ?_) (fun hq => ?_)
    · replace h := h.1 hq
      refine v_aload_n (n := 77) dX8_arrival_76 rfl rfl ?_
      refine v_getf (n := 80) dX8_arrival_77 rfl fl_X8_9 zokc_10 rfl ?_
      refine v_iload_n (n := 81) dX8_arrival_80 rfl rfl ?_
      refine v_callS (n := 84) (As := [.int x1]) (rest := [.ref (zad G.1 26 0 0)]) dX8_arrival_81 rfl lk_X8_71 rfl rfl (Nat.le_of_ble_eq_true rfl) ⟨Nat.le_of_ble_eq_true rfl, Nat.le_of_ble_eq_true rfl, Nat.le_of_ble_eq_true rfl, Nat.le_of_ble_eq_true rfl⟩ (s_X8_guest0 G x1 μ) (fun v μ9 hp => ?_) (fun _ _ hp => False.elim hp)
      rw [hp.1, hp.2]
      refine v_norm (st' := [.int (nI 212 + nI 10 * x1), .ref (zad G.1 26 0 0)]) (cells' := 0) (slots' := 0) rfl rfl rfl ?_
      refine v_iconst (n := 85) (x := nI 4) dX8_arrival_84 rfl (by decide) ?_
      refine v_iadd (n := 86) dX8_arrival_85 rfl ?_
      obtain ⟨j3, ej3, hj3, h⟩ := h
      refine v_iald (n := 87) (j := j3) dX8_arrival_86 rfl zokc_26 (by decide) rfl ej3 hj3 (rfl) ?_
      refine v_if_ne (n := 90) (t := 94) dX8_arrival_87 rfl (by decide) (fun hq => ?_) (fun hq => ?_)
      · replace h := h.1 hq
        refine v_iconst (n := 95) (x := nI 0) dX8_arrival_94 rfl (by decide) ?_
        refine v_istore_n (n := 96) (L' := [(0, .ref (zad G.1 10 0 0)), (1, .int x1), (2, .int (nI i2)), (3, .int (nI 0))]) dX8_arrival_95 rfl (by decide) rfl ?_
        refine v_aload_n (n := 97) dX8_arrival_96 rfl rfl ?_
        refine v_callV (n := 100) (k := 10) (b := 0) (i := 0) (As := []) (rest := []) dX8_arrival_97 rfl lk_X8_152 rfl rfl (Nat.le_of_ble_eq_true rfl) ⟨Nat.le_of_ble_eq_true rfl, Nat.le_of_ble_eq_true rfl, Nat.le_of_ble_eq_true rfl, Nat.le_of_ble_eq_true rfl⟩ zokc_10 h (fun v μ3 h => ?_) (fun _ _ hp => False.elim hp)
        obtain ⟨rfl, h⟩ := h
        refine v_norm (st' := []) (cells' := 0) (slots' := 0) rfl rfl rfl ?_
        refine v_iload_n (n := 101) dX8_arrival_100 rfl rfl ?_
        refine v_if_eq (n := 104) (t := 108) dX8_arrival_101 rfl (by decide) (fun _ => ?_) (fun hq => absurd (by decide) hq)
        refine v_aload_n (n := 109) dX8_arrival_108 rfl rfl ?_
        refine v_iconst (n := 110) (x := nI 2) dX8_arrival_109 rfl (by decide) ?_
        refine v_callV (n := 113) (k := 10) (b := 0) (i := 0) (As := [.int (nI 2)]) (rest := []) dX8_arrival_110 rfl lk_X8_62 rfl rfl (Nat.le_of_ble_eq_true rfl) ⟨Nat.le_of_ble_eq_true rfl, Nat.le_of_ble_eq_true rfl, Nat.le_of_ble_eq_true rfl, Nat.le_of_ble_eq_true rfl⟩ zokc_10 (s_X8_refuse G (nI 2) μ3) (fun v μ9 hp => ?_) (fun _ _ hp => False.elim hp)
        rw [hp.1, hp.2]
        refine v_norm (st' := [.int (nI 0)]) (cells' := 0) (slots' := 0) rfl rfl rfl ?_
        exact v_iret dX8_arrival_113 rfl (Nat.le_of_ble_eq_true rfl) (Nat.le_of_ble_eq_true rfl) h
      · replace h := h.2 hq
        refine v_iconst (n := 91) (x := nI 1) dX8_arrival_90 rfl (by decide) ?_
        refine v_goto (n := 95) dX8_arrival_91 (by decide) ?_
        refine v_istore_n (n := 96) (L' := [(0, .ref (zad G.1 10 0 0)), (1, .int x1), (2, .int (nI i2)), (3, .int (nI 1))]) dX8_arrival_95 rfl (by decide) rfl ?_
        refine v_aload_n (n := 97) dX8_arrival_96 rfl rfl ?_
        refine v_callV (n := 100) (k := 10) (b := 0) (i := 0) (As := []) (rest := []) dX8_arrival_97 rfl lk_X8_152 rfl rfl (Nat.le_of_ble_eq_true rfl) ⟨Nat.le_of_ble_eq_true rfl, Nat.le_of_ble_eq_true rfl, Nat.le_of_ble_eq_true rfl, Nat.le_of_ble_eq_true rfl⟩ zokc_10 h (fun v μ4 h => ?_) (fun _ _ hp => False.elim hp)
        obtain ⟨rfl, h⟩ := h
        refine v_norm (st' := []) (cells' := 0) (slots' := 0) rfl rfl rfl ?_
        refine v_iload_n (n := 101) dX8_arrival_100 rfl rfl ?_
        refine v_if_eq (n := 104) (t := 108) dX8_arrival_101 rfl (by decide) (fun hq => absurd hq (by decide)) (fun _ => ?_)
        refine v_iload_n (n := 105) dX8_arrival_104 rfl rfl ?_
        refine v_goto (n := 113) dX8_arrival_105 (by decide) ?_
        exact v_iret dX8_arrival_113 rfl (Nat.le_of_ble_eq_true rfl) (Nat.le_of_ble_eq_true rfl) h
    · replace h := h.2 hq
      refine v_aload_n (n := 67) dX8_arrival_66 rfl rfl ?_
      refine v_callV (n := 70) (k := 10) (b := 0) (i := 0) (As := []) (rest := []) dX8_arrival_67 rfl lk_X8_143 rfl rfl (Nat.le_of_ble_eq_true rfl) ⟨Nat.le_of_ble_eq_true rfl, Nat.le_of_ble_eq_true rfl, Nat.le_of_ble_eq_true rfl, Nat.le_of_ble_eq_true rfl⟩ zokc_10 h (fun v μ5 h => ?_) (fun _ _ hp => False.elim hp)
      obtain ⟨rfl, h⟩ := h
      refine v_norm (st' := []) (cells' := 0) (slots' := 0) rfl rfl rfl ?_
      refine v_iinc (n := 73) (x := nI i2) (y := nI (i2 + 1)) (L' := [(0, .ref (zad G.1 10 0 0)), (1, .int x1), (2, .int (nI (i2 + 1)))]) dX8_arrival_70 rfl rfl (nI_1 i2) (by decide) rfl ?_
      refine v_goto (n := 46) dX8_arrival_73 (by decide) ?_
      exact h

set_option maxRecDepth 20000 in
set_option maxHeartbeats 4000000 in
theorem wX8_nextCabin (G : Gl) {P : Option Value → St → Prop} {X : String → St → Prop} (x1 : Int32) (μ : St)
    (h : ((mix μ 3 x1 = true → ∃ j1 : Nat, x1 = nI j1 ∧ j1 < 6 ∧ ((¬ msf μ j1 = nI 2 → ((nI 0 ≤ 0 → ∃ j2 : Nat, x1 = nI j2 ∧ j2 < 6 ∧ ∃ j3 : Nat, (nI 6 + nI 21 * x1) + (nI 3) = nI j3 ∧ j3 < 372 ∧ ∃ j4 : Nat, (nI 6 + nI 21 * x1) + (nI 7) = nI j4 ∧ j4 < 372 ∧ ¬ nI 2 - msf (up μ 10 0 0 6 (nI 0)) j2 = 0 ∧ P (some (.int ((((((nI 2) * (μ 26 0 0 j3)) - (μ 26 0 0 j4)) + (nI 2 - msf (up μ 10 0 0 6 (nI 0)) j2)) - (nI 1)) / (nI 2 - msf (up μ 10 0 0 6 (nI 0)) j2)))) (up μ 10 0 0 6 (nI 0))) ∧ (¬ nI 0 ≤ 0 → P (some (.int (nI 0))) (up μ 10 0 0 6 (nI 0))))) ∧ (msf μ j1 = nI 2 → ((nI 2 ≤ 0 → ∃ j5 : Nat, x1 = nI j5 ∧ j5 < 6 ∧ ∃ j6 : Nat, (nI 6 + nI 21 * x1) + (nI 3) = nI j6 ∧ j6 < 372 ∧ ∃ j7 : Nat, (nI 6 + nI 21 * x1) + (nI 7) = nI j7 ∧ j7 < 372 ∧ ¬ nI 2 - msf (up μ 10 0 0 6 (nI 2)) j5 = 0 ∧ P (some (.int ((((((nI 2) * (μ 26 0 0 j6)) - (μ 26 0 0 j7)) + (nI 2 - msf (up μ 10 0 0 6 (nI 2)) j5)) - (nI 1)) / (nI 2 - msf (up μ 10 0 0 6 (nI 2)) j5)))) (up μ 10 0 0 6 (nI 2))) ∧ (¬ nI 2 ≤ 0 → P (some (.int (nI 0))) (up μ 10 0 0 6 (nI 2))))))) ∧ (mix μ 3 x1 = false → ((nI 1 ≤ 0 → ∃ j8 : Nat, x1 = nI j8 ∧ j8 < 6 ∧ ∃ j9 : Nat, (nI 6 + nI 21 * x1) + (nI 3) = nI j9 ∧ j9 < 372 ∧ ∃ j10 : Nat, (nI 6 + nI 21 * x1) + (nI 7) = nI j10 ∧ j10 < 372 ∧ ¬ nI 2 - msf (up μ 10 0 0 6 (nI 1)) j8 = 0 ∧ P (some (.int ((((((nI 2) * (μ 26 0 0 j9)) - (μ 26 0 0 j10)) + (nI 2 - msf (up μ 10 0 0 6 (nI 1)) j8)) - (nI 1)) / (nI 2 - msf (up μ 10 0 0 6 (nI 1)) j8)))) (up μ 10 0 0 6 (nI 1))) ∧ (¬ nI 1 ≤ 0 → P (some (.int (nI 0))) (up μ 10 0 0 6 (nI 1))))))) :
    Con G mX8_nextCabin [.ref (zad G.1 10 0 0), .int x1] μ P X := by
  refine con_of pn_X8 rfl (Nat.le_of_ble_eq_true rfl) ?_
  show VL G mX8_nextCabin P X 0 [(0, .ref (zad G.1 10 0 0)), (1, .int x1)] [] μ
  refine v_aload_n (n := 1) dX8_nextCabin_0 rfl rfl ?_
  refine v_aload_n (n := 2) dX8_nextCabin_1 rfl rfl ?_
  refine v_iload_n (n := 3) dX8_nextCabin_2 rfl rfl ?_
  refine v_callV (n := 6) (k := 10) (b := 0) (i := 0) (As := [.int x1]) (rest := [.ref (zad G.1 10 0 0)]) dX8_nextCabin_3 rfl lk_X8_74 rfl rfl (Nat.le_of_ble_eq_true rfl) ⟨Nat.le_of_ble_eq_true rfl, Nat.le_of_ble_eq_true rfl, Nat.le_of_ble_eq_true rfl, Nat.le_of_ble_eq_true rfl⟩ zokc_10 (s_X8_isLift G x1 μ) (fun v μ9 hp => ?_) (fun _ _ hp => False.elim hp)
  rw [hp.1, hp.2]
  refine v_norm (st' := [.int (bI (mix μ 3 x1)), .ref (zad G.1 10 0 0)]) (cells' := 0) (slots' := 0) rfl rfl rfl ?_
  refine v_if_ne (n := 9) (t := 13) dX8_nextCabin_6 rfl (by decide) (fun hq => ?_) (fun hq => ?_)
  · replace h := h.1 (bI_nf hq)
    refine v_aload_n (n := 14) dX8_nextCabin_13 rfl rfl ?_
    refine v_iload_n (n := 15) dX8_nextCabin_14 rfl rfl ?_
    obtain ⟨j1, ej1, hj1, h⟩ := h
    refine v_callV (n := 18) (k := 10) (b := 0) (i := 0) (As := [.int x1]) (rest := [.ref (zad G.1 10 0 0)]) dX8_nextCabin_15 rfl lk_X8_55 rfl rfl (Nat.le_of_ble_eq_true rfl) ⟨Nat.le_of_ble_eq_true rfl, Nat.le_of_ble_eq_true rfl, Nat.le_of_ble_eq_true rfl, Nat.le_of_ble_eq_true rfl⟩ zokc_10 (s_X8_stateOf G x1 j1 ej1 hj1 μ) (fun v μ9 hp => ?_) (fun _ _ hp => False.elim hp)
    rw [hp.1, hp.2]
    refine v_norm (st' := [.int (msf μ j1), .ref (zad G.1 10 0 0)]) (cells' := 0) (slots' := 0) rfl rfl rfl ?_
    refine v_iconst (n := 19) (x := nI 2) dX8_nextCabin_18 rfl (by decide) ?_
    refine v_icmp_ne (n := 22) (t := 26) dX8_nextCabin_19 rfl (by decide) (fun hq => ?_) (fun hq => ?_)
    · replace h := h.1 hq
      refine v_iconst (n := 27) (x := nI 0) dX8_nextCabin_26 rfl (by decide) ?_
      refine v_putf (n := 30) dX8_nextCabin_27 rfl fw_X8_41 zokc_10 (fun _ => rfl) rfl rfl ?_
      refine v_aload_n (n := 31) dX8_nextCabin_30 rfl rfl ?_
      refine v_getf (n := 34) dX8_nextCabin_31 rfl fl_X8_41 zokc_10 (congrArg Value.int (up_self _ _ _ _ _ _)) ?_
      refine v_if_le (n := 37) (t := 39) dX8_nextCabin_34 rfl (by decide) (fun hq => ?_) (fun hq => ?_)
      · replace h := h.1 hq
        refine v_aload_n (n := 40) dX8_nextCabin_39 rfl rfl ?_
        refine v_iload_n (n := 41) dX8_nextCabin_40 rfl rfl ?_
        obtain ⟨j2, ej2, hj2, h⟩ := h
        refine v_callV (n := 44) (k := 10) (b := 0) (i := 0) (As := [.int x1]) (rest := []) dX8_nextCabin_41 rfl lk_X8_132 rfl rfl (Nat.le_of_ble_eq_true rfl) ⟨Nat.le_of_ble_eq_true rfl, Nat.le_of_ble_eq_true rfl, Nat.le_of_ble_eq_true rfl, Nat.le_of_ble_eq_true rfl⟩ zokc_10 (s_X8_stepOf G x1 j2 ej2 hj2 (up μ 10 0 0 6 (nI 0))) (fun v μ9 hp => ?_) (fun _ _ hp => False.elim hp)
        rw [hp.1, hp.2]
        refine v_norm (st' := [.int (nI 2 - msf (up μ 10 0 0 6 (nI 0)) j2)]) (cells' := 0) (slots' := 0) rfl rfl rfl ?_
        refine v_istore_n (n := 45) (L' := [(0, .ref (zad G.1 10 0 0)), (1, .int x1), (2, .int (nI 2 - msf (up μ 10 0 0 6 (nI 0)) j2))]) dX8_nextCabin_44 rfl (by decide) rfl ?_
        refine v_iconst (n := 46) (x := nI 2) dX8_nextCabin_45 rfl (by decide) ?_
        refine v_aload_n (n := 47) dX8_nextCabin_46 rfl rfl ?_
        refine v_getf (n := 50) dX8_nextCabin_47 rfl fl_X8_9 zokc_10 rfl ?_
        refine v_iload_n (n := 51) dX8_nextCabin_50 rfl rfl ?_
        refine v_callS (n := 54) (As := [.int x1]) (rest := [.ref (zad G.1 26 0 0), .int (nI 2)]) dX8_nextCabin_51 rfl lk_X8_51 rfl rfl (Nat.le_of_ble_eq_true rfl) ⟨Nat.le_of_ble_eq_true rfl, Nat.le_of_ble_eq_true rfl, Nat.le_of_ble_eq_true rfl, Nat.le_of_ble_eq_true rfl⟩ (s_X8_lift0 G x1 (up μ 10 0 0 6 (nI 0))) (fun v μ9 hp => ?_) (fun _ _ hp => False.elim hp)
        rw [hp.1, hp.2]
        refine v_norm (st' := [.int (nI 6 + nI 21 * x1), .ref (zad G.1 26 0 0), .int (nI 2)]) (cells' := 0) (slots' := 0) rfl rfl rfl ?_
        refine v_iconst (n := 55) (x := nI 3) dX8_nextCabin_54 rfl (by decide) ?_
        refine v_iadd (n := 56) dX8_nextCabin_55 rfl ?_
        obtain ⟨j3, ej3, hj3, h⟩ := h
        refine v_iald (n := 57) (j := j3) dX8_nextCabin_56 rfl zokc_26 (by decide) rfl ej3 hj3 (congrArg Value.int (up_k (by decide))) ?_
        refine v_imul (n := 58) dX8_nextCabin_57 rfl ?_
        refine v_aload_n (n := 59) dX8_nextCabin_58 rfl rfl ?_
        refine v_getf (n := 62) dX8_nextCabin_59 rfl fl_X8_9 zokc_10 rfl ?_
        refine v_iload_n (n := 63) dX8_nextCabin_62 rfl rfl ?_
        refine v_callS (n := 66) (As := [.int x1]) (rest := [.ref (zad G.1 26 0 0), .int ((nI 2) * (μ 26 0 0 j3))]) dX8_nextCabin_63 rfl lk_X8_51 rfl rfl (Nat.le_of_ble_eq_true rfl) ⟨Nat.le_of_ble_eq_true rfl, Nat.le_of_ble_eq_true rfl, Nat.le_of_ble_eq_true rfl, Nat.le_of_ble_eq_true rfl⟩ (s_X8_lift0 G x1 (up μ 10 0 0 6 (nI 0))) (fun v μ9 hp => ?_) (fun _ _ hp => False.elim hp)
        rw [hp.1, hp.2]
        refine v_norm (st' := [.int (nI 6 + nI 21 * x1), .ref (zad G.1 26 0 0), .int ((nI 2) * (μ 26 0 0 j3))]) (cells' := 0) (slots' := 0) rfl rfl rfl ?_
        refine v_bipush (n := 68) (x := nI 7) dX8_nextCabin_66 rfl (by decide) ?_
        refine v_iadd (n := 69) dX8_nextCabin_68 rfl ?_
        obtain ⟨j4, ej4, hj4, h⟩ := h
        refine v_iald (n := 70) (j := j4) dX8_nextCabin_69 rfl zokc_26 (by decide) rfl ej4 hj4 (congrArg Value.int (up_k (by decide))) ?_
        refine v_isub (n := 71) dX8_nextCabin_70 rfl ?_
        refine v_istore_n (n := 72) (L' := [(0, .ref (zad G.1 10 0 0)), (1, .int x1), (2, .int (nI 2 - msf (up μ 10 0 0 6 (nI 0)) j2)), (3, .int (((nI 2) * (μ 26 0 0 j3)) - (μ 26 0 0 j4)))]) dX8_nextCabin_71 rfl (by decide) rfl ?_
        refine v_iload_n (n := 73) dX8_nextCabin_72 rfl rfl ?_
        refine v_iload_n (n := 74) dX8_nextCabin_73 rfl rfl ?_
        refine v_iadd (n := 75) dX8_nextCabin_74 rfl ?_
        refine v_iconst (n := 76) (x := nI 1) dX8_nextCabin_75 rfl (by decide) ?_
        refine v_isub (n := 77) dX8_nextCabin_76 rfl ?_
        refine v_iload_n (n := 78) dX8_nextCabin_77 rfl rfl ?_
        obtain ⟨hf1, h⟩ := h
        refine v_idiv (n := 79) dX8_nextCabin_78 rfl hf1 ?_
        exact v_iret dX8_nextCabin_79 rfl (Nat.le_of_ble_eq_true rfl) (Nat.le_of_ble_eq_true rfl) h
      · replace h := h.2 hq
        refine v_iconst (n := 38) (x := nI 0) dX8_nextCabin_37 rfl (by decide) ?_
        exact v_iret dX8_nextCabin_38 rfl (Nat.le_of_ble_eq_true rfl) (Nat.le_of_ble_eq_true rfl) h
    · replace h := h.2 hq
      refine v_iconst (n := 23) (x := nI 2) dX8_nextCabin_22 rfl (by decide) ?_
      refine v_goto (n := 27) dX8_nextCabin_23 (by decide) ?_
      refine v_putf (n := 30) dX8_nextCabin_27 rfl fw_X8_41 zokc_10 (fun _ => rfl) rfl rfl ?_
      refine v_aload_n (n := 31) dX8_nextCabin_30 rfl rfl ?_
      refine v_getf (n := 34) dX8_nextCabin_31 rfl fl_X8_41 zokc_10 (congrArg Value.int (up_self _ _ _ _ _ _)) ?_
      refine v_if_le (n := 37) (t := 39) dX8_nextCabin_34 rfl (by decide) (fun hq => ?_) (fun hq => ?_)
      · replace h := h.1 hq
        refine v_aload_n (n := 40) dX8_nextCabin_39 rfl rfl ?_
        refine v_iload_n (n := 41) dX8_nextCabin_40 rfl rfl ?_
        obtain ⟨j5, ej5, hj5, h⟩ := h
        refine v_callV (n := 44) (k := 10) (b := 0) (i := 0) (As := [.int x1]) (rest := []) dX8_nextCabin_41 rfl lk_X8_132 rfl rfl (Nat.le_of_ble_eq_true rfl) ⟨Nat.le_of_ble_eq_true rfl, Nat.le_of_ble_eq_true rfl, Nat.le_of_ble_eq_true rfl, Nat.le_of_ble_eq_true rfl⟩ zokc_10 (s_X8_stepOf G x1 j5 ej5 hj5 (up μ 10 0 0 6 (nI 2))) (fun v μ9 hp => ?_) (fun _ _ hp => False.elim hp)
        rw [hp.1, hp.2]
        refine v_norm (st' := [.int (nI 2 - msf (up μ 10 0 0 6 (nI 2)) j5)]) (cells' := 0) (slots' := 0) rfl rfl rfl ?_
        refine v_istore_n (n := 45) (L' := [(0, .ref (zad G.1 10 0 0)), (1, .int x1), (2, .int (nI 2 - msf (up μ 10 0 0 6 (nI 2)) j5))]) dX8_nextCabin_44 rfl (by decide) rfl ?_
        refine v_iconst (n := 46) (x := nI 2) dX8_nextCabin_45 rfl (by decide) ?_
        refine v_aload_n (n := 47) dX8_nextCabin_46 rfl rfl ?_
        refine v_getf (n := 50) dX8_nextCabin_47 rfl fl_X8_9 zokc_10 rfl ?_
        refine v_iload_n (n := 51) dX8_nextCabin_50 rfl rfl ?_
        refine v_callS (n := 54) (As := [.int x1]) (rest := [.ref (zad G.1 26 0 0), .int (nI 2)]) dX8_nextCabin_51 rfl lk_X8_51 rfl rfl (Nat.le_of_ble_eq_true rfl) ⟨Nat.le_of_ble_eq_true rfl, Nat.le_of_ble_eq_true rfl, Nat.le_of_ble_eq_true rfl, Nat.le_of_ble_eq_true rfl⟩ (s_X8_lift0 G x1 (up μ 10 0 0 6 (nI 2))) (fun v μ9 hp => ?_) (fun _ _ hp => False.elim hp)
        rw [hp.1, hp.2]
        refine v_norm (st' := [.int (nI 6 + nI 21 * x1), .ref (zad G.1 26 0 0), .int (nI 2)]) (cells' := 0) (slots' := 0) rfl rfl rfl ?_
        refine v_iconst (n := 55) (x := nI 3) dX8_nextCabin_54 rfl (by decide) ?_
        refine v_iadd (n := 56) dX8_nextCabin_55 rfl ?_
        obtain ⟨j6, ej6, hj6, h⟩ := h
        refine v_iald (n := 57) (j := j6) dX8_nextCabin_56 rfl zokc_26 (by decide) rfl ej6 hj6 (congrArg Value.int (up_k (by decide))) ?_
        refine v_imul (n := 58) dX8_nextCabin_57 rfl ?_
        refine v_aload_n (n := 59) dX8_nextCabin_58 rfl rfl ?_
        refine v_getf (n := 62) dX8_nextCabin_59 rfl fl_X8_9 zokc_10 rfl ?_
        refine v_iload_n (n := 63) dX8_nextCabin_62 rfl rfl ?_
        refine v_callS (n := 66) (As := [.int x1]) (rest := [.ref (zad G.1 26 0 0), .int ((nI 2) * (μ 26 0 0 j6))]) dX8_nextCabin_63 rfl lk_X8_51 rfl rfl (Nat.le_of_ble_eq_true rfl) ⟨Nat.le_of_ble_eq_true rfl, Nat.le_of_ble_eq_true rfl, Nat.le_of_ble_eq_true rfl, Nat.le_of_ble_eq_true rfl⟩ (s_X8_lift0 G x1 (up μ 10 0 0 6 (nI 2))) (fun v μ9 hp => ?_) (fun _ _ hp => False.elim hp)
        rw [hp.1, hp.2]
        refine v_norm (st' := [.int (nI 6 + nI 21 * x1), .ref (zad G.1 26 0 0), .int ((nI 2) * (μ 26 0 0 j6))]) (cells' := 0) (slots' := 0) rfl rfl rfl ?_
        refine v_bipush (n := 68) (x := nI 7) dX8_nextCabin_66 rfl (by decide) ?_
        refine v_iadd (n := 69) dX8_nextCabin_68 rfl ?_
        obtain ⟨j7, ej7, hj7, h⟩ := h
        refine v_iald (n := 70) (j := j7) dX8_nextCabin_69 rfl zokc_26 (by decide) rfl ej7 hj7 (congrArg Value.int (up_k (by decide))) ?_
        refine v_isub (n := 71) dX8_nextCabin_70 rfl ?_
        refine v_istore_n (n := 72) (L' := [(0, .ref (zad G.1 10 0 0)), (1, .int x1), (2, .int (nI 2 - msf (up μ 10 0 0 6 (nI 2)) j5)), (3, .int (((nI 2) * (μ 26 0 0 j6)) - (μ 26 0 0 j7)))]) dX8_nextCabin_71 rfl (by decide) rfl ?_
        refine v_iload_n (n := 73) dX8_nextCabin_72 rfl rfl ?_
        refine v_iload_n (n := 74) dX8_nextCabin_73 rfl rfl ?_
        refine v_iadd (n := 75) dX8_nextCabin_74 rfl ?_
        refine v_iconst (n := 76) (x := nI 1) dX8_nextCabin_75 rfl (by decide) ?_
        refine v_isub (n := 77) dX8_nextCabin_76 rfl ?_
        refine v_iload_n (n := 78) dX8_nextCabin_77 rfl rfl ?_
        obtain ⟨hf2, h⟩ := h
        refine v_idiv (n := 79) dX8_nextCabin_78 rfl hf2 ?_
        exact v_iret dX8_nextCabin_79 rfl (Nat.le_of_ble_eq_true rfl) (Nat.le_of_ble_eq_true rfl) h
      · replace h := h.2 hq
        refine v_iconst (n := 38) (x := nI 0) dX8_nextCabin_37 rfl (by decide) ?_
        exact v_iret dX8_nextCabin_38 rfl (Nat.le_of_ble_eq_true rfl) (Nat.le_of_ble_eq_true rfl) h
  · replace h := h.2 (bI_f hq)
    refine v_iconst (n := 10) (x := nI 1) dX8_nextCabin_9 rfl (by decide) ?_
    refine v_goto (n := 27) dX8_nextCabin_10 (by decide) ?_
    refine v_putf (n := 30) dX8_nextCabin_27 rfl fw_X8_41 zokc_10 (fun _ => rfl) rfl rfl ?_
    refine v_aload_n (n := 31) dX8_nextCabin_30 rfl rfl ?_
    refine v_getf (n := 34) dX8_nextCabin_31 rfl fl_X8_41 zokc_10 (congrArg Value.int (up_self _ _ _ _ _ _)) ?_
    refine v_if_le (n := 37) (t := 39) dX8_nextCabin_34 rfl (by decide) (fun hq => ?_) (fun hq => ?_)
    · replace h := h.1 hq
      refine v_aload_n (n := 40) dX8_nextCabin_39 rfl rfl ?_
      refine v_iload_n (n := 41) dX8_nextCabin_40 rfl rfl ?_
      obtain ⟨j8, ej8, hj8, h⟩ := h
      refine v_callV (n := 44) (k := 10) (b := 0) (i := 0) (As := [.int x1]) (rest := []) dX8_nextCabin_41 rfl lk_X8_132 rfl rfl (Nat.le_of_ble_eq_true rfl) ⟨Nat.le_of_ble_eq_true rfl, Nat.le_of_ble_eq_true rfl, Nat.le_of_ble_eq_true rfl, Nat.le_of_ble_eq_true rfl⟩ zokc_10 (s_X8_stepOf G x1 j8 ej8 hj8 (up μ 10 0 0 6 (nI 1))) (fun v μ9 hp => ?_) (fun _ _ hp => False.elim hp)
      rw [hp.1, hp.2]
      refine v_norm (st' := [.int (nI 2 - msf (up μ 10 0 0 6 (nI 1)) j8)]) (cells' := 0) (slots' := 0) rfl rfl rfl ?_
      refine v_istore_n (n := 45) (L' := [(0, .ref (zad G.1 10 0 0)), (1, .int x1), (2, .int (nI 2 - msf (up μ 10 0 0 6 (nI 1)) j8))]) dX8_nextCabin_44 rfl (by decide) rfl ?_
      refine v_iconst (n := 46) (x := nI 2) dX8_nextCabin_45 rfl (by decide) ?_
      refine v_aload_n (n := 47) dX8_nextCabin_46 rfl rfl ?_
      refine v_getf (n := 50) dX8_nextCabin_47 rfl fl_X8_9 zokc_10 rfl ?_
      refine v_iload_n (n := 51) dX8_nextCabin_50 rfl rfl ?_
      refine v_callS (n := 54) (As := [.int x1]) (rest := [.ref (zad G.1 26 0 0), .int (nI 2)]) dX8_nextCabin_51 rfl lk_X8_51 rfl rfl (Nat.le_of_ble_eq_true rfl) ⟨Nat.le_of_ble_eq_true rfl, Nat.le_of_ble_eq_true rfl, Nat.le_of_ble_eq_true rfl, Nat.le_of_ble_eq_true rfl⟩ (s_X8_lift0 G x1 (up μ 10 0 0 6 (nI 1))) (fun v μ9 hp => ?_) (fun _ _ hp => False.elim hp)
      rw [hp.1, hp.2]
      refine v_norm (st' := [.int (nI 6 + nI 21 * x1), .ref (zad G.1 26 0 0), .int (nI 2)]) (cells' := 0) (slots' := 0) rfl rfl rfl ?_
      refine v_iconst (n := 55) (x := nI 3) dX8_nextCabin_54 rfl (by decide) ?_
      refine v_iadd (n := 56) dX8_nextCabin_55 rfl ?_
      obtain ⟨j9, ej9, hj9, h⟩ := h
      refine v_iald (n := 57) (j := j9) dX8_nextCabin_56 rfl zokc_26 (by decide) rfl ej9 hj9 (congrArg Value.int (up_k (by decide))) ?_
      refine v_imul (n := 58) dX8_nextCabin_57 rfl ?_
      refine v_aload_n (n := 59) dX8_nextCabin_58 rfl rfl ?_
      refine v_getf (n := 62) dX8_nextCabin_59 rfl fl_X8_9 zokc_10 rfl ?_
      refine v_iload_n (n := 63) dX8_nextCabin_62 rfl rfl ?_
      refine v_callS (n := 66) (As := [.int x1]) (rest := [.ref (zad G.1 26 0 0), .int ((nI 2) * (μ 26 0 0 j9))]) dX8_nextCabin_63 rfl lk_X8_51 rfl rfl (Nat.le_of_ble_eq_true rfl) ⟨Nat.le_of_ble_eq_true rfl, Nat.le_of_ble_eq_true rfl, Nat.le_of_ble_eq_true rfl, Nat.le_of_ble_eq_true rfl⟩ (s_X8_lift0 G x1 (up μ 10 0 0 6 (nI 1))) (fun v μ9 hp => ?_) (fun _ _ hp => False.elim hp)
      rw [hp.1, hp.2]
      refine v_norm (st' := [.int (nI 6 + nI 21 * x1), .ref (zad G.1 26 0 0), .int ((nI 2) * (μ 26 0 0 j9))]) (cells' := 0) (slots' := 0) rfl rfl rfl ?_
      refine v_bipush (n := 68) (x := nI 7) dX8_nextCabin_66 rfl (by decide) ?_
      refine v_iadd (n := 69) dX8_nextCabin_68 rfl ?_
      obtain ⟨j10, ej10, hj10, h⟩ := h
      refine v_iald (n := 70) (j := j10) dX8_nextCabin_69 rfl zokc_26 (by decide) rfl ej10 hj10 (congrArg Value.int (up_k (by decide))) ?_
      refine v_isub (n := 71) dX8_nextCabin_70 rfl ?_
      refine v_istore_n (n := 72) (L' := [(0, .ref (zad G.1 10 0 0)), (1, .int x1), (2, .int (nI 2 - msf (up μ 10 0 0 6 (nI 1)) j8)), (3, .int (((nI 2) * (μ 26 0 0 j9)) - (μ 26 0 0 j10)))]) dX8_nextCabin_71 rfl (by decide) rfl ?_
      refine v_iload_n (n := 73) dX8_nextCabin_72 rfl rfl ?_
      refine v_iload_n (n := 74) dX8_nextCabin_73 rfl rfl ?_
      refine v_iadd (n := 75) dX8_nextCabin_74 rfl ?_
      refine v_iconst (n := 76) (x := nI 1) dX8_nextCabin_75 rfl (by decide) ?_
      refine v_isub (n := 77) dX8_nextCabin_76 rfl ?_
      refine v_iload_n (n := 78) dX8_nextCabin_77 rfl rfl ?_
      obtain ⟨hf3, h⟩ := h
      refine v_idiv (n := 79) dX8_nextCabin_78 rfl hf3 ?_
      exact v_iret dX8_nextCabin_79 rfl (Nat.le_of_ble_eq_true rfl) (Nat.le_of_ble_eq_true rfl) h
    · replace h := h.2 hq
      refine v_iconst (n := 38) (x := nI 0) dX8_nextCabin_37 rfl (by decide) ?_
      exact v_iret dX8_nextCabin_38 rfl (Nat.le_of_ble_eq_true rfl) (Nat.le_of_ble_eq_true rfl) h

set_option maxRecDepth 20000 in
set_option maxHeartbeats 4000000 in
theorem wX8_layWays (G : Gl) {P : Option Value → St → Prop} {X : String → St → Prop} (g : Nat) (hg : g < 16) (x2 : Int32) (μ : St)
    (h : VL G mX8_layWays P X 2 [(0, .ref (zad G.1 10 0 0)), (1, .int (nI g)), (2, .int x2), (3, .int (nI 0))] [] μ) :
    Con G mX8_layWays [.ref (zad G.1 10 0 0), .int (nI g), .int x2] μ P X := by
  refine con_of pn_X8 rfl (Nat.le_of_ble_eq_true rfl) ?_
  show VL G mX8_layWays P X 0 [(0, .ref (zad G.1 10 0 0)), (1, .int (nI g)), (2, .int x2)] [] μ
  refine v_iconst (n := 1) (x := nI 0) dX8_layWays_0 rfl (by decide) ?_
  refine v_istore_n (n := 2) (L' := [(0, .ref (zad G.1 10 0 0)), (1, .int (nI g)), (2, .int x2), (3, .int (nI 0))]) dX8_layWays_1 rfl (by decide) rfl ?_
  exact h

set_option maxRecDepth 20000 in
set_option maxHeartbeats 4000000 in
theorem wX8_layWays_2 (G : Gl) {P : Option Value → St → Prop} {X : String → St → Prop} (g : Nat) (hg : g < 16) (x2 : Int32) (i3 : Nat) (μ : St)
    (h : ((nI 8 ≤ nI i3 → VL G mX8_layWays P X 33 [(0, .ref (zad G.1 10 0 0)), (1, .int (nI g)), (2, .int x2), (3, .int (nI 0))] [] μ) ∧ (¬ nI 8 ≤ nI i3 → ((¬ nI i3 = x2 → i3 < 8 ∧ VL G mX8_layWays P X 2 [(0, .ref (zad G.1 10 0 0)), (1, .int (nI g)), (2, .int x2), (3, .int (nI (i3 + 1)))] [] (up μ 30 0 0 i3 (nI 1000000))) ∧ (nI i3 = x2 → i3 < 8 ∧ VL G mX8_layWays P X 2 [(0, .ref (zad G.1 10 0 0)), (1, .int (nI g)), (2, .int x2), (3, .int (nI (i3 + 1)))] [] (up μ 30 0 0 i3 (nI 0))))))) :
    VL G mX8_layWays P X 2 [(0, .ref (zad G.1 10 0 0)), (1, .int (nI g)), (2, .int x2), (3, .int (nI i3))] [] μ := by
  refine v_iload_n (n := 3) dX8_layWays_2 rfl rfl ?_
  refine v_bipush (n := 5) (x := nI 8) dX8_layWays_3 rfl (by decide) ?_
  refine v_icmp_ge (n := 8) (t := 31) dX8_layWays_5 rfl (by decide) (fun hq => ?_) (fun hq => ?_)
  · replace h := h.1 hq
    refine v_iconst (n := 32) (x := nI 0) dX8_layWays_31 rfl (by decide) ?_
    refine v_istore_n (n := 33) (L' := [(0, .ref (zad G.1 10 0 0)), (1, .int (nI g)), (2, .int x2), (3, .int (nI 0))]) dX8_layWays_32 rfl (by decide) rfl ?_
    exact h
  · replace h := h.2 hq
    refine v_aload_n (n := 9) dX8_layWays_8 rfl rfl ?_
    refine v_getf (n := 12) dX8_layWays_9 rfl fl_X8_22 zokc_10 rfl ?_
    refine v_iload_n (n := 13) dX8_layWays_12 rfl rfl ?_
    refine v_iload_n (n := 14) dX8_layWays_13 rfl rfl ?_
    refine v_iload_n (n := 15) dX8_layWays_14 rfl rfl ?_
    refine v_icmp_ne (n := 18) (t := 22) dX8_layWays_15 rfl (by decide) (fun hq => ?_) (fun hq => ?_)
    · replace h := h.1 hq
      refine v_ldc (n := 24) (x := 1000000) dX8_layWays_22 rfl lc_X8_155 ?_
      refine v_top (y := nI 1000000) (by decide) ?_
      obtain ⟨hf1, h⟩ := h
      refine v_iast (n := 25) (j := i3) dX8_layWays_24 rfl zokc_30 (by decide) (by decide) rfl rfl hf1 (fun _ => rfl) ?_
      refine v_iinc (n := 28) (x := nI i3) (y := nI (i3 + 1)) (L' := [(0, .ref (zad G.1 10 0 0)), (1, .int (nI g)), (2, .int x2), (3, .int (nI (i3 + 1)))]) dX8_layWays_25 rfl rfl (nI_1 i3) (by decide) rfl ?_
      refine v_goto (n := 2) dX8_layWays_28 (by decide) ?_
      exact h
    · replace h := h.2 hq
      refine v_iconst (n := 19) (x := nI 0) dX8_layWays_18 rfl (by decide) ?_
      refine v_goto (n := 24) dX8_layWays_19 (by decide) ?_
      obtain ⟨hf2, h⟩ := h
      refine v_iast (n := 25) (j := i3) dX8_layWays_24 rfl zokc_30 (by decide) (by decide) rfl rfl hf2 (fun _ => rfl) ?_
      refine v_iinc (n := 28) (x := nI i3) (y := nI (i3 + 1)) (L' := [(0, .ref (zad G.1 10 0 0)), (1, .int (nI g)), (2, .int x2), (3, .int (nI (i3 + 1)))]) dX8_layWays_25 rfl rfl (nI_1 i3) (by decide) rfl ?_
      refine v_goto (n := 2) dX8_layWays_28 (by decide) ?_
      exact h

set_option maxRecDepth 20000 in
set_option maxHeartbeats 4000000 in
theorem wX8_layWays_33 (G : Gl) {P : Option Value → St → Prop} {X : String → St → Prop} (g : Nat) (hg : g < 16) (x2 : Int32) (i3 : Nat) (μ : St)
    (h : ((nI 8 ≤ nI i3 → P none μ) ∧ (¬ nI 8 ≤ nI i3 → VL G mX8_layWays P X 42 [(0, .ref (zad G.1 10 0 0)), (1, .int (nI g)), (2, .int x2), (3, .int (nI i3)), (4, .int (nI 0))] [] μ))) :
    VL G mX8_layWays P X 33 [(0, .ref (zad G.1 10 0 0)), (1, .int (nI g)), (2, .int x2), (3, .int (nI i3))] [] μ := by
  refine v_iload_n (n := 34) dX8_layWays_33 rfl rfl ?_
  refine v_bipush (n := 36) (x := nI 8) dX8_layWays_34 rfl (by decide) ?_
  refine v_icmp_ge (n := 39) (t := 219) dX8_layWays_36 rfl (by decide) (fun hq => ?_) (fun hq => ?_)
  · replace h := h.1 hq
    exact v_vret dX8_layWays_219 rfl (Nat.le_of_ble_eq_true rfl) (Nat.le_of_ble_eq_true rfl) h
  · replace h := h.2 hq
    refine v_iconst (n := 40) (x := nI 0) dX8_layWays_39 rfl (by decide) ?_
    refine v_istore (n := 42) (L' := [(0, .ref (zad G.1 10 0 0)), (1, .int (nI g)), (2, .int x2), (3, .int (nI i3)), (4, .int (nI 0))]) dX8_layWays_40 rfl (by decide) rfl ?_
    exact h

set_option maxRecDepth 20000 in
set_option maxHeartbeats 4000000 in
theorem wX8_layWays_42 (G : Gl) {P : Option Value → St → Prop} {X : String → St → Prop} (g : Nat) (hg : g < 16) (x2 : Int32) (n3 : Nat) (i4 : Nat) (μ : St)
    (h : ((μ 26 0 0 3 ≤ nI i4 → VL G mX8_layWays P X 130 [(0, .ref (zad G.1 10 0 0)), (1, .int (nI g)), (2, .int x2), (3, .int (nI n3)), (4, .int (nI 0))] [] μ) ∧ (¬ μ 26 0 0 3 ≤ nI i4 → i4 < 6 ∧ ((mwl μ g i4 = false → VL G mX8_layWays P X 42 [(0, .ref (zad G.1 10 0 0)), (1, .int (nI g)), (2, .int x2), (3, .int (nI n3)), (4, .int (nI (i4 + 1)))] [] μ) ∧ (mwl μ g i4 = true → 6 + 21 * i4 < 372 ∧ ∃ j1 : Nat, μ 26 0 0 (6 + 21 * i4) = nI j1 ∧ j1 < 8 ∧ 6 + 21 * i4 + 1 < 372 ∧ ∃ j2 : Nat, μ 26 0 0 (6 + 21 * i4 + 1) = nI j2 ∧ j2 < 8 ∧ 6 + 21 * i4 + 5 < 372 ∧ ∃ j3 : Nat, μ 26 0 0 (6 + 21 * i4) = nI j3 ∧ j3 < 8 ∧ VL G mX8_layWays P X 42 [(0, .ref (zad G.1 10 0 0)), (1, .int (nI g)), (2, .int x2), (3, .int (nI n3)), (4, .int (nI (i4 + 1)))] [] (up μ 30 0 0 j3 (imn (μ 30 0 0 j1) ((μ 30 0 0 j2) + (μ 26 0 0 (6 + 21 * i4 + 5)))))))))) :
    VL G mX8_layWays P X 42 [(0, .ref (zad G.1 10 0 0)), (1, .int (nI g)), (2, .int x2), (3, .int (nI n3)), (4, .int (nI i4))] [] μ := by
  refine v_iload (n := 44) dX8_layWays_42 rfl rfl ?_
  refine v_aload_n (n := 45) dX8_layWays_44 rfl rfl ?_
  refine v_getf (n := 48) dX8_layWays_45 rfl fl_X8_9 zokc_10 rfl ?_
  refine v_iconst (n := 49) (x := nI 3) dX8_layWays_48 rfl (by decide) ?_
  refine v_iald (n := 50) (j := 3) dX8_layWays_49 rfl zokc_26 (by decide) rfl rfl (by decide) (rfl) ?_
  refine v_icmp_ge (n := 53) (t := 127) dX8_layWays_50 rfl (by decide) (fun hq => ?_) (fun hq => ?_)
  · replace h := h.1 hq
    refine v_iconst (n := 128) (x := nI 0) dX8_layWays_127 rfl (by decide) ?_
    refine v_istore (n := 130) (L' := [(0, .ref (zad G.1 10 0 0)), (1, .int (nI g)), (2, .int x2), (3, .int (nI n3)), (4, .int (nI 0))]) dX8_layWays_128 rfl (by decide) rfl ?_
    exact h
  · replace h := h.2 hq
    refine v_aload_n (n := 54) dX8_layWays_53 rfl rfl ?_
    refine v_iload_n (n := 55) dX8_layWays_54 rfl rfl ?_
    refine v_iload (n := 57) dX8_layWays_55 rfl rfl ?_
    obtain ⟨hf1, h⟩ := h
    refine v_callV (n := 60) (k := 10) (b := 0) (i := 0) (As := [.int (nI g), .int (nI i4)]) (rest := []) dX8_layWays_57 rfl lk_X8_156 rfl rfl (Nat.le_of_ble_eq_true rfl) ⟨Nat.le_of_ble_eq_true rfl, Nat.le_of_ble_eq_true rfl, Nat.le_of_ble_eq_true rfl, Nat.le_of_ble_eq_true rfl⟩ zokc_10 (s_X8_isWayLift G (nI g) g rfl (show g < 16 by omega) (nI i4) i4 rfl hf1 μ) (fun v μ9 hp => ?_) (fun _ _ hp => False.elim hp)
    rw [hp.1, hp.2]
    refine v_norm (st' := [.int (bI (mwl μ g i4))]) (cells' := 0) (slots' := 0) rfl rfl rfl ?_
    refine v_if_eq (n := 63) (t := 121) dX8_layWays_60 rfl (by decide) (fun hq => ?_) (fun hq => ?_)
    · replace h := h.1 (bI_f hq)
      refine v_iinc (n := 124) (x := nI i4) (y := nI (i4 + 1)) (L' := [(0, .ref (zad G.1 10 0 0)), (1, .int (nI g)), (2, .int x2), (3, .int (nI n3)), (4, .int (nI (i4 + 1)))]) dX8_layWays_121 rfl rfl (nI_1 i4) (by decide) rfl ?_
      refine v_goto (n := 42) dX8_layWays_124 (by decide) ?_
      exact h
    · replace h := h.2 (bI_nf hq)
      refine v_iload (n := 65) dX8_layWays_63 rfl rfl ?_
      refine v_callS (n := 68) (As := [.int (nI i4)]) (rest := []) dX8_layWays_65 rfl lk_X8_51 rfl rfl (Nat.le_of_ble_eq_true rfl) ⟨Nat.le_of_ble_eq_true rfl, Nat.le_of_ble_eq_true rfl, Nat.le_of_ble_eq_true rfl, Nat.le_of_ble_eq_true rfl⟩ (s_X8_lift0N G i4 μ) (fun v μ9 hp => ?_) (fun _ _ hp => False.elim hp)
      rw [hp.1, hp.2]
      refine v_norm (st' := [.int (nI (6 + 21 * i4))]) (cells' := 0) (slots' := 0) rfl rfl rfl ?_
      refine v_istore (n := 70) (L' := [(0, .ref (zad G.1 10 0 0)), (1, .int (nI g)), (2, .int x2), (3, .int (nI n3)), (4, .int (nI i4)), (5, .int (nI (6 + 21 * i4)))]) dX8_layWays_68 rfl (by decide) rfl ?_
      refine v_aload_n (n := 71) dX8_layWays_70 rfl rfl ?_
      refine v_getf (n := 74) dX8_layWays_71 rfl fl_X8_22 zokc_10 rfl ?_
      refine v_aload_n (n := 75) dX8_layWays_74 rfl rfl ?_
      refine v_getf (n := 78) dX8_layWays_75 rfl fl_X8_9 zokc_10 rfl ?_
      refine v_iload (n := 80) dX8_layWays_78 rfl rfl ?_
      obtain ⟨hf2, h⟩ := h
      refine v_iald (n := 81) (j := (6 + 21 * i4)) dX8_layWays_80 rfl zokc_26 (by decide) rfl rfl hf2 (rfl) ?_
      refine v_aload_n (n := 82) dX8_layWays_81 rfl rfl ?_
      refine v_getf (n := 85) dX8_layWays_82 rfl fl_X8_22 zokc_10 rfl ?_
      refine v_aload_n (n := 86) dX8_layWays_85 rfl rfl ?_
      refine v_getf (n := 89) dX8_layWays_86 rfl fl_X8_9 zokc_10 rfl ?_
      refine v_iload (n := 91) dX8_layWays_89 rfl rfl ?_
      refine v_iald (n := 92) (j := (6 + 21 * i4)) dX8_layWays_91 rfl zokc_26 (by decide) rfl rfl hf2 (rfl) ?_
      obtain ⟨j1, ej1, hj1, h⟩ := h
      refine v_iald (n := 93) (j := j1) dX8_layWays_92 rfl zokc_30 (by decide) rfl ej1 hj1 (rfl) ?_
      refine v_aload_n (n := 94) dX8_layWays_93 rfl rfl ?_
      refine v_getf (n := 97) dX8_layWays_94 rfl fl_X8_22 zokc_10 rfl ?_
      refine v_aload_n (n := 98) dX8_layWays_97 rfl rfl ?_
      refine v_getf (n := 101) dX8_layWays_98 rfl fl_X8_9 zokc_10 rfl ?_
      refine v_iload (n := 103) dX8_layWays_101 rfl rfl ?_
      refine v_iconst (n := 104) (x := nI 1) dX8_layWays_103 rfl (by decide) ?_
      refine v_iadd (n := 105) dX8_layWays_104 rfl ?_
      refine v_top (y := nI (6 + 21 * i4 + 1)) (nI_add (6 + 21 * i4) 1) ?_
      obtain ⟨hf3, h⟩ := h
      refine v_iald (n := 106) (j := (6 + 21 * i4 + 1)) dX8_layWays_105 rfl zokc_26 (by decide) rfl rfl hf3 (rfl) ?_
      obtain ⟨j2, ej2, hj2, h⟩ := h
      refine v_iald (n := 107) (j := j2) dX8_layWays_106 rfl zokc_30 (by decide) rfl ej2 hj2 (rfl) ?_
      refine v_aload_n (n := 108) dX8_layWays_107 rfl rfl ?_
      refine v_getf (n := 111) dX8_layWays_108 rfl fl_X8_9 zokc_10 rfl ?_
      refine v_iload (n := 113) dX8_layWays_111 rfl rfl ?_
      refine v_iconst (n := 114) (x := nI 5) dX8_layWays_113 rfl (by decide) ?_
      refine v_iadd (n := 115) dX8_layWays_114 rfl ?_
      refine v_top (y := nI (6 + 21 * i4 + 5)) (nI_add (6 + 21 * i4) 5) ?_
      obtain ⟨hf4, h⟩ := h
      refine v_iald (n := 116) (j := (6 + 21 * i4 + 5)) dX8_layWays_115 rfl zokc_26 (by decide) rfl rfl hf4 (rfl) ?_
      refine v_iadd (n := 117) dX8_layWays_116 rfl ?_
      refine v_callS (n := 120) (As := [.int (μ 30 0 0 j1), .int ((μ 30 0 0 j2) + (μ 26 0 0 (6 + 21 * i4 + 5)))]) (rest := [.int (μ 26 0 0 (6 + 21 * i4)), .ref (zad G.1 30 0 0)]) dX8_layWays_117 rfl lk_X8_127 rfl rfl (Nat.le_of_ble_eq_true rfl) ⟨Nat.le_of_ble_eq_true rfl, Nat.le_of_ble_eq_true rfl, Nat.le_of_ble_eq_true rfl, Nat.le_of_ble_eq_true rfl⟩ (s_J9_min_7cf53 G (μ 30 0 0 j1) ((μ 30 0 0 j2) + (μ 26 0 0 (6 + 21 * i4 + 5))) μ) (fun v μ9 hp => ?_) (fun _ _ hp => False.elim hp)
      rw [hp.1, hp.2]
      refine v_norm (st' := [.int (imn (μ 30 0 0 j1) ((μ 30 0 0 j2) + (μ 26 0 0 (6 + 21 * i4 + 5)))), .int (μ 26 0 0 (6 + 21 * i4)), .ref (zad G.1 30 0 0)]) (cells' := 0) (slots' := 0) rfl rfl rfl ?_
      obtain ⟨j3, ej3, hj3, h⟩ := h
      refine v_iast (n := 121) (j := j3) dX8_layWays_120 rfl zokc_30 (by decide) (by decide) rfl ej3 hj3 (fun _ => rfl) ?_
      refine v_iinc (n := 124) (x := nI i4) (y := nI (i4 + 1)) (L' := [(0, .ref (zad G.1 10 0 0)), (1, .int (nI g)), (2, .int x2), (3, .int (nI n3)), (4, .int (nI (i4 + 1))), (5, .int (nI (6 + 21 * i4)))]) dX8_layWays_121 rfl rfl (nI_1 i4) (by decide) rfl ?_
      refine v_goto (n := 42) dX8_layWays_124 (by decide) ?_
      exact v_pick [0, 1, 2, 3, 4] rfl h

set_option maxRecDepth 20000 in
set_option maxHeartbeats 4000000 in
theorem wX8_layWays_130 (G : Gl) {P : Option Value → St → Prop} {X : String → St → Prop} (g : Nat) (hg : g < 16) (x2 : Int32) (n3 : Nat) (i4 : Nat) (μ : St)
    (h : ((μ 26 0 0 4 ≤ nI i4 → VL G mX8_layWays P X 33 [(0, .ref (zad G.1 10 0 0)), (1, .int (nI g)), (2, .int x2), (3, .int (nI (n3 + 1)))] [] μ) ∧ (¬ μ 26 0 0 4 ≤ nI i4 → i4 < 10 ∧ ((mwp μ g i4 = false → VL G mX8_layWays P X 130 [(0, .ref (zad G.1 10 0 0)), (1, .int (nI g)), (2, .int x2), (3, .int (nI n3)), (4, .int (nI (i4 + 1)))] [] μ) ∧ (mwp μ g i4 = true → 132 + 8 * i4 < 372 ∧ ∃ j1 : Nat, μ 26 0 0 (132 + 8 * i4) = nI j1 ∧ j1 < 8 ∧ 132 + 8 * i4 + 1 < 372 ∧ ∃ j2 : Nat, μ 26 0 0 (132 + 8 * i4 + 1) = nI j2 ∧ j2 < 8 ∧ ∃ j3 : Nat, μ 26 0 0 (132 + 8 * i4) = nI j3 ∧ j3 < 8 ∧ VL G mX8_layWays P X 130 [(0, .ref (zad G.1 10 0 0)), (1, .int (nI g)), (2, .int x2), (3, .int (nI n3)), (4, .int (nI (i4 + 1)))] [] (up μ 30 0 0 j3 (imn (μ 30 0 0 j1) ((μ 30 0 0 j2) + (msk μ g i4))))))))) :
    VL G mX8_layWays P X 130 [(0, .ref (zad G.1 10 0 0)), (1, .int (nI g)), (2, .int x2), (3, .int (nI n3)), (4, .int (nI i4))] [] μ := by
  refine v_iload (n := 132) dX8_layWays_130 rfl rfl ?_
  refine v_aload_n (n := 133) dX8_layWays_132 rfl rfl ?_
  refine v_getf (n := 136) dX8_layWays_133 rfl fl_X8_9 zokc_10 rfl ?_
  refine v_iconst (n := 137) (x := nI 4) dX8_layWays_136 rfl (by decide) ?_
  refine v_iald (n := 138) (j := 4) dX8_layWays_137 rfl zokc_26 (by decide) rfl rfl (by decide) (rfl) ?_
  refine v_icmp_ge (n := 141) (t := 213) dX8_layWays_138 rfl (by decide) (fun hq => ?_) (fun hq => ?_)
  · replace h := h.1 hq
    refine v_iinc (n := 216) (x := nI n3) (y := nI (n3 + 1)) (L' := [(0, .ref (zad G.1 10 0 0)), (1, .int (nI g)), (2, .int x2), (3, .int (nI (n3 + 1))), (4, .int (nI i4))]) dX8_layWays_213 rfl rfl (nI_1 n3) (by decide) rfl ?_
    refine v_goto (n := 33) dX8_layWays_216 (by decide) ?_
    exact v_pick [0, 1, 2, 3] rfl h
  · replace h := h.2 hq
    refine v_aload_n (n := 142) dX8_layWays_141 rfl rfl ?_
    refine v_iload_n (n := 143) dX8_layWays_142 rfl rfl ?_
    refine v_iload (n := 145) dX8_layWays_143 rfl rfl ?_
    obtain ⟨hf1, h⟩ := h
    refine v_callV (n := 148) (k := 10) (b := 0) (i := 0) (As := [.int (nI g), .int (nI i4)]) (rest := []) dX8_layWays_145 rfl lk_X8_159 rfl rfl (Nat.le_of_ble_eq_true rfl) ⟨Nat.le_of_ble_eq_true rfl, Nat.le_of_ble_eq_true rfl, Nat.le_of_ble_eq_true rfl, Nat.le_of_ble_eq_true rfl⟩ zokc_10 (s_X8_isWayPiste G (nI g) g rfl (show g < 16 by omega) (nI i4) i4 rfl hf1 μ) (fun v μ9 hp => ?_) (fun _ _ hp => False.elim hp)
    rw [hp.1, hp.2]
    refine v_norm (st' := [.int (bI (mwp μ g i4))]) (cells' := 0) (slots' := 0) rfl rfl rfl ?_
    refine v_if_eq (n := 151) (t := 207) dX8_layWays_148 rfl (by decide) (fun hq => ?_) (fun hq => ?_)
    · replace h := h.1 (bI_f hq)
      refine v_iinc (n := 210) (x := nI i4) (y := nI (i4 + 1)) (L' := [(0, .ref (zad G.1 10 0 0)), (1, .int (nI g)), (2, .int x2), (3, .int (nI n3)), (4, .int (nI (i4 + 1)))]) dX8_layWays_207 rfl rfl (nI_1 i4) (by decide) rfl ?_
      refine v_goto (n := 130) dX8_layWays_210 (by decide) ?_
      exact h
    · replace h := h.2 (bI_nf hq)
      refine v_iload (n := 153) dX8_layWays_151 rfl rfl ?_
      refine v_callS (n := 156) (As := [.int (nI i4)]) (rest := []) dX8_layWays_153 rfl lk_X8_68 rfl rfl (Nat.le_of_ble_eq_true rfl) ⟨Nat.le_of_ble_eq_true rfl, Nat.le_of_ble_eq_true rfl, Nat.le_of_ble_eq_true rfl, Nat.le_of_ble_eq_true rfl⟩ (s_X8_piste0N G i4 μ) (fun v μ9 hp => ?_) (fun _ _ hp => False.elim hp)
      rw [hp.1, hp.2]
      refine v_norm (st' := [.int (nI (132 + 8 * i4))]) (cells' := 0) (slots' := 0) rfl rfl rfl ?_
      refine v_istore (n := 158) (L' := [(0, .ref (zad G.1 10 0 0)), (1, .int (nI g)), (2, .int x2), (3, .int (nI n3)), (4, .int (nI i4)), (5, .int (nI (132 + 8 * i4)))]) dX8_layWays_156 rfl (by decide) rfl ?_
      refine v_aload_n (n := 159) dX8_layWays_158 rfl rfl ?_
      refine v_getf (n := 162) dX8_layWays_159 rfl fl_X8_22 zokc_10 rfl ?_
      refine v_aload_n (n := 163) dX8_layWays_162 rfl rfl ?_
      refine v_getf (n := 166) dX8_layWays_163 rfl fl_X8_9 zokc_10 rfl ?_
      refine v_iload (n := 168) dX8_layWays_166 rfl rfl ?_
      obtain ⟨hf2, h⟩ := h
      refine v_iald (n := 169) (j := (132 + 8 * i4)) dX8_layWays_168 rfl zokc_26 (by decide) rfl rfl hf2 (rfl) ?_
      refine v_aload_n (n := 170) dX8_layWays_169 rfl rfl ?_
      refine v_getf (n := 173) dX8_layWays_170 rfl fl_X8_22 zokc_10 rfl ?_
      refine v_aload_n (n := 174) dX8_layWays_173 rfl rfl ?_
      refine v_getf (n := 177) dX8_layWays_174 rfl fl_X8_9 zokc_10 rfl ?_
      refine v_iload (n := 179) dX8_layWays_177 rfl rfl ?_
      refine v_iald (n := 180) (j := (132 + 8 * i4)) dX8_layWays_179 rfl zokc_26 (by decide) rfl rfl hf2 (rfl) ?_
      obtain ⟨j1, ej1, hj1, h⟩ := h
      refine v_iald (n := 181) (j := j1) dX8_layWays_180 rfl zokc_30 (by decide) rfl ej1 hj1 (rfl) ?_
      refine v_aload_n (n := 182) dX8_layWays_181 rfl rfl ?_
      refine v_getf (n := 185) dX8_layWays_182 rfl fl_X8_22 zokc_10 rfl ?_
      refine v_aload_n (n := 186) dX8_layWays_185 rfl rfl ?_
      refine v_getf (n := 189) dX8_layWays_186 rfl fl_X8_9 zokc_10 rfl ?_
      refine v_iload (n := 191) dX8_layWays_189 rfl rfl ?_
      refine v_iconst (n := 192) (x := nI 1) dX8_layWays_191 rfl (by decide) ?_
      refine v_iadd (n := 193) dX8_layWays_192 rfl ?_
      refine v_top (y := nI (132 + 8 * i4 + 1)) (nI_add (132 + 8 * i4) 1) ?_
      obtain ⟨hf3, h⟩ := h
      refine v_iald (n := 194) (j := (132 + 8 * i4 + 1)) dX8_layWays_193 rfl zokc_26 (by decide) rfl rfl hf3 (rfl) ?_
      obtain ⟨j2, ej2, hj2, h⟩ := h
      refine v_iald (n := 195) (j := j2) dX8_layWays_194 rfl zokc_30 (by decide) rfl ej2 hj2 (rfl) ?_
      refine v_aload_n (n := 196) dX8_layWays_195 rfl rfl ?_
      refine v_iload_n (n := 197) dX8_layWays_196 rfl rfl ?_
      refine v_iload (n := 199) dX8_layWays_197 rfl rfl ?_
      refine v_callV (n := 202) (k := 10) (b := 0) (i := 0) (As := [.int (nI g), .int (nI i4)]) (rest := [.int (μ 30 0 0 j2), .int (μ 30 0 0 j1), .int (μ 26 0 0 (132 + 8 * i4)), .ref (zad G.1 30 0 0)]) dX8_layWays_199 rfl lk_X8_102 rfl rfl (Nat.le_of_ble_eq_true rfl) ⟨Nat.le_of_ble_eq_true rfl, Nat.le_of_ble_eq_true rfl, Nat.le_of_ble_eq_true rfl, Nat.le_of_ble_eq_true rfl⟩ zokc_10 (s_X8_skiTime G (nI g) g rfl (show g < 16 by omega) (nI i4) i4 rfl hf1 μ) (fun v μ9 hp => ?_) (fun _ _ hp => False.elim hp)
      rw [hp.1, hp.2]
      refine v_norm (st' := [.int (msk μ g i4), .int (μ 30 0 0 j2), .int (μ 30 0 0 j1), .int (μ 26 0 0 (132 + 8 * i4)), .ref (zad G.1 30 0 0)]) (cells' := 0) (slots' := 0) rfl rfl rfl ?_
      refine v_iadd (n := 203) dX8_layWays_202 rfl ?_
      refine v_callS (n := 206) (As := [.int (μ 30 0 0 j1), .int ((μ 30 0 0 j2) + (msk μ g i4))]) (rest := [.int (μ 26 0 0 (132 + 8 * i4)), .ref (zad G.1 30 0 0)]) dX8_layWays_203 rfl lk_X8_127 rfl rfl (Nat.le_of_ble_eq_true rfl) ⟨Nat.le_of_ble_eq_true rfl, Nat.le_of_ble_eq_true rfl, Nat.le_of_ble_eq_true rfl, Nat.le_of_ble_eq_true rfl⟩ (s_J9_min_7cf53 G (μ 30 0 0 j1) ((μ 30 0 0 j2) + (msk μ g i4)) μ) (fun v μ9 hp => ?_) (fun _ _ hp => False.elim hp)
      rw [hp.1, hp.2]
      refine v_norm (st' := [.int (imn (μ 30 0 0 j1) ((μ 30 0 0 j2) + (msk μ g i4))), .int (μ 26 0 0 (132 + 8 * i4)), .ref (zad G.1 30 0 0)]) (cells' := 0) (slots' := 0) rfl rfl rfl ?_
      obtain ⟨j3, ej3, hj3, h⟩ := h
      refine v_iast (n := 207) (j := j3) dX8_layWays_206 rfl zokc_30 (by decide) (by decide) rfl ej3 hj3 (fun _ => rfl) ?_
      refine v_iinc (n := 210) (x := nI i4) (y := nI (i4 + 1)) (L' := [(0, .ref (zad G.1 10 0 0)), (1, .int (nI g)), (2, .int x2), (3, .int (nI n3)), (4, .int (nI (i4 + 1))), (5, .int (nI (132 + 8 * i4)))]) dX8_layWays_207 rfl rfl (nI_1 i4) (by decide) rfl ?_
      refine v_goto (n := 130) dX8_layWays_210 (by decide) ?_
      exact v_pick [0, 1, 2, 3, 4] rfl h

set_option maxRecDepth 20000 in
set_option maxHeartbeats 4000000 in
theorem wX8_duration (G : Gl) {P : Option Value → St → Prop} {X : String → St → Prop} (x1 : Int32) (x2 : Int32) (x3 : Int32) (μ : St)
    (h : ((mlk μ x1 x2 x3 ≤ 0 → Con G mX8_layWays [.ref (zad G.1 10 0 0), .int x1, .int x3] (up μ 10 0 0 6 (mlk μ x1 x2 x3)) (fun v μ1 => v = none ∧ ∃ j1 : Nat, x2 = nI j1 ∧ j1 < 8 ∧ ((nI 1000000 ≤ μ1 30 0 0 j1 → P (some (.int (nI 0))) (up μ1 10 0 0 6 (nI 2))) ∧ (¬ nI 1000000 ≤ μ1 30 0 0 j1 → ∃ j2 : Nat, x2 = nI j2 ∧ j2 < 8 ∧ P (some (.int (μ1 30 0 0 j2))) μ1))) noX) ∧ (¬ mlk μ x1 x2 x3 ≤ 0 → P (some (.int (nI 0))) (up μ 10 0 0 6 (mlk μ x1 x2 x3))))) :
    Con G mX8_duration [.ref (zad G.1 10 0 0), .int x1, .int x2, .int x3] μ P X := by
  refine con_of pn_X8 rfl (Nat.le_of_ble_eq_true rfl) ?_
  show VL G mX8_duration P X 0 [(0, .ref (zad G.1 10 0 0)), (1, .int x1), (2, .int x2), (3, .int x3)] [] μ
  refine v_aload_n (n := 1) dX8_duration_0 rfl rfl ?_
  refine v_aload_n (n := 2) dX8_duration_1 rfl rfl ?_
  refine v_iload_n (n := 3) dX8_duration_2 rfl rfl ?_
  refine v_iload_n (n := 4) dX8_duration_3 rfl rfl ?_
  refine v_iload_n (n := 5) dX8_duration_4 rfl rfl ?_
  refine v_callV (n := 8) (k := 10) (b := 0) (i := 0) (As := [.int x1, .int x2, .int x3]) (rest := [.ref (zad G.1 10 0 0)]) dX8_duration_5 rfl lk_X8_162 rfl rfl (Nat.le_of_ble_eq_true rfl) ⟨Nat.le_of_ble_eq_true rfl, Nat.le_of_ble_eq_true rfl, Nat.le_of_ble_eq_true rfl, Nat.le_of_ble_eq_true rfl⟩ zokc_10 (s_X8_lacks G x1 x2 x3 μ) (fun v μ9 hp => ?_) (fun _ _ hp => False.elim hp)
  rw [hp.1, hp.2]
  refine v_norm (st' := [.int (mlk μ x1 x2 x3), .ref (zad G.1 10 0 0)]) (cells' := 0) (slots' := 0) rfl rfl rfl ?_
  refine v_putf (n := 11) dX8_duration_8 rfl fw_X8_41 zokc_10 (fun _ => rfl) rfl rfl ?_
  refine v_aload_n (n := 12) dX8_duration_11 rfl rfl ?_
  refine v_getf (n := 15) dX8_duration_12 rfl fl_X8_41 zokc_10 (congrArg Value.int (up_self _ _ _ _ _ _)) ?_
  refine v_if_le (n := 18) (t := 20) dX8_duration_15 rfl (by decide) (fun hq => ?_) (fun hq => ?_)
  · replace h := h.1 hq
    refine v_aload_n (n := 21) dX8_duration_20 rfl rfl ?_
    refine v_iload_n (n := 22) dX8_duration_21 rfl rfl ?_
    refine v_iload_n (n := 23) dX8_duration_22 rfl rfl ?_
    refine v_callV (n := 26) (k := 10) (b := 0) (i := 0) (As := [.int x1, .int x3]) (rest := []) dX8_duration_23 rfl lk_X8_166 rfl rfl (Nat.le_of_ble_eq_true rfl) ⟨Nat.le_of_ble_eq_true rfl, Nat.le_of_ble_eq_true rfl, Nat.le_of_ble_eq_true rfl, Nat.le_of_ble_eq_true rfl⟩ zokc_10 h (fun v μ1 h => ?_) (fun _ _ hp => False.elim hp)
    obtain ⟨rfl, h⟩ := h
    refine v_norm (st' := []) (cells' := 0) (slots' := 0) rfl rfl rfl ?_
    refine v_aload_n (n := 27) dX8_duration_26 rfl rfl ?_
    refine v_getf (n := 30) dX8_duration_27 rfl fl_X8_22 zokc_10 rfl ?_
    refine v_iload_n (n := 31) dX8_duration_30 rfl rfl ?_
    obtain ⟨j1, ej1, hj1, h⟩ := h
    refine v_iald (n := 32) (j := j1) dX8_duration_31 rfl zokc_30 (by decide) rfl ej1 hj1 (rfl) ?_
    refine v_ldc (n := 34) (x := 1000000) dX8_duration_32 rfl lc_X8_155 ?_
    refine v_top (y := nI 1000000) (by decide) ?_
    refine v_icmp_ge (n := 37) (t := 46) dX8_duration_34 rfl (by decide) (fun hq => ?_) (fun hq => ?_)
    · replace h := h.1 hq
      refine v_aload_n (n := 47) dX8_duration_46 rfl rfl ?_
      refine v_iconst (n := 48) (x := nI 2) dX8_duration_47 rfl (by decide) ?_
      refine v_callV (n := 51) (k := 10) (b := 0) (i := 0) (As := [.int (nI 2)]) (rest := []) dX8_duration_48 rfl lk_X8_62 rfl rfl (Nat.le_of_ble_eq_true rfl) ⟨Nat.le_of_ble_eq_true rfl, Nat.le_of_ble_eq_true rfl, Nat.le_of_ble_eq_true rfl, Nat.le_of_ble_eq_true rfl⟩ zokc_10 (s_X8_refuse G (nI 2) μ1) (fun v μ9 hp => ?_) (fun _ _ hp => False.elim hp)
      rw [hp.1, hp.2]
      refine v_norm (st' := [.int (nI 0)]) (cells' := 0) (slots' := 0) rfl rfl rfl ?_
      exact v_iret dX8_duration_51 rfl (Nat.le_of_ble_eq_true rfl) (Nat.le_of_ble_eq_true rfl) h
    · replace h := h.2 hq
      refine v_aload_n (n := 38) dX8_duration_37 rfl rfl ?_
      refine v_getf (n := 41) dX8_duration_38 rfl fl_X8_22 zokc_10 rfl ?_
      refine v_iload_n (n := 42) dX8_duration_41 rfl rfl ?_
      obtain ⟨j2, ej2, hj2, h⟩ := h
      refine v_iald (n := 43) (j := j2) dX8_duration_42 rfl zokc_30 (by decide) rfl ej2 hj2 (rfl) ?_
      refine v_goto (n := 51) dX8_duration_43 (by decide) ?_
      exact v_iret dX8_duration_51 rfl (Nat.le_of_ble_eq_true rfl) (Nat.le_of_ble_eq_true rfl) h
  · replace h := h.2 hq
    refine v_iconst (n := 19) (x := nI 0) dX8_duration_18 rfl (by decide) ?_
    exact v_iret dX8_duration_19 rfl (Nat.le_of_ble_eq_true rfl) (Nat.le_of_ble_eq_true rfl) h

set_option maxRecDepth 20000 in
set_option maxHeartbeats 4000000 in
theorem wX8_firstPart (G : Gl) {P : Option Value → St → Prop} {X : String → St → Prop} (x1 : Int32) (x2 : Int32) (x3 : Int32) (μ : St)
    (h : ((mlk μ x1 x2 x3 ≤ 0 → Con G mX8_layWays [.ref (zad G.1 10 0 0), .int x1, .int x3] (up μ 10 0 0 6 (mlk μ x1 x2 x3)) (fun v μ1 => v = none ∧ ((x2 = x3 → P (some (.int (nI 0))) (up μ1 10 0 0 6 (nI 2))) ∧ (¬ x2 = x3 → ∃ j1 : Nat, x2 = nI j1 ∧ j1 < 8 ∧ ((μ1 30 0 0 j1 < nI 1000000 → VL G mX8_firstPart P X 51 [(0, .ref (zad G.1 10 0 0)), (1, .int x1), (2, .int x2), (3, .int x3), (4, .int (nI 0))] [] μ1) ∧ (¬ μ1 30 0 0 j1 < nI 1000000 → P (some (.int (nI 0))) (up μ1 10 0 0 6 (nI 2))))))) noX) ∧ (¬ mlk μ x1 x2 x3 ≤ 0 → P (some (.int (nI 0))) (up μ 10 0 0 6 (mlk μ x1 x2 x3))))) :
    Con G mX8_firstPart [.ref (zad G.1 10 0 0), .int x1, .int x2, .int x3] μ P X := by
  refine con_of pn_X8 rfl (Nat.le_of_ble_eq_true rfl) ?_
  show VL G mX8_firstPart P X 0 [(0, .ref (zad G.1 10 0 0)), (1, .int x1), (2, .int x2), (3, .int x3)] [] μ
  refine v_aload_n (n := 1) dX8_firstPart_0 rfl rfl ?_
  refine v_aload_n (n := 2) dX8_firstPart_1 rfl rfl ?_
  refine v_iload_n (n := 3) dX8_firstPart_2 rfl rfl ?_
  refine v_iload_n (n := 4) dX8_firstPart_3 rfl rfl ?_
  refine v_iload_n (n := 5) dX8_firstPart_4 rfl rfl ?_
  refine v_callV (n := 8) (k := 10) (b := 0) (i := 0) (As := [.int x1, .int x2, .int x3]) (rest := [.ref (zad G.1 10 0 0)]) dX8_firstPart_5 rfl lk_X8_162 rfl rfl (Nat.le_of_ble_eq_true rfl) ⟨Nat.le_of_ble_eq_true rfl, Nat.le_of_ble_eq_true rfl, Nat.le_of_ble_eq_true rfl, Nat.le_of_ble_eq_true rfl⟩ zokc_10 (s_X8_lacks G x1 x2 x3 μ) (fun v μ9 hp => ?_) (fun _ _ hp => False.elim hp)
  rw [hp.1, hp.2]
  refine v_norm (st' := [.int (mlk μ x1 x2 x3), .ref (zad G.1 10 0 0)]) (cells' := 0) (slots' := 0) rfl rfl rfl ?_
  refine v_putf (n := 11) dX8_firstPart_8 rfl fw_X8_41 zokc_10 (fun _ => rfl) rfl rfl ?_
  refine v_aload_n (n := 12) dX8_firstPart_11 rfl rfl ?_
  refine v_getf (n := 15) dX8_firstPart_12 rfl fl_X8_41 zokc_10 (congrArg Value.int (up_self _ _ _ _ _ _)) ?_
  refine v_if_le (n := 18) (t := 20) dX8_firstPart_15 rfl (by decide) (fun hq => ?_) (fun hq => ?_)
  · replace h := h.1 hq
    refine v_aload_n (n := 21) dX8_firstPart_20 rfl rfl ?_
    refine v_iload_n (n := 22) dX8_firstPart_21 rfl rfl ?_
    refine v_iload_n (n := 23) dX8_firstPart_22 rfl rfl ?_
    refine v_callV (n := 26) (k := 10) (b := 0) (i := 0) (As := [.int x1, .int x3]) (rest := []) dX8_firstPart_23 rfl lk_X8_166 rfl rfl (Nat.le_of_ble_eq_true rfl) ⟨Nat.le_of_ble_eq_true rfl, Nat.le_of_ble_eq_true rfl, Nat.le_of_ble_eq_true rfl, Nat.le_of_ble_eq_true rfl⟩ zokc_10 h (fun v μ1 h => ?_) (fun _ _ hp => False.elim hp)
    obtain ⟨rfl, h⟩ := h
    refine v_norm (st' := []) (cells' := 0) (slots' := 0) rfl rfl rfl ?_
    refine v_iload_n (n := 27) dX8_firstPart_26 rfl rfl ?_
    refine v_iload_n (n := 28) dX8_firstPart_27 rfl rfl ?_
    refine v_icmp_eq (n := 31) (t := 42) dX8_firstPart_28 rfl (by decide) (fun hq => ?_) (fun hq => ?_)
    · replace h := h.1 hq
      refine v_aload_n (n := 43) dX8_firstPart_42 rfl rfl ?_
      refine v_iconst (n := 44) (x := nI 2) dX8_firstPart_43 rfl (by decide) ?_
      refine v_callV (n := 47) (k := 10) (b := 0) (i := 0) (As := [.int (nI 2)]) (rest := []) dX8_firstPart_44 rfl lk_X8_62 rfl rfl (Nat.le_of_ble_eq_true rfl) ⟨Nat.le_of_ble_eq_true rfl, Nat.le_of_ble_eq_true rfl, Nat.le_of_ble_eq_true rfl, Nat.le_of_ble_eq_true rfl⟩ zokc_10 (s_X8_refuse G (nI 2) μ1) (fun v μ9 hp => ?_) (fun _ _ hp => False.elim hp)
      rw [hp.1, hp.2]
      refine v_norm (st' := [.int (nI 0)]) (cells' := 0) (slots' := 0) rfl rfl rfl ?_
      exact v_iret dX8_firstPart_47 rfl (Nat.le_of_ble_eq_true rfl) (Nat.le_of_ble_eq_true rfl) h
    · replace h := h.2 hq
      refine v_aload_n (n := 32) dX8_firstPart_31 rfl rfl ?_
      refine v_getf (n := 35) dX8_firstPart_32 rfl fl_X8_22 zokc_10 rfl ?_
      refine v_iload_n (n := 36) dX8_firstPart_35 rfl rfl ?_
      obtain ⟨j1, ej1, hj1, h⟩ := h
      refine v_iald (n := 37) (j := j1) dX8_firstPart_36 rfl zokc_30 (by decide) rfl ej1 hj1 (rfl) ?_
      refine v_ldc (n := 39) (x := 1000000) dX8_firstPart_37 rfl lc_X8_155 ?_
      refine v_top (y := nI 1000000) (by decide) ?_
      refine v_icmp_lt (n := 42) (t := 48) dX8_firstPart_39 rfl (by decide) (fun hq => ?_) (fun hq => ?_)
      · replace h := h.1 hq
        refine v_iconst (n := 49) (x := nI 0) dX8_firstPart_48 rfl (by decide) ?_
        refine v_istore (n := 51) (L' := [(0, .ref (zad G.1 10 0 0)), (1, .int x1), (2, .int x2), (3, .int x3), (4, .int (nI 0))]) dX8_firstPart_49 rfl (by decide) rfl ?_
        exact h
      · replace h := h.2 hq
        refine v_aload_n (n := 43) dX8_firstPart_42 rfl rfl ?_
        refine v_iconst (n := 44) (x := nI 2) dX8_firstPart_43 rfl (by decide) ?_
        refine v_callV (n := 47) (k := 10) (b := 0) (i := 0) (As := [.int (nI 2)]) (rest := []) dX8_firstPart_44 rfl lk_X8_62 rfl rfl (Nat.le_of_ble_eq_true rfl) ⟨Nat.le_of_ble_eq_true rfl, Nat.le_of_ble_eq_true rfl, Nat.le_of_ble_eq_true rfl, Nat.le_of_ble_eq_true rfl⟩ zokc_10 (s_X8_refuse G (nI 2) μ1) (fun v μ9 hp => ?_) (fun _ _ hp => False.elim hp)
        rw [hp.1, hp.2]
        refine v_norm (st' := [.int (nI 0)]) (cells' := 0) (slots' := 0) rfl rfl rfl ?_
        exact v_iret dX8_firstPart_47 rfl (Nat.le_of_ble_eq_true rfl) (Nat.le_of_ble_eq_true rfl) h
  · replace h := h.2 hq
    refine v_iconst (n := 19) (x := nI 0) dX8_firstPart_18 rfl (by decide) ?_
    exact v_iret dX8_firstPart_19 rfl (Nat.le_of_ble_eq_true rfl) (Nat.le_of_ble_eq_true rfl) h

set_option maxRecDepth 20000 in
set_option maxHeartbeats 4000000 in
theorem wX8_firstPart_51 (G : Gl) {P : Option Value → St → Prop} {X : String → St → Prop} (x1 : Int32) (x2 : Int32) (x3 : Int32) (i4 : Nat) (μ : St)
    (h : ((μ 26 0 0 3 ≤ nI i4 → VL G mX8_firstPart P X 135 [(0, .ref (zad G.1 10 0 0)), (1, .int x1), (2, .int x2), (3, .int x3), (4, .int (nI 0))] [] μ) ∧ (¬ μ 26 0 0 3 ≤ nI i4 → 6 + 21 * i4 < 372 ∧ ((¬ μ 26 0 0 (6 + 21 * i4) = x2 → VL G mX8_firstPart P X 51 [(0, .ref (zad G.1 10 0 0)), (1, .int x1), (2, .int x2), (3, .int x3), (4, .int (nI (i4 + 1)))] [] μ) ∧ (μ 26 0 0 (6 + 21 * i4) = x2 → ∃ j1 : Nat, x1 = nI j1 ∧ j1 < 16 ∧ i4 < 6 ∧ ((mwl μ j1 i4 = false → VL G mX8_firstPart P X 51 [(0, .ref (zad G.1 10 0 0)), (1, .int x1), (2, .int x2), (3, .int x3), (4, .int (nI (i4 + 1)))] [] μ) ∧ (mwl μ j1 i4 = true → 6 + 21 * i4 + 1 < 372 ∧ ∃ j2 : Nat, μ 26 0 0 (6 + 21 * i4 + 1) = nI j2 ∧ j2 < 8 ∧ 6 + 21 * i4 + 5 < 372 ∧ ∃ j3 : Nat, x2 = nI j3 ∧ j3 < 8 ∧ ((¬ (μ 30 0 0 j2) + (μ 26 0 0 (6 + 21 * i4 + 5)) = μ 30 0 0 j3 → VL G mX8_firstPart P X 51 [(0, .ref (zad G.1 10 0 0)), (1, .int x1), (2, .int x2), (3, .int x3), (4, .int (nI (i4 + 1)))] [] μ) ∧ ((μ 30 0 0 j2) + (μ 26 0 0 (6 + 21 * i4 + 5)) = μ 30 0 0 j3 → P (some (.int (nI i4))) μ))))))))) :
    VL G mX8_firstPart P X 51 [(0, .ref (zad G.1 10 0 0)), (1, .int x1), (2, .int x2), (3, .int x3), (4, .int (nI i4))] [] μ := by
  refine v_iload (n := 53) dX8_firstPart_51 rfl rfl ?_
  refine v_aload_n (n := 54) dX8_firstPart_53 rfl rfl ?_
  refine v_getf (n := 57) dX8_firstPart_54 rfl fl_X8_9 zokc_10 rfl ?_
  refine v_iconst (n := 58) (x := nI 3) dX8_firstPart_57 rfl (by decide) ?_
  refine v_iald (n := 59) (j := 3) dX8_firstPart_58 rfl zokc_26 (by decide) rfl rfl (by decide) (rfl) ?_
  refine v_icmp_ge (n := 62) (t := 132) dX8_firstPart_59 rfl (by decide) (fun hq => ?_) (fun hq => ?_)
  · replace h := h.1 hq
    refine v_iconst (n := 133) (x := nI 0) dX8_firstPart_132 rfl (by decide) ?_
    refine v_istore (n := 135) (L' := [(0, .ref (zad G.1 10 0 0)), (1, .int x1), (2, .int x2), (3, .int x3), (4, .int (nI 0))]) dX8_firstPart_133 rfl (by decide) rfl ?_
    exact h
  · replace h := h.2 hq
    refine v_iload (n := 64) dX8_firstPart_62 rfl rfl ?_
    refine v_callS (n := 67) (As := [.int (nI i4)]) (rest := []) dX8_firstPart_64 rfl lk_X8_51 rfl rfl (Nat.le_of_ble_eq_true rfl) ⟨Nat.le_of_ble_eq_true rfl, Nat.le_of_ble_eq_true rfl, Nat.le_of_ble_eq_true rfl, Nat.le_of_ble_eq_true rfl⟩ (s_X8_lift0N G i4 μ) (fun v μ9 hp => ?_) (fun _ _ hp => False.elim hp)
    rw [hp.1, hp.2]
    refine v_norm (st' := [.int (nI (6 + 21 * i4))]) (cells' := 0) (slots' := 0) rfl rfl rfl ?_
    refine v_istore (n := 69) (L' := [(0, .ref (zad G.1 10 0 0)), (1, .int x1), (2, .int x2), (3, .int x3), (4, .int (nI i4)), (5, .int (nI (6 + 21 * i4)))]) dX8_firstPart_67 rfl (by decide) rfl ?_
    refine v_aload_n (n := 70) dX8_firstPart_69 rfl rfl ?_
    refine v_getf (n := 73) dX8_firstPart_70 rfl fl_X8_9 zokc_10 rfl ?_
    refine v_iload (n := 75) dX8_firstPart_73 rfl rfl ?_
    obtain ⟨hf1, h⟩ := h
    refine v_iald (n := 76) (j := (6 + 21 * i4)) dX8_firstPart_75 rfl zokc_26 (by decide) rfl rfl hf1 (rfl) ?_
    refine v_iload_n (n := 77) dX8_firstPart_76 rfl rfl ?_
    refine v_icmp_ne (n := 80) (t := 126) dX8_firstPart_77 rfl (by decide) (fun hq => ?_) (fun hq => ?_)
    · replace h := h.1 hq
      refine v_iinc (n := 129) (x := nI i4) (y := nI (i4 + 1)) (L' := [(0, .ref (zad G.1 10 0 0)), (1, .int x1), (2, .int x2), (3, .int x3), (4, .int (nI (i4 + 1))), (5, .int (nI (6 + 21 * i4)))]) dX8_firstPart_126 rfl rfl (nI_1 i4) (by decide) rfl ?_
      refine v_goto (n := 51) dX8_firstPart_129 (by decide) ?_
      exact v_pick [0, 1, 2, 3, 4] rfl h
    · replace h := h.2 hq
      refine v_aload_n (n := 81) dX8_firstPart_80 rfl rfl ?_
      refine v_iload_n (n := 82) dX8_firstPart_81 rfl rfl ?_
      refine v_iload (n := 84) dX8_firstPart_82 rfl rfl ?_
      obtain ⟨j1, ej1, hj1, h⟩ := h
      obtain ⟨hf2, h⟩ := h
      refine v_callV (n := 87) (k := 10) (b := 0) (i := 0) (As := [.int x1, .int (nI i4)]) (rest := []) dX8_firstPart_84 rfl lk_X8_156 rfl rfl (Nat.le_of_ble_eq_true rfl) ⟨Nat.le_of_ble_eq_true rfl, Nat.le_of_ble_eq_true rfl, Nat.le_of_ble_eq_true rfl, Nat.le_of_ble_eq_true rfl⟩ zokc_10 (s_X8_isWayLift G x1 j1 ej1 hj1 (nI i4) i4 rfl hf2 μ) (fun v μ9 hp => ?_) (fun _ _ hp => False.elim hp)
      rw [hp.1, hp.2]
      refine v_norm (st' := [.int (bI (mwl μ j1 i4))]) (cells' := 0) (slots' := 0) rfl rfl rfl ?_
      refine v_if_eq (n := 90) (t := 126) dX8_firstPart_87 rfl (by decide) (fun hq => ?_) (fun hq => ?_)
      · replace h := h.1 (bI_f hq)
        refine v_iinc (n := 129) (x := nI i4) (y := nI (i4 + 1)) (L' := [(0, .ref (zad G.1 10 0 0)), (1, .int x1), (2, .int x2), (3, .int x3), (4, .int (nI (i4 + 1))), (5, .int (nI (6 + 21 * i4)))]) dX8_firstPart_126 rfl rfl (nI_1 i4) (by decide) rfl ?_
        refine v_goto (n := 51) dX8_firstPart_129 (by decide) ?_
        exact v_pick [0, 1, 2, 3, 4] rfl h
      · replace h := h.2 (bI_nf hq)
        refine v_aload_n (n := 91) dX8_firstPart_90 rfl rfl ?_
        refine v_getf (n := 94) dX8_firstPart_91 rfl fl_X8_22 zokc_10 rfl ?_
        refine v_aload_n (n := 95) dX8_firstPart_94 rfl rfl ?_
        refine v_getf (n := 98) dX8_firstPart_95 rfl fl_X8_9 zokc_10 rfl ?_
        refine v_iload (n := 100) dX8_firstPart_98 rfl rfl ?_
        refine v_iconst (n := 101) (x := nI 1) dX8_firstPart_100 rfl (by decide) ?_
        refine v_iadd (n := 102) dX8_firstPart_101 rfl ?_
        refine v_top (y := nI (6 + 21 * i4 + 1)) (nI_add (6 + 21 * i4) 1) ?_
        obtain ⟨hf3, h⟩ := h
        refine v_iald (n := 103) (j := (6 + 21 * i4 + 1)) dX8_firstPart_102 rfl zokc_26 (by decide) rfl rfl hf3 (rfl) ?_
        obtain ⟨j2, ej2, hj2, h⟩ := h
        refine v_iald (n := 104) (j := j2) dX8_firstPart_103 rfl zokc_30 (by decide) rfl ej2 hj2 (rfl) ?_
        refine v_aload_n (n := 105) dX8_firstPart_104 rfl rfl ?_
        refine v_getf (n := 108) dX8_firstPart_105 rfl fl_X8_9 zokc_10 rfl ?_
        refine v_iload (n := 110) dX8_firstPart_108 rfl rfl ?_
        refine v_iconst (n := 111) (x := nI 5) dX8_firstPart_110 rfl (by decide) ?_
        refine v_iadd (n := 112) dX8_firstPart_111 rfl ?_
        refine v_top (y := nI (6 + 21 * i4 + 5)) (nI_add (6 + 21 * i4) 5) ?_
        obtain ⟨hf4, h⟩ := h
        refine v_iald (n := 113) (j := (6 + 21 * i4 + 5)) dX8_firstPart_112 rfl zokc_26 (by decide) rfl rfl hf4 (rfl) ?_
        refine v_iadd (n := 114) dX8_firstPart_113 rfl ?_
        refine v_aload_n (n := 115) dX8_firstPart_114 rfl rfl ?_
        refine v_getf (n := 118) dX8_firstPart_115 rfl fl_X8_22 zokc_10 rfl ?_
        refine v_iload_n (n := 119) dX8_firstPart_118 rfl rfl ?_
        obtain ⟨j3, ej3, hj3, h⟩ := h
        refine v_iald (n := 120) (j := j3) dX8_firstPart_119 rfl zokc_30 (by decide) rfl ej3 hj3 (rfl) ?_
        refine v_icmp_ne (n := 123) (t := 126) dX8_firstPart_120 rfl (by decide) (fun hq => ?_) (fun hq => ?_)
        · replace h := h.1 hq
          refine v_iinc (n := 129) (x := nI i4) (y := nI (i4 + 1)) (L' := [(0, .ref (zad G.1 10 0 0)), (1, .int x1), (2, .int x2), (3, .int x3), (4, .int (nI (i4 + 1))), (5, .int (nI (6 + 21 * i4)))]) dX8_firstPart_126 rfl rfl (nI_1 i4) (by decide) rfl ?_
          refine v_goto (n := 51) dX8_firstPart_129 (by decide) ?_
          exact v_pick [0, 1, 2, 3, 4] rfl h
        · replace h := h.2 hq
          refine v_iload (n := 125) dX8_firstPart_123 rfl rfl ?_
          exact v_iret dX8_firstPart_125 rfl (Nat.le_of_ble_eq_true rfl) (Nat.le_of_ble_eq_true rfl) h

set_option maxRecDepth 20000 in
set_option maxHeartbeats 4000000 in
theorem wX8_firstPart_135 (G : Gl) {P : Option Value → St → Prop} {X : String → St → Prop} (x1 : Int32) (x2 : Int32) (x3 : Int32) (i4 : Nat) (μ : St)
    (h : 132 + 8 * i4 < 372 ∧ ((¬ μ 26 0 0 (132 + 8 * i4) = x2 → VL G mX8_firstPart P X 135 [(0, .ref (zad G.1 10 0 0)), (1, .int x1), (2, .int x2), (3, .int x3), (4, .int (nI (i4 + 1)))] [] μ) ∧ (μ 26 0 0 (132 + 8 * i4) = x2 → ∃ j1 : Nat, x1 = nI j1 ∧ j1 < 16 ∧ i4 < 10 ∧ ((mwp μ j1 i4 = false → VL G mX8_firstPart P X 135 [(0, .ref (zad G.1 10 0 0)), (1, .int x1), (2, .int x2), (3, .int x3), (4, .int (nI (i4 + 1)))] [] μ) ∧ (mwp μ j1 i4 = true → 132 + 8 * i4 + 1 < 372 ∧ ∃ j2 : Nat, μ 26 0 0 (132 + 8 * i4 + 1) = nI j2 ∧ j2 < 8 ∧ ∃ j3 : Nat, x1 = nI j3 ∧ j3 < 16 ∧ ∃ j4 : Nat, x2 = nI j4 ∧ j4 < 8 ∧ (((μ 30 0 0 j2) + (msk μ j3 i4) = μ 30 0 0 j4 → P (some (.int (nI (100 + i4)))) μ) ∧ (¬ (μ 30 0 0 j2) + (msk μ j3 i4) = μ 30 0 0 j4 → VL G mX8_firstPart P X 135 [(0, .ref (zad G.1 10 0 0)), (1, .int x1), (2, .int x2), (3, .int x3), (4, .int (nI (i4 + 1)))] [] μ))))))) :
    VL G mX8_firstPart P X 135 [(0, .ref (zad G.1 10 0 0)), (1, .int x1), (2, .int x2), (3, .int x3), (4, .int (nI i4))] [] μ := by
  refine v_aload_n (n := 136) dX8_firstPart_135 rfl rfl ?_
  refine v_getf (n := 139) dX8_firstPart_136 rfl fl_X8_9 zokc_10 rfl ?_
  refine v_iload (n := 141) dX8_firstPart_139 rfl rfl ?_
  refine v_callS (n := 144) (As := [.int (nI i4)]) (rest := [.ref (zad G.1 26 0 0)]) dX8_firstPart_141 rfl lk_X8_68 rfl rfl (Nat.le_of_ble_eq_true rfl) ⟨Nat.le_of_ble_eq_true rfl, Nat.le_of_ble_eq_true rfl, Nat.le_of_ble_eq_true rfl, Nat.le_of_ble_eq_true rfl⟩ (s_X8_piste0N G i4 μ) (fun v μ9 hp => ?_) (fun _ _ hp => False.elim hp)
  rw [hp.1, hp.2]
  refine v_norm (st' := [.int (nI (132 + 8 * i4)), .ref (zad G.1 26 0 0)]) (cells' := 0) (slots' := 0) rfl rfl rfl ?_
  obtain ⟨hf1, h⟩ := h
  refine v_iald (n := 145) (j := (132 + 8 * i4)) dX8_firstPart_144 rfl zokc_26 (by decide) rfl rfl hf1 (rfl) ?_
  refine v_iload_n (n := 146) dX8_firstPart_145 rfl rfl ?_
  refine v_icmp_ne (n := 149) (t := 193) dX8_firstPart_146 rfl (by decide) (fun hq => ?_) (fun hq => ?_)
  · replace h := h.1 hq
    refine v_iinc (n := 196) (x := nI i4) (y := nI (i4 + 1)) (L' := [(0, .ref (zad G.1 10 0 0)), (1, .int x1), (2, .int x2), (3, .int x3), (4, .int (nI (i4 + 1)))]) dX8_firstPart_193 rfl rfl (nI_1 i4) (by decide) rfl ?_
    refine v_goto (n := 135) dX8_firstPart_196 (by decide) ?_
    exact h
  · replace h := h.2 hq
    refine v_aload_n (n := 150) dX8_firstPart_149 rfl rfl ?_
    refine v_iload_n (n := 151) dX8_firstPart_150 rfl rfl ?_
    refine v_iload (n := 153) dX8_firstPart_151 rfl rfl ?_
    obtain ⟨j1, ej1, hj1, h⟩ := h
    obtain ⟨hf2, h⟩ := h
    refine v_callV (n := 156) (k := 10) (b := 0) (i := 0) (As := [.int x1, .int (nI i4)]) (rest := []) dX8_firstPart_153 rfl lk_X8_159 rfl rfl (Nat.le_of_ble_eq_true rfl) ⟨Nat.le_of_ble_eq_true rfl, Nat.le_of_ble_eq_true rfl, Nat.le_of_ble_eq_true rfl, Nat.le_of_ble_eq_true rfl⟩ zokc_10 (s_X8_isWayPiste G x1 j1 ej1 hj1 (nI i4) i4 rfl hf2 μ) (fun v μ9 hp => ?_) (fun _ _ hp => False.elim hp)
    rw [hp.1, hp.2]
    refine v_norm (st' := [.int (bI (mwp μ j1 i4))]) (cells' := 0) (slots' := 0) rfl rfl rfl ?_
    refine v_if_eq (n := 159) (t := 193) dX8_firstPart_156 rfl (by decide) (fun hq => ?_) (fun hq => ?_)
    · replace h := h.1 (bI_f hq)
      refine v_iinc (n := 196) (x := nI i4) (y := nI (i4 + 1)) (L' := [(0, .ref (zad G.1 10 0 0)), (1, .int x1), (2, .int x2), (3, .int x3), (4, .int (nI (i4 + 1)))]) dX8_firstPart_193 rfl rfl (nI_1 i4) (by decide) rfl ?_
      refine v_goto (n := 135) dX8_firstPart_196 (by decide) ?_
      exact h
    · replace h := h.2 (bI_nf hq)
      refine v_aload_n (n := 160) dX8_firstPart_159 rfl rfl ?_
      refine v_getf (n := 163) dX8_firstPart_160 rfl fl_X8_22 zokc_10 rfl ?_
      refine v_aload_n (n := 164) dX8_firstPart_163 rfl rfl ?_
      refine v_getf (n := 167) dX8_firstPart_164 rfl fl_X8_9 zokc_10 rfl ?_
      refine v_iload (n := 169) dX8_firstPart_167 rfl rfl ?_
      refine v_callS (n := 172) (As := [.int (nI i4)]) (rest := [.ref (zad G.1 26 0 0), .ref (zad G.1 30 0 0)]) dX8_firstPart_169 rfl lk_X8_68 rfl rfl (Nat.le_of_ble_eq_true rfl) ⟨Nat.le_of_ble_eq_true rfl, Nat.le_of_ble_eq_true rfl, Nat.le_of_ble_eq_true rfl, Nat.le_of_ble_eq_true rfl⟩ (s_X8_piste0N G i4 μ) (fun v μ9 hp => ?_) (fun _ _ hp => False.elim hp)
      rw [hp.1, hp.2]
      refine v_norm (st' := [.int (nI (132 + 8 * i4)), .ref (zad G.1 26 0 0), .ref (zad G.1 30 0 0)]) (cells' := 0) (slots' := 0) rfl rfl rfl ?_
      refine v_iconst (n := 173) (x := nI 1) dX8_firstPart_172 rfl (by decide) ?_
      refine v_iadd (n := 174) dX8_firstPart_173 rfl ?_
      refine v_top (y := nI (132 + 8 * i4 + 1)) (nI_add (132 + 8 * i4) 1) ?_
      obtain ⟨hf3, h⟩ := h
      refine v_iald (n := 175) (j := (132 + 8 * i4 + 1)) dX8_firstPart_174 rfl zokc_26 (by decide) rfl rfl hf3 (rfl) ?_
      obtain ⟨j2, ej2, hj2, h⟩ := h
      refine v_iald (n := 176) (j := j2) dX8_firstPart_175 rfl zokc_30 (by decide) rfl ej2 hj2 (rfl) ?_
      refine v_aload_n (n := 177) dX8_firstPart_176 rfl rfl ?_
      refine v_iload_n (n := 178) dX8_firstPart_177 rfl rfl ?_
      refine v_iload (n := 180) dX8_firstPart_178 rfl rfl ?_
      obtain ⟨j3, ej3, hj3, h⟩ := h
      refine v_callV (n := 183) (k := 10) (b := 0) (i := 0) (As := [.int x1, .int (nI i4)]) (rest := [.int (μ 30 0 0 j2)]) dX8_firstPart_180 rfl lk_X8_102 rfl rfl (Nat.le_of_ble_eq_true rfl) ⟨Nat.le_of_ble_eq_true rfl, Nat.le_of_ble_eq_true rfl, Nat.le_of_ble_eq_true rfl, Nat.le_of_ble_eq_true rfl⟩ zokc_10 (s_X8_skiTime G x1 j3 ej3 hj3 (nI i4) i4 rfl hf2 μ) (fun v μ9 hp => ?_) (fun _ _ hp => False.elim hp)
      rw [hp.1, hp.2]
      refine v_norm (st' := [.int (msk μ j3 i4), .int (μ 30 0 0 j2)]) (cells' := 0) (slots' := 0) rfl rfl rfl ?_
      refine v_iadd (n := 184) dX8_firstPart_183 rfl ?_
      refine v_aload_n (n := 185) dX8_firstPart_184 rfl rfl ?_
      refine v_getf (n := 188) dX8_firstPart_185 rfl fl_X8_22 zokc_10 rfl ?_
      refine v_iload_n (n := 189) dX8_firstPart_188 rfl rfl ?_
      obtain ⟨j4, ej4, hj4, h⟩ := h
      refine v_iald (n := 190) (j := j4) dX8_firstPart_189 rfl zokc_30 (by decide) rfl ej4 hj4 (rfl) ?_
      refine v_icmp_eq (n := 193) (t := 199) dX8_firstPart_190 rfl (by decide) (fun hq => ?_) (fun hq => ?_)
      · replace h := h.1 hq
        refine v_bipush (n := 201) (x := nI 100) dX8_firstPart_199 rfl (by decide) ?_
        refine v_iload (n := 203) dX8_firstPart_201 rfl rfl ?_
        refine v_iadd (n := 204) dX8_firstPart_203 rfl ?_
        refine v_top (y := nI (100 + i4)) (nI_add 100 i4) ?_
        exact v_iret dX8_firstPart_204 rfl (Nat.le_of_ble_eq_true rfl) (Nat.le_of_ble_eq_true rfl) h
      · replace h := h.2 hq
        refine v_iinc (n := 196) (x := nI i4) (y := nI (i4 + 1)) (L' := [(0, .ref (zad G.1 10 0 0)), (1, .int x1), (2, .int x2), (3, .int x3), (4, .int (nI (i4 + 1)))]) dX8_firstPart_193 rfl rfl (nI_1 i4) (by decide) rfl ?_
        refine v_goto (n := 135) dX8_firstPart_196 (by decide) ?_
        exact h

set_option maxRecDepth 20000 in
set_option maxHeartbeats 4000000 in
theorem wX8_reachable (G : Gl) {P : Option Value → St → Prop} {X : String → St → Prop} (x1 : Int32) (x2 : Int32) (μ : St)
    (h : VL G mX8_reachable P X 16 [(0, .ref (zad G.1 10 0 0)), (1, .int x1), (2, .int x2), (3, .int (nI 0)), (4, .int (nI 0))] [] (up μ 10 0 0 6 (mlk μ x1 x2 x2))) :
    Con G mX8_reachable [.ref (zad G.1 10 0 0), .int x1, .int x2] μ P X := by
  refine con_of pn_X8 rfl (Nat.le_of_ble_eq_true rfl) ?_
  show VL G mX8_reachable P X 0 [(0, .ref (zad G.1 10 0 0)), (1, .int x1), (2, .int x2)] [] μ
  refine v_aload_n (n := 1) dX8_reachable_0 rfl rfl ?_
  refine v_aload_n (n := 2) dX8_reachable_1 rfl rfl ?_
  refine v_iload_n (n := 3) dX8_reachable_2 rfl rfl ?_
  refine v_iload_n (n := 4) dX8_reachable_3 rfl rfl ?_
  refine v_iload_n (n := 5) dX8_reachable_4 rfl rfl ?_
  refine v_callV (n := 8) (k := 10) (b := 0) (i := 0) (As := [.int x1, .int x2, .int x2]) (rest := [.ref (zad G.1 10 0 0)]) dX8_reachable_5 rfl lk_X8_162 rfl rfl (Nat.le_of_ble_eq_true rfl) ⟨Nat.le_of_ble_eq_true rfl, Nat.le_of_ble_eq_true rfl, Nat.le_of_ble_eq_true rfl, Nat.le_of_ble_eq_true rfl⟩ zokc_10 (s_X8_lacks G x1 x2 x2 μ) (fun v μ9 hp => ?_) (fun _ _ hp => False.elim hp)
  rw [hp.1, hp.2]
  refine v_norm (st' := [.int (mlk μ x1 x2 x2), .ref (zad G.1 10 0 0)]) (cells' := 0) (slots' := 0) rfl rfl rfl ?_
  refine v_putf (n := 11) dX8_reachable_8 rfl fw_X8_41 zokc_10 (fun _ => rfl) rfl rfl ?_
  refine v_iconst (n := 12) (x := nI 0) dX8_reachable_11 rfl (by decide) ?_
  refine v_istore_n (n := 13) (L' := [(0, .ref (zad G.1 10 0 0)), (1, .int x1), (2, .int x2), (3, .int (nI 0))]) dX8_reachable_12 rfl (by decide) rfl ?_
  refine v_iconst (n := 14) (x := nI 0) dX8_reachable_13 rfl (by decide) ?_
  refine v_istore (n := 16) (L' := [(0, .ref (zad G.1 10 0 0)), (1, .int x1), (2, .int x2), (3, .int (nI 0)), (4, .int (nI 0))]) dX8_reachable_14 rfl (by decide) rfl ?_
  exact h

set_option maxRecDepth 20000 in
set_option maxHeartbeats 4000000 in
theorem wX8_reachable_16 (G : Gl) {P : Option Value → St → Prop} {X : String → St → Prop} (x1 : Int32) (x2 : Int32) (y3 : Int32) (i4 : Nat) (μ : St)
    (h : ((nI 8 ≤ nI i4 → P (some (.int y3)) μ) ∧ (¬ nI 8 ≤ nI i4 → ((¬ μ 10 0 0 6 = 0 → P (some (.int y3)) μ) ∧ (μ 10 0 0 6 = 0 → Con G mX8_layWays [.ref (zad G.1 10 0 0), .int x1, .int (nI i4)] μ (fun v μ1 => v = none ∧ ∃ j1 : Nat, x2 = nI j1 ∧ j1 < 8 ∧ ((nI 1000000 ≤ μ1 30 0 0 j1 → VL G mX8_reachable P X 16 [(0, .ref (zad G.1 10 0 0)), (1, .int x1), (2, .int x2), (3, .int (y3 ||| (nI 0))), (4, .int (nI (i4 + 1)))] [] μ1) ∧ (¬ nI 1000000 ≤ μ1 30 0 0 j1 → VL G mX8_reachable P X 16 [(0, .ref (zad G.1 10 0 0)), (1, .int x1), (2, .int x2), (3, .int (y3 ||| ((nI 1) <<< ((nI i4) &&& 31)))), (4, .int (nI (i4 + 1)))] [] μ1))) noX))))) :
    VL G mX8_reachable P X 16 [(0, .ref (zad G.1 10 0 0)), (1, .int x1), (2, .int x2), (3, .int y3), (4, .int (nI i4))] [] μ := by
  refine v_iload (n := 18) dX8_reachable_16 rfl rfl ?_
  refine v_bipush (n := 20) (x := nI 8) dX8_reachable_18 rfl (by decide) ?_
  refine v_icmp_ge (n := 23) (t := 65) dX8_reachable_20 rfl (by decide) (fun hq => ?_) (fun hq => ?_)
  · replace h := h.1 hq
    refine v_iload_n (n := 66) dX8_reachable_65 rfl rfl ?_
    exact v_iret dX8_reachable_66 rfl (Nat.le_of_ble_eq_true rfl) (Nat.le_of_ble_eq_true rfl) h
  · replace h := h.2 hq
    refine v_aload_n (n := 24) dX8_reachable_23 rfl rfl ?_
    refine v_getf (n := 27) dX8_reachable_24 rfl fl_X8_41 zokc_10 (rfl) ?_
    refine v_if_ne (n := 30) (t := 65) dX8_reachable_27 rfl (by decide) (fun hq => ?_) (fun hq => ?_)
    · replace h := h.1 hq
      refine v_iload_n (n := 66) dX8_reachable_65 rfl rfl ?_
      exact v_iret dX8_reachable_66 rfl (Nat.le_of_ble_eq_true rfl) (Nat.le_of_ble_eq_true rfl) h
    · replace h := h.2 hq
      refine v_aload_n (n := 31) dX8_reachable_30 rfl rfl ?_
      refine v_iload_n (n := 32) dX8_reachable_31 rfl rfl ?_
      refine v_iload (n := 34) dX8_reachable_32 rfl rfl ?_
      refine v_callV (n := 37) (k := 10) (b := 0) (i := 0) (As := [.int x1, .int (nI i4)]) (rest := []) dX8_reachable_34 rfl lk_X8_166 rfl rfl (Nat.le_of_ble_eq_true rfl) ⟨Nat.le_of_ble_eq_true rfl, Nat.le_of_ble_eq_true rfl, Nat.le_of_ble_eq_true rfl, Nat.le_of_ble_eq_true rfl⟩ zokc_10 h (fun v μ1 h => ?_) (fun _ _ hp => False.elim hp)
      obtain ⟨rfl, h⟩ := h
      refine v_norm (st' := []) (cells' := 0) (slots' := 0) rfl rfl rfl ?_
      refine v_iload_n (n := 38) dX8_reachable_37 rfl rfl ?_
      refine v_aload_n (n := 39) dX8_reachable_38 rfl rfl ?_
      refine v_getf (n := 42) dX8_reachable_39 rfl fl_X8_22 zokc_10 rfl ?_
      refine v_iload_n (n := 43) dX8_reachable_42 rfl rfl ?_
      obtain ⟨j1, ej1, hj1, h⟩ := h
      refine v_iald (n := 44) (j := j1) dX8_reachable_43 rfl zokc_30 (by decide) rfl ej1 hj1 (rfl) ?_
      refine v_ldc (n := 46) (x := 1000000) dX8_reachable_44 rfl lc_X8_155 ?_
      refine v_top (y := nI 1000000) (by decide) ?_
      refine v_icmp_ge (n := 49) (t := 56) dX8_reachable_46 rfl (by decide) (fun hq => ?_) (fun hq => ?_)
      · replace h := h.1 hq
        refine v_iconst (n := 57) (x := nI 0) dX8_reachable_56 rfl (by decide) ?_
        refine v_ior (n := 58) dX8_reachable_57 rfl ?_
        refine v_istore_n (n := 59) (L' := [(0, .ref (zad G.1 10 0 0)), (1, .int x1), (2, .int x2), (3, .int (y3 ||| (nI 0))), (4, .int (nI i4))]) dX8_reachable_58 rfl (by decide) rfl ?_
        refine v_iinc (n := 62) (x := nI i4) (y := nI (i4 + 1)) (L' := [(0, .ref (zad G.1 10 0 0)), (1, .int x1), (2, .int x2), (3, .int (y3 ||| (nI 0))), (4, .int (nI (i4 + 1)))]) dX8_reachable_59 rfl rfl (nI_1 i4) (by decide) rfl ?_
        refine v_goto (n := 16) dX8_reachable_62 (by decide) ?_
        exact h
      · replace h := h.2 hq
        refine v_iconst (n := 50) (x := nI 1) dX8_reachable_49 rfl (by decide) ?_
        refine v_iload (n := 52) dX8_reachable_50 rfl rfl ?_
        refine v_ishl (n := 53) dX8_reachable_52 rfl ?_
        refine v_goto (n := 57) dX8_reachable_53 (by decide) ?_
        refine v_ior (n := 58) dX8_reachable_57 rfl ?_
        refine v_istore_n (n := 59) (L' := [(0, .ref (zad G.1 10 0 0)), (1, .int x1), (2, .int x2), (3, .int (y3 ||| ((nI 1) <<< ((nI i4) &&& 31)))), (4, .int (nI i4))]) dX8_reachable_58 rfl (by decide) rfl ?_
        refine v_iinc (n := 62) (x := nI i4) (y := nI (i4 + 1)) (L' := [(0, .ref (zad G.1 10 0 0)), (1, .int x1), (2, .int x2), (3, .int (y3 ||| ((nI 1) <<< ((nI i4) &&& 31)))), (4, .int (nI (i4 + 1)))]) dX8_reachable_59 rfl rfl (nI_1 i4) (by decide) rfl ?_
        refine v_goto (n := 16) dX8_reachable_62 (by decide) ?_
        exact h

set_option maxRecDepth 20000 in
set_option maxHeartbeats 4000000 in
theorem wX8_stranded (G : Gl) {P : Option Value → St → Prop} {X : String → St → Prop} (x1 : Int32) (x2 : Int32) (μ : St)
    (h : ((mlk μ x1 x2 x2 ≤ 0 → Con G mX8_layWays [.ref (zad G.1 10 0 0), .int x1, .int x2] (up μ 10 0 0 6 (mlk μ x1 x2 x2)) (fun v μ1 => v = none ∧ VL G mX8_stranded P X 31 [(0, .ref (zad G.1 10 0 0)), (1, .int x1), (2, .int x2), (3, .int (nI 0)), (4, .int (nI 0))] [] μ1) noX) ∧ (¬ mlk μ x1 x2 x2 ≤ 0 → P (some (.int (nI 0))) (up μ 10 0 0 6 (mlk μ x1 x2 x2))))) :
    Con G mX8_stranded [.ref (zad G.1 10 0 0), .int x1, .int x2] μ P X := by
  refine con_of pn_X8 rfl (Nat.le_of_ble_eq_true rfl) ?_
  show VL G mX8_stranded P X 0 [(0, .ref (zad G.1 10 0 0)), (1, .int x1), (2, .int x2)] [] μ
  refine v_aload_n (n := 1) dX8_stranded_0 rfl rfl ?_
  refine v_aload_n (n := 2) dX8_stranded_1 rfl rfl ?_
  refine v_iload_n (n := 3) dX8_stranded_2 rfl rfl ?_
  refine v_iload_n (n := 4) dX8_stranded_3 rfl rfl ?_
  refine v_iload_n (n := 5) dX8_stranded_4 rfl rfl ?_
  refine v_callV (n := 8) (k := 10) (b := 0) (i := 0) (As := [.int x1, .int x2, .int x2]) (rest := [.ref (zad G.1 10 0 0)]) dX8_stranded_5 rfl lk_X8_162 rfl rfl (Nat.le_of_ble_eq_true rfl) ⟨Nat.le_of_ble_eq_true rfl, Nat.le_of_ble_eq_true rfl, Nat.le_of_ble_eq_true rfl, Nat.le_of_ble_eq_true rfl⟩ zokc_10 (s_X8_lacks G x1 x2 x2 μ) (fun v μ9 hp => ?_) (fun _ _ hp => False.elim hp)
  rw [hp.1, hp.2]
  refine v_norm (st' := [.int (mlk μ x1 x2 x2), .ref (zad G.1 10 0 0)]) (cells' := 0) (slots' := 0) rfl rfl rfl ?_
  refine v_putf (n := 11) dX8_stranded_8 rfl fw_X8_41 zokc_10 (fun _ => rfl) rfl rfl ?_
  refine v_aload_n (n := 12) dX8_stranded_11 rfl rfl ?_
  refine v_getf (n := 15) dX8_stranded_12 rfl fl_X8_41 zokc_10 (congrArg Value.int (up_self _ _ _ _ _ _)) ?_
  refine v_if_le (n := 18) (t := 20) dX8_stranded_15 rfl (by decide) (fun hq => ?_) (fun hq => ?_)
  · replace h := h.1 hq
    refine v_aload_n (n := 21) dX8_stranded_20 rfl rfl ?_
    refine v_iload_n (n := 22) dX8_stranded_21 rfl rfl ?_
    refine v_iload_n (n := 23) dX8_stranded_22 rfl rfl ?_
    refine v_callV (n := 26) (k := 10) (b := 0) (i := 0) (As := [.int x1, .int x2]) (rest := []) dX8_stranded_23 rfl lk_X8_166 rfl rfl (Nat.le_of_ble_eq_true rfl) ⟨Nat.le_of_ble_eq_true rfl, Nat.le_of_ble_eq_true rfl, Nat.le_of_ble_eq_true rfl, Nat.le_of_ble_eq_true rfl⟩ zokc_10 h (fun v μ1 h => ?_) (fun _ _ hp => False.elim hp)
    obtain ⟨rfl, h⟩ := h
    refine v_norm (st' := []) (cells' := 0) (slots' := 0) rfl rfl rfl ?_
    refine v_iconst (n := 27) (x := nI 0) dX8_stranded_26 rfl (by decide) ?_
    refine v_istore_n (n := 28) (L' := [(0, .ref (zad G.1 10 0 0)), (1, .int x1), (2, .int x2), (3, .int (nI 0))]) dX8_stranded_27 rfl (by decide) rfl ?_
    refine v_iconst (n := 29) (x := nI 0) dX8_stranded_28 rfl (by decide) ?_
    refine v_istore (n := 31) (L' := [(0, .ref (zad G.1 10 0 0)), (1, .int x1), (2, .int x2), (3, .int (nI 0)), (4, .int (nI 0))]) dX8_stranded_29 rfl (by decide) rfl ?_
    exact h
  · replace h := h.2 hq
    refine v_iconst (n := 19) (x := nI 0) dX8_stranded_18 rfl (by decide) ?_
    exact v_iret dX8_stranded_19 rfl (Nat.le_of_ble_eq_true rfl) (Nat.le_of_ble_eq_true rfl) h

set_option maxRecDepth 20000 in
set_option maxHeartbeats 4000000 in
theorem wX8_stranded_31 (G : Gl) {P : Option Value → St → Prop} {X : String → St → Prop} (x1 : Int32) (x2 : Int32) (y3 : Int32) (i4 : Nat) (μ : St)
    (h : ((nI 8 ≤ nI i4 → P (some (.int y3)) μ) ∧ (¬ nI 8 ≤ nI i4 → i4 < 8 ∧ ((μ 30 0 0 i4 < nI 1000000 → VL G mX8_stranded P X 31 [(0, .ref (zad G.1 10 0 0)), (1, .int x1), (2, .int x2), (3, .int (y3 ||| (nI 0))), (4, .int (nI (i4 + 1)))] [] μ) ∧ (¬ μ 30 0 0 i4 < nI 1000000 → VL G mX8_stranded P X 31 [(0, .ref (zad G.1 10 0 0)), (1, .int x1), (2, .int x2), (3, .int (y3 ||| ((nI 1) <<< ((nI i4) &&& 31)))), (4, .int (nI (i4 + 1)))] [] μ))))) :
    VL G mX8_stranded P X 31 [(0, .ref (zad G.1 10 0 0)), (1, .int x1), (2, .int x2), (3, .int y3), (4, .int (nI i4))] [] μ := by
  refine v_iload (n := 33) dX8_stranded_31 rfl rfl ?_
  refine v_bipush (n := 35) (x := nI 8) dX8_stranded_33 rfl (by decide) ?_
  refine v_icmp_ge (n := 38) (t := 67) dX8_stranded_35 rfl (by decide) (fun hq => ?_) (fun hq => ?_)
  · replace h := h.1 hq
    refine v_iload_n (n := 68) dX8_stranded_67 rfl rfl ?_
    exact v_iret dX8_stranded_68 rfl (Nat.le_of_ble_eq_true rfl) (Nat.le_of_ble_eq_true rfl) h
  · replace h := h.2 hq
    refine v_iload_n (n := 39) dX8_stranded_38 rfl rfl ?_
    refine v_aload_n (n := 40) dX8_stranded_39 rfl rfl ?_
    refine v_getf (n := 43) dX8_stranded_40 rfl fl_X8_22 zokc_10 rfl ?_
    refine v_iload (n := 45) dX8_stranded_43 rfl rfl ?_
    obtain ⟨hf1, h⟩ := h
    refine v_iald (n := 46) (j := i4) dX8_stranded_45 rfl zokc_30 (by decide) rfl rfl hf1 (rfl) ?_
    refine v_ldc (n := 48) (x := 1000000) dX8_stranded_46 rfl lc_X8_155 ?_
    refine v_top (y := nI 1000000) (by decide) ?_
    refine v_icmp_lt (n := 51) (t := 58) dX8_stranded_48 rfl (by decide) (fun hq => ?_) (fun hq => ?_)
    · replace h := h.1 hq
      refine v_iconst (n := 59) (x := nI 0) dX8_stranded_58 rfl (by decide) ?_
      refine v_ior (n := 60) dX8_stranded_59 rfl ?_
      refine v_istore_n (n := 61) (L' := [(0, .ref (zad G.1 10 0 0)), (1, .int x1), (2, .int x2), (3, .int (y3 ||| (nI 0))), (4, .int (nI i4))]) dX8_stranded_60 rfl (by decide) rfl ?_
      refine v_iinc (n := 64) (x := nI i4) (y := nI (i4 + 1)) (L' := [(0, .ref (zad G.1 10 0 0)), (1, .int x1), (2, .int x2), (3, .int (y3 ||| (nI 0))), (4, .int (nI (i4 + 1)))]) dX8_stranded_61 rfl rfl (nI_1 i4) (by decide) rfl ?_
      refine v_goto (n := 31) dX8_stranded_64 (by decide) ?_
      exact h
    · replace h := h.2 hq
      refine v_iconst (n := 52) (x := nI 1) dX8_stranded_51 rfl (by decide) ?_
      refine v_iload (n := 54) dX8_stranded_52 rfl rfl ?_
      refine v_ishl (n := 55) dX8_stranded_54 rfl ?_
      refine v_goto (n := 59) dX8_stranded_55 (by decide) ?_
      refine v_ior (n := 60) dX8_stranded_59 rfl ?_
      refine v_istore_n (n := 61) (L' := [(0, .ref (zad G.1 10 0 0)), (1, .int x1), (2, .int x2), (3, .int (y3 ||| ((nI 1) <<< ((nI i4) &&& 31)))), (4, .int (nI i4))]) dX8_stranded_60 rfl (by decide) rfl ?_
      refine v_iinc (n := 64) (x := nI i4) (y := nI (i4 + 1)) (L' := [(0, .ref (zad G.1 10 0 0)), (1, .int x1), (2, .int x2), (3, .int (y3 ||| ((nI 1) <<< ((nI i4) &&& 31)))), (4, .int (nI (i4 + 1)))]) dX8_stranded_61 rfl rfl (nI_1 i4) (by decide) rfl ?_
      refine v_goto (n := 31) dX8_stranded_64 (by decide) ?_
      exact h

set_option maxRecDepth 20000 in
set_option maxHeartbeats 4000000 in
theorem wX8_liftAccount (G : Gl) {P : Option Value → St → Prop} {X : String → St → Prop} (x1 : Int32) (x2 : Int32) (μ : St)
    (h : ((mix μ 3 x1 = true → ((btw x2 (nI 0) (nI 1) = true → ((nI 0 ≤ 0 → ∃ j1 : Nat, ((nI 6 + nI 21 * x1) + (nI 8)) + x2 = nI j1 ∧ j1 < 372 ∧ P (some (.int (μ 26 0 0 j1))) (up μ 10 0 0 6 (nI 0))) ∧ (¬ nI 0 ≤ 0 → P (some (.int (nI 0))) (up μ 10 0 0 6 (nI 0))))) ∧ (btw x2 (nI 0) (nI 1) = false → ((nI 2 ≤ 0 → ∃ j2 : Nat, ((nI 6 + nI 21 * x1) + (nI 8)) + x2 = nI j2 ∧ j2 < 372 ∧ P (some (.int (μ 26 0 0 j2))) (up μ 10 0 0 6 (nI 2))) ∧ (¬ nI 2 ≤ 0 → P (some (.int (nI 0))) (up μ 10 0 0 6 (nI 2))))))) ∧ (mix μ 3 x1 = false → ((nI 1 ≤ 0 → ∃ j3 : Nat, ((nI 6 + nI 21 * x1) + (nI 8)) + x2 = nI j3 ∧ j3 < 372 ∧ P (some (.int (μ 26 0 0 j3))) (up μ 10 0 0 6 (nI 1))) ∧ (¬ nI 1 ≤ 0 → P (some (.int (nI 0))) (up μ 10 0 0 6 (nI 1))))))) :
    Con G mX8_liftAccount [.ref (zad G.1 10 0 0), .int x1, .int x2] μ P X := by
  refine con_of pn_X8 rfl (Nat.le_of_ble_eq_true rfl) ?_
  show VL G mX8_liftAccount P X 0 [(0, .ref (zad G.1 10 0 0)), (1, .int x1), (2, .int x2)] [] μ
  refine v_aload_n (n := 1) dX8_liftAccount_0 rfl rfl ?_
  refine v_aload_n (n := 2) dX8_liftAccount_1 rfl rfl ?_
  refine v_iload_n (n := 3) dX8_liftAccount_2 rfl rfl ?_
  refine v_callV (n := 6) (k := 10) (b := 0) (i := 0) (As := [.int x1]) (rest := [.ref (zad G.1 10 0 0)]) dX8_liftAccount_3 rfl lk_X8_74 rfl rfl (Nat.le_of_ble_eq_true rfl) ⟨Nat.le_of_ble_eq_true rfl, Nat.le_of_ble_eq_true rfl, Nat.le_of_ble_eq_true rfl, Nat.le_of_ble_eq_true rfl⟩ zokc_10 (s_X8_isLift G x1 μ) (fun v μ9 hp => ?_) (fun _ _ hp => False.elim hp)
  rw [hp.1, hp.2]
  refine v_norm (st' := [.int (bI (mix μ 3 x1)), .ref (zad G.1 10 0 0)]) (cells' := 0) (slots' := 0) rfl rfl rfl ?_
  refine v_if_ne (n := 9) (t := 13) dX8_liftAccount_6 rfl (by decide) (fun hq => ?_) (fun hq => ?_)
  · replace h := h.1 (bI_nf hq)
    refine v_iload_n (n := 14) dX8_liftAccount_13 rfl rfl ?_
    refine v_iconst (n := 15) (x := nI 0) dX8_liftAccount_14 rfl (by decide) ?_
    refine v_iconst (n := 16) (x := nI 1) dX8_liftAccount_15 rfl (by decide) ?_
    refine v_callS (n := 19) (As := [.int x2, .int (nI 0), .int (nI 1)]) (rest := [.ref (zad G.1 10 0 0)]) dX8_liftAccount_16 rfl lk_X8_47 rfl rfl (Nat.le_of_ble_eq_true rfl) ⟨Nat.le_of_ble_eq_true rfl, Nat.le_of_ble_eq_true rfl, Nat.le_of_ble_eq_true rfl, Nat.le_of_ble_eq_true rfl⟩ (s_X8_in G x2 (nI 0) (nI 1) μ) (fun v μ9 hp => ?_) (fun _ _ hp => False.elim hp)
    rw [hp.1, hp.2]
    refine v_norm (st' := [.int (bI (btw x2 (nI 0) (nI 1))), .ref (zad G.1 10 0 0)]) (cells' := 0) (slots' := 0) rfl rfl rfl ?_
    refine v_if_ne (n := 22) (t := 26) dX8_liftAccount_19 rfl (by decide) (fun hq => ?_) (fun hq => ?_)
    · replace h := h.1 (bI_nf hq)
      refine v_iconst (n := 27) (x := nI 0) dX8_liftAccount_26 rfl (by decide) ?_
      refine v_putf (n := 30) dX8_liftAccount_27 rfl fw_X8_41 zokc_10 (fun _ => rfl) rfl rfl ?_
      refine v_aload_n (n := 31) dX8_liftAccount_30 rfl rfl ?_
      refine v_getf (n := 34) dX8_liftAccount_31 rfl fl_X8_41 zokc_10 (congrArg Value.int (up_self _ _ _ _ _ _)) ?_
      refine v_if_le (n := 37) (t := 41) dX8_liftAccount_34 rfl (by decide) (fun hq => ?_) (fun hq => ?_)
      · replace h := h.1 hq
        refine v_aload_n (n := 42) dX8_liftAccount_41 rfl rfl ?_
        refine v_getf (n := 45) dX8_liftAccount_42 rfl fl_X8_9 zokc_10 rfl ?_
        refine v_iload_n (n := 46) dX8_liftAccount_45 rfl rfl ?_
        refine v_callS (n := 49) (As := [.int x1]) (rest := [.ref (zad G.1 26 0 0)]) dX8_liftAccount_46 rfl lk_X8_51 rfl rfl (Nat.le_of_ble_eq_true rfl) ⟨Nat.le_of_ble_eq_true rfl, Nat.le_of_ble_eq_true rfl, Nat.le_of_ble_eq_true rfl, Nat.le_of_ble_eq_true rfl⟩ (s_X8_lift0 G x1 (up μ 10 0 0 6 (nI 0))) (fun v μ9 hp => ?_) (fun _ _ hp => False.elim hp)
        rw [hp.1, hp.2]
        refine v_norm (st' := [.int (nI 6 + nI 21 * x1), .ref (zad G.1 26 0 0)]) (cells' := 0) (slots' := 0) rfl rfl rfl ?_
        refine v_bipush (n := 51) (x := nI 8) dX8_liftAccount_49 rfl (by decide) ?_
        refine v_iadd (n := 52) dX8_liftAccount_51 rfl ?_
        refine v_iload_n (n := 53) dX8_liftAccount_52 rfl rfl ?_
        refine v_iadd (n := 54) dX8_liftAccount_53 rfl ?_
        obtain ⟨j1, ej1, hj1, h⟩ := h
        refine v_iald (n := 55) (j := j1) dX8_liftAccount_54 rfl zokc_26 (by decide) rfl ej1 hj1 (congrArg Value.int (up_k (by decide))) ?_
        exact v_iret dX8_liftAccount_55 rfl (Nat.le_of_ble_eq_true rfl) (Nat.le_of_ble_eq_true rfl) h
      · replace h := h.2 hq
        refine v_iconst (n := 38) (x := nI 0) dX8_liftAccount_37 rfl (by decide) ?_
        refine v_goto (n := 55) dX8_liftAccount_38 (by decide) ?_
        exact v_iret dX8_liftAccount_55 rfl (Nat.le_of_ble_eq_true rfl) (Nat.le_of_ble_eq_true rfl) h
    · replace h := h.2 (bI_f hq)
      refine v_iconst (n := 23) (x := nI 2) dX8_liftAccount_22 rfl (by decide) ?_
      refine v_goto (n := 27) dX8_liftAccount_23 (by decide) ?_
      refine v_putf (n := 30) dX8_liftAccount_27 rfl fw_X8_41 zokc_10 (fun _ => rfl) rfl rfl ?_
      refine v_aload_n (n := 31) dX8_liftAccount_30 rfl rfl ?_
      refine v_getf (n := 34) dX8_liftAccount_31 rfl fl_X8_41 zokc_10 (congrArg Value.int (up_self _ _ _ _ _ _)) ?_
      refine v_if_le (n := 37) (t := 41) dX8_liftAccount_34 rfl (by decide) (fun hq => ?_) (fun hq => ?_)
      · replace h := h.1 hq
        refine v_aload_n (n := 42) dX8_liftAccount_41 rfl rfl ?_
        refine v_getf (n := 45) dX8_liftAccount_42 rfl fl_X8_9 zokc_10 rfl ?_
        refine v_iload_n (n := 46) dX8_liftAccount_45 rfl rfl ?_
        refine v_callS (n := 49) (As := [.int x1]) (rest := [.ref (zad G.1 26 0 0)]) dX8_liftAccount_46 rfl lk_X8_51 rfl rfl (Nat.le_of_ble_eq_true rfl) ⟨Nat.le_of_ble_eq_true rfl, Nat.le_of_ble_eq_true rfl, Nat.le_of_ble_eq_true rfl, Nat.le_of_ble_eq_true rfl⟩ (s_X8_lift0 G x1 (up μ 10 0 0 6 (nI 2))) (fun v μ9 hp => ?_) (fun _ _ hp => False.elim hp)
        rw [hp.1, hp.2]
        refine v_norm (st' := [.int (nI 6 + nI 21 * x1), .ref (zad G.1 26 0 0)]) (cells' := 0) (slots' := 0) rfl rfl rfl ?_
        refine v_bipush (n := 51) (x := nI 8) dX8_liftAccount_49 rfl (by decide) ?_
        refine v_iadd (n := 52) dX8_liftAccount_51 rfl ?_
        refine v_iload_n (n := 53) dX8_liftAccount_52 rfl rfl ?_
        refine v_iadd (n := 54) dX8_liftAccount_53 rfl ?_
        obtain ⟨j2, ej2, hj2, h⟩ := h
        refine v_iald (n := 55) (j := j2) dX8_liftAccount_54 rfl zokc_26 (by decide) rfl ej2 hj2 (congrArg Value.int (up_k (by decide))) ?_
        exact v_iret dX8_liftAccount_55 rfl (Nat.le_of_ble_eq_true rfl) (Nat.le_of_ble_eq_true rfl) h
      · replace h := h.2 hq
        refine v_iconst (n := 38) (x := nI 0) dX8_liftAccount_37 rfl (by decide) ?_
        refine v_goto (n := 55) dX8_liftAccount_38 (by decide) ?_
        exact v_iret dX8_liftAccount_55 rfl (Nat.le_of_ble_eq_true rfl) (Nat.le_of_ble_eq_true rfl) h
  · replace h := h.2 (bI_f hq)
    refine v_iconst (n := 10) (x := nI 1) dX8_liftAccount_9 rfl (by decide) ?_
    refine v_goto (n := 27) dX8_liftAccount_10 (by decide) ?_
    refine v_putf (n := 30) dX8_liftAccount_27 rfl fw_X8_41 zokc_10 (fun _ => rfl) rfl rfl ?_
    refine v_aload_n (n := 31) dX8_liftAccount_30 rfl rfl ?_
    refine v_getf (n := 34) dX8_liftAccount_31 rfl fl_X8_41 zokc_10 (congrArg Value.int (up_self _ _ _ _ _ _)) ?_
    refine v_if_le (n := 37) (t := 41) dX8_liftAccount_34 rfl (by decide) (fun hq => ?_) (fun hq => ?_)
    · replace h := h.1 hq
      refine v_aload_n (n := 42) dX8_liftAccount_41 rfl rfl ?_
      refine v_getf (n := 45) dX8_liftAccount_42 rfl fl_X8_9 zokc_10 rfl ?_
      refine v_iload_n (n := 46) dX8_liftAccount_45 rfl rfl ?_
      refine v_callS (n := 49) (As := [.int x1]) (rest := [.ref (zad G.1 26 0 0)]) dX8_liftAccount_46 rfl lk_X8_51 rfl rfl (Nat.le_of_ble_eq_true rfl) ⟨Nat.le_of_ble_eq_true rfl, Nat.le_of_ble_eq_true rfl, Nat.le_of_ble_eq_true rfl, Nat.le_of_ble_eq_true rfl⟩ (s_X8_lift0 G x1 (up μ 10 0 0 6 (nI 1))) (fun v μ9 hp => ?_) (fun _ _ hp => False.elim hp)
      rw [hp.1, hp.2]
      refine v_norm (st' := [.int (nI 6 + nI 21 * x1), .ref (zad G.1 26 0 0)]) (cells' := 0) (slots' := 0) rfl rfl rfl ?_
      refine v_bipush (n := 51) (x := nI 8) dX8_liftAccount_49 rfl (by decide) ?_
      refine v_iadd (n := 52) dX8_liftAccount_51 rfl ?_
      refine v_iload_n (n := 53) dX8_liftAccount_52 rfl rfl ?_
      refine v_iadd (n := 54) dX8_liftAccount_53 rfl ?_
      obtain ⟨j3, ej3, hj3, h⟩ := h
      refine v_iald (n := 55) (j := j3) dX8_liftAccount_54 rfl zokc_26 (by decide) rfl ej3 hj3 (congrArg Value.int (up_k (by decide))) ?_
      exact v_iret dX8_liftAccount_55 rfl (Nat.le_of_ble_eq_true rfl) (Nat.le_of_ble_eq_true rfl) h
    · replace h := h.2 hq
      refine v_iconst (n := 38) (x := nI 0) dX8_liftAccount_37 rfl (by decide) ?_
      refine v_goto (n := 55) dX8_liftAccount_38 (by decide) ?_
      exact v_iret dX8_liftAccount_55 rfl (Nat.le_of_ble_eq_true rfl) (Nat.le_of_ble_eq_true rfl) h

set_option maxRecDepth 20000 in
set_option maxHeartbeats 4000000 in
theorem wX8_guestAccount (G : Gl) {P : Option Value → St → Prop} {X : String → St → Prop} (x1 : Int32) (x2 : Int32) (μ : St)
    (h : ((mix μ 5 x1 = true → ((btw x2 (nI 0) (nI 2) = true → ((nI 0 ≤ 0 → ∃ j1 : Nat, ((nI 212 + nI 10 * x1) + (nI 7)) + x2 = nI j1 ∧ j1 < 372 ∧ P (some (.int (μ 26 0 0 j1))) (up μ 10 0 0 6 (nI 0))) ∧ (¬ nI 0 ≤ 0 → P (some (.int (nI 0))) (up μ 10 0 0 6 (nI 0))))) ∧ (btw x2 (nI 0) (nI 2) = false → ((nI 2 ≤ 0 → ∃ j2 : Nat, ((nI 212 + nI 10 * x1) + (nI 7)) + x2 = nI j2 ∧ j2 < 372 ∧ P (some (.int (μ 26 0 0 j2))) (up μ 10 0 0 6 (nI 2))) ∧ (¬ nI 2 ≤ 0 → P (some (.int (nI 0))) (up μ 10 0 0 6 (nI 2))))))) ∧ (mix μ 5 x1 = false → ((nI 1 ≤ 0 → ∃ j3 : Nat, ((nI 212 + nI 10 * x1) + (nI 7)) + x2 = nI j3 ∧ j3 < 372 ∧ P (some (.int (μ 26 0 0 j3))) (up μ 10 0 0 6 (nI 1))) ∧ (¬ nI 1 ≤ 0 → P (some (.int (nI 0))) (up μ 10 0 0 6 (nI 1))))))) :
    Con G mX8_guestAccount [.ref (zad G.1 10 0 0), .int x1, .int x2] μ P X := by
  refine con_of pn_X8 rfl (Nat.le_of_ble_eq_true rfl) ?_
  show VL G mX8_guestAccount P X 0 [(0, .ref (zad G.1 10 0 0)), (1, .int x1), (2, .int x2)] [] μ
  refine v_aload_n (n := 1) dX8_guestAccount_0 rfl rfl ?_
  refine v_aload_n (n := 2) dX8_guestAccount_1 rfl rfl ?_
  refine v_iload_n (n := 3) dX8_guestAccount_2 rfl rfl ?_
  refine v_callV (n := 6) (k := 10) (b := 0) (i := 0) (As := [.int x1]) (rest := [.ref (zad G.1 10 0 0)]) dX8_guestAccount_3 rfl lk_X8_92 rfl rfl (Nat.le_of_ble_eq_true rfl) ⟨Nat.le_of_ble_eq_true rfl, Nat.le_of_ble_eq_true rfl, Nat.le_of_ble_eq_true rfl, Nat.le_of_ble_eq_true rfl⟩ zokc_10 (s_X8_isGuest G x1 μ) (fun v μ9 hp => ?_) (fun _ _ hp => False.elim hp)
  rw [hp.1, hp.2]
  refine v_norm (st' := [.int (bI (mix μ 5 x1)), .ref (zad G.1 10 0 0)]) (cells' := 0) (slots' := 0) rfl rfl rfl ?_
  refine v_if_ne (n := 9) (t := 13) dX8_guestAccount_6 rfl (by decide) (fun hq => ?_) (fun hq => ?_)
  · replace h := h.1 (bI_nf hq)
    refine v_iload_n (n := 14) dX8_guestAccount_13 rfl rfl ?_
    refine v_iconst (n := 15) (x := nI 0) dX8_guestAccount_14 rfl (by decide) ?_
    refine v_iconst (n := 16) (x := nI 2) dX8_guestAccount_15 rfl (by decide) ?_
    refine v_callS (n := 19) (As := [.int x2, .int (nI 0), .int (nI 2)]) (rest := [.ref (zad G.1 10 0 0)]) dX8_guestAccount_16 rfl lk_X8_47 rfl rfl (Nat.le_of_ble_eq_true rfl) ⟨Nat.le_of_ble_eq_true rfl, Nat.le_of_ble_eq_true rfl, Nat.le_of_ble_eq_true rfl, Nat.le_of_ble_eq_true rfl⟩ (s_X8_in G x2 (nI 0) (nI 2) μ) (fun v μ9 hp => ?_) (fun _ _ hp => False.elim hp)
    rw [hp.1, hp.2]
    refine v_norm (st' := [.int (bI (btw x2 (nI 0) (nI 2))), .ref (zad G.1 10 0 0)]) (cells' := 0) (slots' := 0) rfl rfl rfl ?_
    refine v_if_ne (n := 22) (t := 26) dX8_guestAccount_19 rfl (by decide) (fun hq => ?_) (fun hq => ?_)
    · replace h := h.1 (bI_nf hq)
      refine v_iconst (n := 27) (x := nI 0) dX8_guestAccount_26 rfl (by decide) ?_
      refine v_putf (n := 30) dX8_guestAccount_27 rfl fw_X8_41 zokc_10 (fun _ => rfl) rfl rfl ?_
      refine v_aload_n (n := 31) dX8_guestAccount_30 rfl rfl ?_
      refine v_getf (n := 34) dX8_guestAccount_31 rfl fl_X8_41 zokc_10 (congrArg Value.int (up_self _ _ _ _ _ _)) ?_
      refine v_if_le (n := 37) (t := 41) dX8_guestAccount_34 rfl (by decide) (fun hq => ?_) (fun hq => ?_)
      · replace h := h.1 hq
        refine v_aload_n (n := 42) dX8_guestAccount_41 rfl rfl ?_
        refine v_getf (n := 45) dX8_guestAccount_42 rfl fl_X8_9 zokc_10 rfl ?_
        refine v_iload_n (n := 46) dX8_guestAccount_45 rfl rfl ?_
        refine v_callS (n := 49) (As := [.int x1]) (rest := [.ref (zad G.1 26 0 0)]) dX8_guestAccount_46 rfl lk_X8_71 rfl rfl (Nat.le_of_ble_eq_true rfl) ⟨Nat.le_of_ble_eq_true rfl, Nat.le_of_ble_eq_true rfl, Nat.le_of_ble_eq_true rfl, Nat.le_of_ble_eq_true rfl⟩ (s_X8_guest0 G x1 (up μ 10 0 0 6 (nI 0))) (fun v μ9 hp => ?_) (fun _ _ hp => False.elim hp)
        rw [hp.1, hp.2]
        refine v_norm (st' := [.int (nI 212 + nI 10 * x1), .ref (zad G.1 26 0 0)]) (cells' := 0) (slots' := 0) rfl rfl rfl ?_
        refine v_bipush (n := 51) (x := nI 7) dX8_guestAccount_49 rfl (by decide) ?_
        refine v_iadd (n := 52) dX8_guestAccount_51 rfl ?_
        refine v_iload_n (n := 53) dX8_guestAccount_52 rfl rfl ?_
        refine v_iadd (n := 54) dX8_guestAccount_53 rfl ?_
        obtain ⟨j1, ej1, hj1, h⟩ := h
        refine v_iald (n := 55) (j := j1) dX8_guestAccount_54 rfl zokc_26 (by decide) rfl ej1 hj1 (congrArg Value.int (up_k (by decide))) ?_
        exact v_iret dX8_guestAccount_55 rfl (Nat.le_of_ble_eq_true rfl) (Nat.le_of_ble_eq_true rfl) h
      · replace h := h.2 hq
        refine v_iconst (n := 38) (x := nI 0) dX8_guestAccount_37 rfl (by decide) ?_
        refine v_goto (n := 55) dX8_guestAccount_38 (by decide) ?_
        exact v_iret dX8_guestAccount_55 rfl (Nat.le_of_ble_eq_true rfl) (Nat.le_of_ble_eq_true rfl) h
    · replace h := h.2 (bI_f hq)
      refine v_iconst (n := 23) (x := nI 2) dX8_guestAccount_22 rfl (by decide) ?_
      refine v_goto (n := 27) dX8_guestAccount_23 (by decide) ?_
      refine v_putf (n := 30) dX8_guestAccount_27 rfl fw_X8_41 zokc_10 (fun _ => rfl) rfl rfl ?_
      refine v_aload_n (n := 31) dX8_guestAccount_30 rfl rfl ?_
      refine v_getf (n := 34) dX8_guestAccount_31 rfl fl_X8_41 zokc_10 (congrArg Value.int (up_self _ _ _ _ _ _)) ?_
      refine v_if_le (n := 37) (t := 41) dX8_guestAccount_34 rfl (by decide) (fun hq => ?_) (fun hq => ?_)
      · replace h := h.1 hq
        refine v_aload_n (n := 42) dX8_guestAccount_41 rfl rfl ?_
        refine v_getf (n := 45) dX8_guestAccount_42 rfl fl_X8_9 zokc_10 rfl ?_
        refine v_iload_n (n := 46) dX8_guestAccount_45 rfl rfl ?_
        refine v_callS (n := 49) (As := [.int x1]) (rest := [.ref (zad G.1 26 0 0)]) dX8_guestAccount_46 rfl lk_X8_71 rfl rfl (Nat.le_of_ble_eq_true rfl) ⟨Nat.le_of_ble_eq_true rfl, Nat.le_of_ble_eq_true rfl, Nat.le_of_ble_eq_true rfl, Nat.le_of_ble_eq_true rfl⟩ (s_X8_guest0 G x1 (up μ 10 0 0 6 (nI 2))) (fun v μ9 hp => ?_) (fun _ _ hp => False.elim hp)
        rw [hp.1, hp.2]
        refine v_norm (st' := [.int (nI 212 + nI 10 * x1), .ref (zad G.1 26 0 0)]) (cells' := 0) (slots' := 0) rfl rfl rfl ?_
        refine v_bipush (n := 51) (x := nI 7) dX8_guestAccount_49 rfl (by decide) ?_
        refine v_iadd (n := 52) dX8_guestAccount_51 rfl ?_
        refine v_iload_n (n := 53) dX8_guestAccount_52 rfl rfl ?_
        refine v_iadd (n := 54) dX8_guestAccount_53 rfl ?_
        obtain ⟨j2, ej2, hj2, h⟩ := h
        refine v_iald (n := 55) (j := j2) dX8_guestAccount_54 rfl zokc_26 (by decide) rfl ej2 hj2 (congrArg Value.int (up_k (by decide))) ?_
        exact v_iret dX8_guestAccount_55 rfl (Nat.le_of_ble_eq_true rfl) (Nat.le_of_ble_eq_true rfl) h
      · replace h := h.2 hq
        refine v_iconst (n := 38) (x := nI 0) dX8_guestAccount_37 rfl (by decide) ?_
        refine v_goto (n := 55) dX8_guestAccount_38 (by decide) ?_
        exact v_iret dX8_guestAccount_55 rfl (Nat.le_of_ble_eq_true rfl) (Nat.le_of_ble_eq_true rfl) h
  · replace h := h.2 (bI_f hq)
    refine v_iconst (n := 10) (x := nI 1) dX8_guestAccount_9 rfl (by decide) ?_
    refine v_goto (n := 27) dX8_guestAccount_10 (by decide) ?_
    refine v_putf (n := 30) dX8_guestAccount_27 rfl fw_X8_41 zokc_10 (fun _ => rfl) rfl rfl ?_
    refine v_aload_n (n := 31) dX8_guestAccount_30 rfl rfl ?_
    refine v_getf (n := 34) dX8_guestAccount_31 rfl fl_X8_41 zokc_10 (congrArg Value.int (up_self _ _ _ _ _ _)) ?_
    refine v_if_le (n := 37) (t := 41) dX8_guestAccount_34 rfl (by decide) (fun hq => ?_) (fun hq => ?_)
    · replace h := h.1 hq
      refine v_aload_n (n := 42) dX8_guestAccount_41 rfl rfl ?_
      refine v_getf (n := 45) dX8_guestAccount_42 rfl fl_X8_9 zokc_10 rfl ?_
      refine v_iload_n (n := 46) dX8_guestAccount_45 rfl rfl ?_
      refine v_callS (n := 49) (As := [.int x1]) (rest := [.ref (zad G.1 26 0 0)]) dX8_guestAccount_46 rfl lk_X8_71 rfl rfl (Nat.le_of_ble_eq_true rfl) ⟨Nat.le_of_ble_eq_true rfl, Nat.le_of_ble_eq_true rfl, Nat.le_of_ble_eq_true rfl, Nat.le_of_ble_eq_true rfl⟩ (s_X8_guest0 G x1 (up μ 10 0 0 6 (nI 1))) (fun v μ9 hp => ?_) (fun _ _ hp => False.elim hp)
      rw [hp.1, hp.2]
      refine v_norm (st' := [.int (nI 212 + nI 10 * x1), .ref (zad G.1 26 0 0)]) (cells' := 0) (slots' := 0) rfl rfl rfl ?_
      refine v_bipush (n := 51) (x := nI 7) dX8_guestAccount_49 rfl (by decide) ?_
      refine v_iadd (n := 52) dX8_guestAccount_51 rfl ?_
      refine v_iload_n (n := 53) dX8_guestAccount_52 rfl rfl ?_
      refine v_iadd (n := 54) dX8_guestAccount_53 rfl ?_
      obtain ⟨j3, ej3, hj3, h⟩ := h
      refine v_iald (n := 55) (j := j3) dX8_guestAccount_54 rfl zokc_26 (by decide) rfl ej3 hj3 (congrArg Value.int (up_k (by decide))) ?_
      exact v_iret dX8_guestAccount_55 rfl (Nat.le_of_ble_eq_true rfl) (Nat.le_of_ble_eq_true rfl) h
    · replace h := h.2 hq
      refine v_iconst (n := 38) (x := nI 0) dX8_guestAccount_37 rfl (by decide) ?_
      refine v_goto (n := 55) dX8_guestAccount_38 (by decide) ?_
      exact v_iret dX8_guestAccount_55 rfl (Nat.le_of_ble_eq_true rfl) (Nat.le_of_ble_eq_true rfl) h

set_option maxRecDepth 20000 in
set_option maxHeartbeats 4000000 in
theorem wX8_pisteAccount (G : Gl) {P : Option Value → St → Prop} {X : String → St → Prop} (x1 : Int32) (μ : St)
    (h : ((mix (up μ 10 0 0 6 (nI 0)) 4 x1 = false → P (some (.int (nI 0))) (up (up μ 10 0 0 6 (nI 0)) 10 0 0 6 (nI 1))) ∧ (mix (up μ 10 0 0 6 (nI 0)) 4 x1 = true → ∃ j1 : Nat, (nI 132 + nI 8 * x1) + (nI 7) = nI j1 ∧ j1 < 372 ∧ P (some (.int (μ 26 0 0 j1))) (up μ 10 0 0 6 (nI 0))))) :
    Con G mX8_pisteAccount [.ref (zad G.1 10 0 0), .int x1] μ P X := by
  refine con_of pn_X8 rfl (Nat.le_of_ble_eq_true rfl) ?_
  show VL G mX8_pisteAccount P X 0 [(0, .ref (zad G.1 10 0 0)), (1, .int x1)] [] μ
  refine v_aload_n (n := 1) dX8_pisteAccount_0 rfl rfl ?_
  refine v_iconst (n := 2) (x := nI 0) dX8_pisteAccount_1 rfl (by decide) ?_
  refine v_putf (n := 5) dX8_pisteAccount_2 rfl fw_X8_41 zokc_10 (fun _ => rfl) rfl rfl ?_
  refine v_aload_n (n := 6) dX8_pisteAccount_5 rfl rfl ?_
  refine v_iload_n (n := 7) dX8_pisteAccount_6 rfl rfl ?_
  refine v_callV (n := 10) (k := 10) (b := 0) (i := 0) (As := [.int x1]) (rest := []) dX8_pisteAccount_7 rfl lk_X8_81 rfl rfl (Nat.le_of_ble_eq_true rfl) ⟨Nat.le_of_ble_eq_true rfl, Nat.le_of_ble_eq_true rfl, Nat.le_of_ble_eq_true rfl, Nat.le_of_ble_eq_true rfl⟩ zokc_10 (s_X8_isPiste G x1 (up μ 10 0 0 6 (nI 0))) (fun v μ9 hp => ?_) (fun _ _ hp => False.elim hp)
  rw [hp.1, hp.2]
  refine v_norm (st' := [.int (bI (mix (up μ 10 0 0 6 (nI 0)) 4 x1))]) (cells' := 0) (slots' := 0) rfl rfl rfl ?_
  refine v_if_eq (n := 13) (t := 28) dX8_pisteAccount_10 rfl (by decide) (fun hq => ?_) (fun hq => ?_)
  · replace h := h.1 (bI_f hq)
    refine v_aload_n (n := 29) dX8_pisteAccount_28 rfl rfl ?_
    refine v_iconst (n := 30) (x := nI 1) dX8_pisteAccount_29 rfl (by decide) ?_
    refine v_callV (n := 33) (k := 10) (b := 0) (i := 0) (As := [.int (nI 1)]) (rest := []) dX8_pisteAccount_30 rfl lk_X8_62 rfl rfl (Nat.le_of_ble_eq_true rfl) ⟨Nat.le_of_ble_eq_true rfl, Nat.le_of_ble_eq_true rfl, Nat.le_of_ble_eq_true rfl, Nat.le_of_ble_eq_true rfl⟩ zokc_10 (s_X8_refuse G (nI 1) (up μ 10 0 0 6 (nI 0))) (fun v μ9 hp => ?_) (fun _ _ hp => False.elim hp)
    rw [hp.1, hp.2]
    refine v_norm (st' := [.int (nI 0)]) (cells' := 0) (slots' := 0) rfl rfl rfl ?_
    exact v_iret dX8_pisteAccount_33 rfl (Nat.le_of_ble_eq_true rfl) (Nat.le_of_ble_eq_true rfl) h
  · replace h := h.2 (bI_nf hq)
    refine v_aload_n (n := 14) dX8_pisteAccount_13 rfl rfl ?_
    refine v_getf (n := 17) dX8_pisteAccount_14 rfl fl_X8_9 zokc_10 rfl ?_
    refine v_iload_n (n := 18) dX8_pisteAccount_17 rfl rfl ?_
    refine v_callS (n := 21) (As := [.int x1]) (rest := [.ref (zad G.1 26 0 0)]) dX8_pisteAccount_18 rfl lk_X8_68 rfl rfl (Nat.le_of_ble_eq_true rfl) ⟨Nat.le_of_ble_eq_true rfl, Nat.le_of_ble_eq_true rfl, Nat.le_of_ble_eq_true rfl, Nat.le_of_ble_eq_true rfl⟩ (s_X8_piste0 G x1 (up μ 10 0 0 6 (nI 0))) (fun v μ9 hp => ?_) (fun _ _ hp => False.elim hp)
    rw [hp.1, hp.2]
    refine v_norm (st' := [.int (nI 132 + nI 8 * x1), .ref (zad G.1 26 0 0)]) (cells' := 0) (slots' := 0) rfl rfl rfl ?_
    refine v_bipush (n := 23) (x := nI 7) dX8_pisteAccount_21 rfl (by decide) ?_
    refine v_iadd (n := 24) dX8_pisteAccount_23 rfl ?_
    obtain ⟨j1, ej1, hj1, h⟩ := h
    refine v_iald (n := 25) (j := j1) dX8_pisteAccount_24 rfl zokc_26 (by decide) rfl ej1 hj1 (congrArg Value.int (up_k (by decide))) ?_
    refine v_goto (n := 33) dX8_pisteAccount_25 (by decide) ?_
    exact v_iret dX8_pisteAccount_33 rfl (Nat.le_of_ble_eq_true rfl) (Nat.le_of_ble_eq_true rfl) h

set_option maxRecDepth 20000 in
set_option maxHeartbeats 4000000 in
theorem wX8_audit (G : Gl) {P : Option Value → St → Prop} {X : String → St → Prop}  (μ : St)
    (h : VL G mX8_audit P X 11 [(0, .ref (zad G.1 10 0 0)), (1, .int (nI 0)), (2, .int (nI 0)), (3, .int (nI 0))] [] (up μ 10 0 0 6 (nI 0))) :
    Con G mX8_audit [.ref (zad G.1 10 0 0)] μ P X := by
  refine con_of pn_X8 rfl (Nat.le_of_ble_eq_true rfl) ?_
  show VL G mX8_audit P X 0 [(0, .ref (zad G.1 10 0 0))] [] μ
  refine v_aload_n (n := 1) dX8_audit_0 rfl rfl ?_
  refine v_iconst (n := 2) (x := nI 0) dX8_audit_1 rfl (by decide) ?_
  refine v_putf (n := 5) dX8_audit_2 rfl fw_X8_41 zokc_10 (fun _ => rfl) rfl rfl ?_
  refine v_iconst (n := 6) (x := nI 0) dX8_audit_5 rfl (by decide) ?_
  refine v_istore_n (n := 7) (L' := [(0, .ref (zad G.1 10 0 0)), (1, .int (nI 0))]) dX8_audit_6 rfl (by decide) rfl ?_
  refine v_iconst (n := 8) (x := nI 0) dX8_audit_7 rfl (by decide) ?_
  refine v_istore_n (n := 9) (L' := [(0, .ref (zad G.1 10 0 0)), (1, .int (nI 0)), (2, .int (nI 0))]) dX8_audit_8 rfl (by decide) rfl ?_
  refine v_iconst (n := 10) (x := nI 0) dX8_audit_9 rfl (by decide) ?_
  refine v_istore_n (n := 11) (L' := [(0, .ref (zad G.1 10 0 0)), (1, .int (nI 0)), (2, .int (nI 0)), (3, .int (nI 0))]) dX8_audit_10 rfl (by decide) rfl ?_
  exact h

set_option maxRecDepth 20000 in
set_option maxHeartbeats 4000000 in
theorem wX8_audit_11 (G : Gl) {P : Option Value → St → Prop} {X : String → St → Prop} (y1 : Int32) (i3 : Nat) (μ : St)
    (h : ((μ 26 0 0 3 ≤ nI i3 → VL G mX8_audit P X 44 [(0, .ref (zad G.1 10 0 0)), (1, .int y1), (2, .int (nI 0)), (3, .int (nI 0))] [] μ) ∧ (¬ μ 26 0 0 3 ≤ nI i3 → 6 + 21 * i3 + 8 < 372 ∧ VL G mX8_audit P X 11 [(0, .ref (zad G.1 10 0 0)), (1, .int (y1 + (μ 26 0 0 (6 + 21 * i3 + 8)))), (2, .int (nI 0)), (3, .int (nI (i3 + 1)))] [] μ))) :
    VL G mX8_audit P X 11 [(0, .ref (zad G.1 10 0 0)), (1, .int y1), (2, .int (nI 0)), (3, .int (nI i3))] [] μ := by
  refine v_iload_n (n := 12) dX8_audit_11 rfl rfl ?_
  refine v_aload_n (n := 13) dX8_audit_12 rfl rfl ?_
  refine v_getf (n := 16) dX8_audit_13 rfl fl_X8_9 zokc_10 rfl ?_
  refine v_iconst (n := 17) (x := nI 3) dX8_audit_16 rfl (by decide) ?_
  refine v_iald (n := 18) (j := 3) dX8_audit_17 rfl zokc_26 (by decide) rfl rfl (by decide) (rfl) ?_
  refine v_icmp_ge (n := 21) (t := 42) dX8_audit_18 rfl (by decide) (fun hq => ?_) (fun hq => ?_)
  · replace h := h.1 hq
    refine v_iconst (n := 43) (x := nI 0) dX8_audit_42 rfl (by decide) ?_
    refine v_istore_n (n := 44) (L' := [(0, .ref (zad G.1 10 0 0)), (1, .int y1), (2, .int (nI 0)), (3, .int (nI 0))]) dX8_audit_43 rfl (by decide) rfl ?_
    exact h
  · replace h := h.2 hq
    refine v_iload_n (n := 22) dX8_audit_21 rfl rfl ?_
    refine v_aload_n (n := 23) dX8_audit_22 rfl rfl ?_
    refine v_getf (n := 26) dX8_audit_23 rfl fl_X8_9 zokc_10 rfl ?_
    refine v_iload_n (n := 27) dX8_audit_26 rfl rfl ?_
    refine v_callS (n := 30) (As := [.int (nI i3)]) (rest := [.ref (zad G.1 26 0 0), .int y1]) dX8_audit_27 rfl lk_X8_51 rfl rfl (Nat.le_of_ble_eq_true rfl) ⟨Nat.le_of_ble_eq_true rfl, Nat.le_of_ble_eq_true rfl, Nat.le_of_ble_eq_true rfl, Nat.le_of_ble_eq_true rfl⟩ (s_X8_lift0N G i3 μ) (fun v μ9 hp => ?_) (fun _ _ hp => False.elim hp)
    rw [hp.1, hp.2]
    refine v_norm (st' := [.int (nI (6 + 21 * i3)), .ref (zad G.1 26 0 0), .int y1]) (cells' := 0) (slots' := 0) rfl rfl rfl ?_
    refine v_bipush (n := 32) (x := nI 8) dX8_audit_30 rfl (by decide) ?_
    refine v_iadd (n := 33) dX8_audit_32 rfl ?_
    refine v_top (y := nI (6 + 21 * i3 + 8)) (nI_add (6 + 21 * i3) 8) ?_
    obtain ⟨hf1, h⟩ := h
    refine v_iald (n := 34) (j := (6 + 21 * i3 + 8)) dX8_audit_33 rfl zokc_26 (by decide) rfl rfl hf1 (rfl) ?_
    refine v_iadd (n := 35) dX8_audit_34 rfl ?_
    refine v_istore_n (n := 36) (L' := [(0, .ref (zad G.1 10 0 0)), (1, .int (y1 + (μ 26 0 0 (6 + 21 * i3 + 8)))), (2, .int (nI 0)), (3, .int (nI i3))]) dX8_audit_35 rfl (by decide) rfl ?_
    refine v_iinc (n := 39) (x := nI i3) (y := nI (i3 + 1)) (L' := [(0, .ref (zad G.1 10 0 0)), (1, .int (y1 + (μ 26 0 0 (6 + 21 * i3 + 8)))), (2, .int (nI 0)), (3, .int (nI (i3 + 1)))]) dX8_audit_36 rfl rfl (nI_1 i3) (by decide) rfl ?_
    refine v_goto (n := 11) dX8_audit_39 (by decide) ?_
    exact h

set_option maxRecDepth 20000 in
set_option maxHeartbeats 4000000 in
theorem wX8_audit_44 (G : Gl) {P : Option Value → St → Prop} {X : String → St → Prop} (y1 : Int32) (y2 : Int32) (i3 : Nat) (μ : St)
    (h : ((μ 26 0 0 4 ≤ nI i3 → VL G mX8_audit P X 77 [(0, .ref (zad G.1 10 0 0)), (1, .int y1), (2, .int y2), (3, .int (nI 0))] [] μ) ∧ (¬ μ 26 0 0 4 ≤ nI i3 → 132 + 8 * i3 + 7 < 372 ∧ VL G mX8_audit P X 44 [(0, .ref (zad G.1 10 0 0)), (1, .int y1), (2, .int (y2 + (μ 26 0 0 (132 + 8 * i3 + 7)))), (3, .int (nI (i3 + 1)))] [] μ))) :
    VL G mX8_audit P X 44 [(0, .ref (zad G.1 10 0 0)), (1, .int y1), (2, .int y2), (3, .int (nI i3))] [] μ := by
  refine v_iload_n (n := 45) dX8_audit_44 rfl rfl ?_
  refine v_aload_n (n := 46) dX8_audit_45 rfl rfl ?_
  refine v_getf (n := 49) dX8_audit_46 rfl fl_X8_9 zokc_10 rfl ?_
  refine v_iconst (n := 50) (x := nI 4) dX8_audit_49 rfl (by decide) ?_
  refine v_iald (n := 51) (j := 4) dX8_audit_50 rfl zokc_26 (by decide) rfl rfl (by decide) (rfl) ?_
  refine v_icmp_ge (n := 54) (t := 75) dX8_audit_51 rfl (by decide) (fun hq => ?_) (fun hq => ?_)
  · replace h := h.1 hq
    refine v_iconst (n := 76) (x := nI 0) dX8_audit_75 rfl (by decide) ?_
    refine v_istore_n (n := 77) (L' := [(0, .ref (zad G.1 10 0 0)), (1, .int y1), (2, .int y2), (3, .int (nI 0))]) dX8_audit_76 rfl (by decide) rfl ?_
    exact h
  · replace h := h.2 hq
    refine v_iload_n (n := 55) dX8_audit_54 rfl rfl ?_
    refine v_aload_n (n := 56) dX8_audit_55 rfl rfl ?_
    refine v_getf (n := 59) dX8_audit_56 rfl fl_X8_9 zokc_10 rfl ?_
    refine v_iload_n (n := 60) dX8_audit_59 rfl rfl ?_
    refine v_callS (n := 63) (As := [.int (nI i3)]) (rest := [.ref (zad G.1 26 0 0), .int y2]) dX8_audit_60 rfl lk_X8_68 rfl rfl (Nat.le_of_ble_eq_true rfl) ⟨Nat.le_of_ble_eq_true rfl, Nat.le_of_ble_eq_true rfl, Nat.le_of_ble_eq_true rfl, Nat.le_of_ble_eq_true rfl⟩ (s_X8_piste0N G i3 μ) (fun v μ9 hp => ?_) (fun _ _ hp => False.elim hp)
    rw [hp.1, hp.2]
    refine v_norm (st' := [.int (nI (132 + 8 * i3)), .ref (zad G.1 26 0 0), .int y2]) (cells' := 0) (slots' := 0) rfl rfl rfl ?_
    refine v_bipush (n := 65) (x := nI 7) dX8_audit_63 rfl (by decide) ?_
    refine v_iadd (n := 66) dX8_audit_65 rfl ?_
    refine v_top (y := nI (132 + 8 * i3 + 7)) (nI_add (132 + 8 * i3) 7) ?_
    obtain ⟨hf1, h⟩ := h
    refine v_iald (n := 67) (j := (132 + 8 * i3 + 7)) dX8_audit_66 rfl zokc_26 (by decide) rfl rfl hf1 (rfl) ?_
    refine v_iadd (n := 68) dX8_audit_67 rfl ?_
    refine v_istore_n (n := 69) (L' := [(0, .ref (zad G.1 10 0 0)), (1, .int y1), (2, .int (y2 + (μ 26 0 0 (132 + 8 * i3 + 7)))), (3, .int (nI i3))]) dX8_audit_68 rfl (by decide) rfl ?_
    refine v_iinc (n := 72) (x := nI i3) (y := nI (i3 + 1)) (L' := [(0, .ref (zad G.1 10 0 0)), (1, .int y1), (2, .int (y2 + (μ 26 0 0 (132 + 8 * i3 + 7)))), (3, .int (nI (i3 + 1)))]) dX8_audit_69 rfl rfl (nI_1 i3) (by decide) rfl ?_
    refine v_goto (n := 44) dX8_audit_72 (by decide) ?_
    exact h

set_option maxRecDepth 20000 in
set_option maxHeartbeats 4000000 in
theorem wX8_audit_77 (G : Gl) {P : Option Value → St → Prop} {X : String → St → Prop} (y1 : Int32) (y2 : Int32) (i3 : Nat) (μ : St)
    (h : ((μ 26 0 0 5 ≤ nI i3 → P (some (.int ((iab y1) + (iab y2)))) μ) ∧ (¬ μ 26 0 0 5 ≤ nI i3 → 212 + 10 * i3 + 7 < 372 ∧ 212 + 10 * i3 + 8 < 372 ∧ VL G mX8_audit P X 77 [(0, .ref (zad G.1 10 0 0)), (1, .int (y1 - (μ 26 0 0 (212 + 10 * i3 + 7)))), (2, .int (y2 - (μ 26 0 0 (212 + 10 * i3 + 8)))), (3, .int (nI (i3 + 1)))] [] μ))) :
    VL G mX8_audit P X 77 [(0, .ref (zad G.1 10 0 0)), (1, .int y1), (2, .int y2), (3, .int (nI i3))] [] μ := by
  refine v_iload_n (n := 78) dX8_audit_77 rfl rfl ?_
  refine v_aload_n (n := 79) dX8_audit_78 rfl rfl ?_
  refine v_getf (n := 82) dX8_audit_79 rfl fl_X8_9 zokc_10 rfl ?_
  refine v_iconst (n := 83) (x := nI 5) dX8_audit_82 rfl (by decide) ?_
  refine v_iald (n := 84) (j := 5) dX8_audit_83 rfl zokc_26 (by decide) rfl rfl (by decide) (rfl) ?_
  refine v_icmp_ge (n := 87) (t := 123) dX8_audit_84 rfl (by decide) (fun hq => ?_) (fun hq => ?_)
  · replace h := h.1 hq
    refine v_iload_n (n := 124) dX8_audit_123 rfl rfl ?_
    refine v_callS (n := 127) (As := [.int y1]) (rest := []) dX8_audit_124 rfl lk_X8_169 rfl rfl (Nat.le_of_ble_eq_true rfl) ⟨Nat.le_of_ble_eq_true rfl, Nat.le_of_ble_eq_true rfl, Nat.le_of_ble_eq_true rfl, Nat.le_of_ble_eq_true rfl⟩ (s_J9_abs_0f7a4 G y1 μ) (fun v μ9 hp => ?_) (fun _ _ hp => False.elim hp)
    rw [hp.1, hp.2]
    refine v_norm (st' := [.int (iab y1)]) (cells' := 0) (slots' := 0) rfl rfl rfl ?_
    refine v_iload_n (n := 128) dX8_audit_127 rfl rfl ?_
    refine v_callS (n := 131) (As := [.int y2]) (rest := [.int (iab y1)]) dX8_audit_128 rfl lk_X8_169 rfl rfl (Nat.le_of_ble_eq_true rfl) ⟨Nat.le_of_ble_eq_true rfl, Nat.le_of_ble_eq_true rfl, Nat.le_of_ble_eq_true rfl, Nat.le_of_ble_eq_true rfl⟩ (s_J9_abs_0f7a4 G y2 μ) (fun v μ9 hp => ?_) (fun _ _ hp => False.elim hp)
    rw [hp.1, hp.2]
    refine v_norm (st' := [.int (iab y2), .int (iab y1)]) (cells' := 0) (slots' := 0) rfl rfl rfl ?_
    refine v_iadd (n := 132) dX8_audit_131 rfl ?_
    exact v_iret dX8_audit_132 rfl (Nat.le_of_ble_eq_true rfl) (Nat.le_of_ble_eq_true rfl) h
  · replace h := h.2 hq
    refine v_iload_n (n := 88) dX8_audit_87 rfl rfl ?_
    refine v_aload_n (n := 89) dX8_audit_88 rfl rfl ?_
    refine v_getf (n := 92) dX8_audit_89 rfl fl_X8_9 zokc_10 rfl ?_
    refine v_iload_n (n := 93) dX8_audit_92 rfl rfl ?_
    refine v_callS (n := 96) (As := [.int (nI i3)]) (rest := [.ref (zad G.1 26 0 0), .int y1]) dX8_audit_93 rfl lk_X8_71 rfl rfl (Nat.le_of_ble_eq_true rfl) ⟨Nat.le_of_ble_eq_true rfl, Nat.le_of_ble_eq_true rfl, Nat.le_of_ble_eq_true rfl, Nat.le_of_ble_eq_true rfl⟩ (s_X8_guest0N G i3 μ) (fun v μ9 hp => ?_) (fun _ _ hp => False.elim hp)
    rw [hp.1, hp.2]
    refine v_norm (st' := [.int (nI (212 + 10 * i3)), .ref (zad G.1 26 0 0), .int y1]) (cells' := 0) (slots' := 0) rfl rfl rfl ?_
    refine v_bipush (n := 98) (x := nI 7) dX8_audit_96 rfl (by decide) ?_
    refine v_iadd (n := 99) dX8_audit_98 rfl ?_
    refine v_top (y := nI (212 + 10 * i3 + 7)) (nI_add (212 + 10 * i3) 7) ?_
    obtain ⟨hf1, h⟩ := h
    refine v_iald (n := 100) (j := (212 + 10 * i3 + 7)) dX8_audit_99 rfl zokc_26 (by decide) rfl rfl hf1 (rfl) ?_
    refine v_isub (n := 101) dX8_audit_100 rfl ?_
    refine v_istore_n (n := 102) (L' := [(0, .ref (zad G.1 10 0 0)), (1, .int (y1 - (μ 26 0 0 (212 + 10 * i3 + 7)))), (2, .int y2), (3, .int (nI i3))]) dX8_audit_101 rfl (by decide) rfl ?_
    refine v_iload_n (n := 103) dX8_audit_102 rfl rfl ?_
    refine v_aload_n (n := 104) dX8_audit_103 rfl rfl ?_
    refine v_getf (n := 107) dX8_audit_104 rfl fl_X8_9 zokc_10 rfl ?_
    refine v_iload_n (n := 108) dX8_audit_107 rfl rfl ?_
    refine v_callS (n := 111) (As := [.int (nI i3)]) (rest := [.ref (zad G.1 26 0 0), .int y2]) dX8_audit_108 rfl lk_X8_71 rfl rfl (Nat.le_of_ble_eq_true rfl) ⟨Nat.le_of_ble_eq_true rfl, Nat.le_of_ble_eq_true rfl, Nat.le_of_ble_eq_true rfl, Nat.le_of_ble_eq_true rfl⟩ (s_X8_guest0N G i3 μ) (fun v μ9 hp => ?_) (fun _ _ hp => False.elim hp)
    rw [hp.1, hp.2]
    refine v_norm (st' := [.int (nI (212 + 10 * i3)), .ref (zad G.1 26 0 0), .int y2]) (cells' := 0) (slots' := 0) rfl rfl rfl ?_
    refine v_bipush (n := 113) (x := nI 8) dX8_audit_111 rfl (by decide) ?_
    refine v_iadd (n := 114) dX8_audit_113 rfl ?_
    refine v_top (y := nI (212 + 10 * i3 + 8)) (nI_add (212 + 10 * i3) 8) ?_
    obtain ⟨hf2, h⟩ := h
    refine v_iald (n := 115) (j := (212 + 10 * i3 + 8)) dX8_audit_114 rfl zokc_26 (by decide) rfl rfl hf2 (rfl) ?_
    refine v_isub (n := 116) dX8_audit_115 rfl ?_
    refine v_istore_n (n := 117) (L' := [(0, .ref (zad G.1 10 0 0)), (1, .int (y1 - (μ 26 0 0 (212 + 10 * i3 + 7)))), (2, .int (y2 - (μ 26 0 0 (212 + 10 * i3 + 8)))), (3, .int (nI i3))]) dX8_audit_116 rfl (by decide) rfl ?_
    refine v_iinc (n := 120) (x := nI i3) (y := nI (i3 + 1)) (L' := [(0, .ref (zad G.1 10 0 0)), (1, .int (y1 - (μ 26 0 0 (212 + 10 * i3 + 7)))), (2, .int (y2 - (μ 26 0 0 (212 + 10 * i3 + 8)))), (3, .int (nI (i3 + 1)))]) dX8_audit_117 rfl rfl (nI_1 i3) (by decide) rfl ?_
    refine v_goto (n := 77) dX8_audit_120 (by decide) ?_
    exact h

set_option maxRecDepth 20000 in
set_option maxHeartbeats 4000000 in
theorem wX8_busiest (G : Gl) {P : Option Value → St → Prop} {X : String → St → Prop}  (μ : St)
    (h : VL G mX8_busiest P X 6 [(0, .ref (zad G.1 10 0 0)), (1, .int (nI 0)), (2, .int (nI 0)), (3, .int (nI 0))] [] μ) :
    Con G mX8_busiest [.ref (zad G.1 10 0 0)] μ P X := by
  refine con_of pn_X8 rfl (Nat.le_of_ble_eq_true rfl) ?_
  show VL G mX8_busiest P X 0 [(0, .ref (zad G.1 10 0 0))] [] μ
  refine v_iconst (n := 1) (x := nI 0) dX8_busiest_0 rfl (by decide) ?_
  refine v_istore_n (n := 2) (L' := [(0, .ref (zad G.1 10 0 0)), (1, .int (nI 0))]) dX8_busiest_1 rfl (by decide) rfl ?_
  refine v_iconst (n := 3) (x := nI 0) dX8_busiest_2 rfl (by decide) ?_
  refine v_istore_n (n := 4) (L' := [(0, .ref (zad G.1 10 0 0)), (1, .int (nI 0)), (2, .int (nI 0))]) dX8_busiest_3 rfl (by decide) rfl ?_
  refine v_iconst (n := 5) (x := nI 0) dX8_busiest_4 rfl (by decide) ?_
  refine v_istore_n (n := 6) (L' := [(0, .ref (zad G.1 10 0 0)), (1, .int (nI 0)), (2, .int (nI 0)), (3, .int (nI 0))]) dX8_busiest_5 rfl (by decide) rfl ?_
  exact h

set_option maxRecDepth 20000 in
set_option maxHeartbeats 4000000 in
theorem wX8_busiest_6 (G : Gl) {P : Option Value → St → Prop} {X : String → St → Prop} (y1 : Int32) (y2 : Int32) (i3 : Nat) (μ : St)
    (h : ((μ 26 0 0 3 ≤ nI i3 → ((¬ y1 = 0 → P (some (.int y2)) (up μ 10 0 0 6 (nI 0))) ∧ (y1 = 0 → P (some (.int y2)) (up μ 10 0 0 6 (nI 1))))) ∧ (¬ μ 26 0 0 3 ≤ nI i3 → 6 + 21 * i3 + 8 < 372 ∧ ((μ 26 0 0 (6 + 21 * i3 + 8) ≤ y1 → VL G mX8_busiest P X 6 [(0, .ref (zad G.1 10 0 0)), (1, .int y1), (2, .int y2), (3, .int (nI (i3 + 1)))] [] μ) ∧ (¬ μ 26 0 0 (6 + 21 * i3 + 8) ≤ y1 → VL G mX8_busiest P X 6 [(0, .ref (zad G.1 10 0 0)), (1, .int (μ 26 0 0 (6 + 21 * i3 + 8))), (2, .int (nI i3)), (3, .int (nI (i3 + 1)))] [] μ))))) :
    VL G mX8_busiest P X 6 [(0, .ref (zad G.1 10 0 0)), (1, .int y1), (2, .int y2), (3, .int (nI i3))] [] μ := by
  refine v_iload_n (n := 7) dX8_busiest_6 rfl rfl ?_
  refine v_aload_n (n := 8) dX8_busiest_7 rfl rfl ?_
  refine v_getf (n := 11) dX8_busiest_8 rfl fl_X8_9 zokc_10 rfl ?_
  refine v_iconst (n := 12) (x := nI 3) dX8_busiest_11 rfl (by decide) ?_
  refine v_iald (n := 13) (j := 3) dX8_busiest_12 rfl zokc_26 (by decide) rfl rfl (by decide) (rfl) ?_
  refine v_icmp_ge (n := 16) (t := 53) dX8_busiest_13 rfl (by decide) (fun hq => ?_) (fun hq => ?_)
  · replace h := h.1 hq
    refine v_aload_n (n := 54) dX8_busiest_53 rfl rfl ?_
    refine v_iload_n (n := 55) dX8_busiest_54 rfl rfl ?_
    refine v_if_ne (n := 58) (t := 62) dX8_busiest_55 rfl (by decide) (fun hq => ?_) (fun hq => ?_)
    · replace h := h.1 hq
      refine v_iconst (n := 63) (x := nI 0) dX8_busiest_62 rfl (by decide) ?_
      refine v_putf (n := 66) dX8_busiest_63 rfl fw_X8_41 zokc_10 (fun _ => rfl) rfl rfl ?_
      refine v_iload_n (n := 67) dX8_busiest_66 rfl rfl ?_
      exact v_iret dX8_busiest_67 rfl (Nat.le_of_ble_eq_true rfl) (Nat.le_of_ble_eq_true rfl) h
    · replace h := h.2 hq
      refine v_iconst (n := 59) (x := nI 1) dX8_busiest_58 rfl (by decide) ?_
      refine v_goto (n := 63) dX8_busiest_59 (by decide) ?_
      refine v_putf (n := 66) dX8_busiest_63 rfl fw_X8_41 zokc_10 (fun _ => rfl) rfl rfl ?_
      refine v_iload_n (n := 67) dX8_busiest_66 rfl rfl ?_
      exact v_iret dX8_busiest_67 rfl (Nat.le_of_ble_eq_true rfl) (Nat.le_of_ble_eq_true rfl) h
  · replace h := h.2 hq
    refine v_aload_n (n := 17) dX8_busiest_16 rfl rfl ?_
    refine v_getf (n := 20) dX8_busiest_17 rfl fl_X8_9 zokc_10 rfl ?_
    refine v_iload_n (n := 21) dX8_busiest_20 rfl rfl ?_
    refine v_callS (n := 24) (As := [.int (nI i3)]) (rest := [.ref (zad G.1 26 0 0)]) dX8_busiest_21 rfl lk_X8_51 rfl rfl (Nat.le_of_ble_eq_true rfl) ⟨Nat.le_of_ble_eq_true rfl, Nat.le_of_ble_eq_true rfl, Nat.le_of_ble_eq_true rfl, Nat.le_of_ble_eq_true rfl⟩ (s_X8_lift0N G i3 μ) (fun v μ9 hp => ?_) (fun _ _ hp => False.elim hp)
    rw [hp.1, hp.2]
    refine v_norm (st' := [.int (nI (6 + 21 * i3)), .ref (zad G.1 26 0 0)]) (cells' := 0) (slots' := 0) rfl rfl rfl ?_
    refine v_bipush (n := 26) (x := nI 8) dX8_busiest_24 rfl (by decide) ?_
    refine v_iadd (n := 27) dX8_busiest_26 rfl ?_
    refine v_top (y := nI (6 + 21 * i3 + 8)) (nI_add (6 + 21 * i3) 8) ?_
    obtain ⟨hf1, h⟩ := h
    refine v_iald (n := 28) (j := (6 + 21 * i3 + 8)) dX8_busiest_27 rfl zokc_26 (by decide) rfl rfl hf1 (rfl) ?_
    refine v_iload_n (n := 29) dX8_busiest_28 rfl rfl ?_
    refine v_icmp_le (n := 32) (t := 47) dX8_busiest_29 rfl (by decide) (fun hq => ?_) (fun hq => ?_)
    · replace h := h.1 hq
      refine v_iinc (n := 50) (x := nI i3) (y := nI (i3 + 1)) (L' := [(0, .ref (zad G.1 10 0 0)), (1, .int y1), (2, .int y2), (3, .int (nI (i3 + 1)))]) dX8_busiest_47 rfl rfl (nI_1 i3) (by decide) rfl ?_
      refine v_goto (n := 6) dX8_busiest_50 (by decide) ?_
      exact h
    · replace h := h.2 hq
      refine v_aload_n (n := 33) dX8_busiest_32 rfl rfl ?_
      refine v_getf (n := 36) dX8_busiest_33 rfl fl_X8_9 zokc_10 rfl ?_
      refine v_iload_n (n := 37) dX8_busiest_36 rfl rfl ?_
      refine v_callS (n := 40) (As := [.int (nI i3)]) (rest := [.ref (zad G.1 26 0 0)]) dX8_busiest_37 rfl lk_X8_51 rfl rfl (Nat.le_of_ble_eq_true rfl) ⟨Nat.le_of_ble_eq_true rfl, Nat.le_of_ble_eq_true rfl, Nat.le_of_ble_eq_true rfl, Nat.le_of_ble_eq_true rfl⟩ (s_X8_lift0N G i3 μ) (fun v μ9 hp => ?_) (fun _ _ hp => False.elim hp)
      rw [hp.1, hp.2]
      refine v_norm (st' := [.int (nI (6 + 21 * i3)), .ref (zad G.1 26 0 0)]) (cells' := 0) (slots' := 0) rfl rfl rfl ?_
      refine v_bipush (n := 42) (x := nI 8) dX8_busiest_40 rfl (by decide) ?_
      refine v_iadd (n := 43) dX8_busiest_42 rfl ?_
      refine v_top (y := nI (6 + 21 * i3 + 8)) (nI_add (6 + 21 * i3) 8) ?_
      refine v_iald (n := 44) (j := (6 + 21 * i3 + 8)) dX8_busiest_43 rfl zokc_26 (by decide) rfl rfl hf1 (rfl) ?_
      refine v_istore_n (n := 45) (L' := [(0, .ref (zad G.1 10 0 0)), (1, .int (μ 26 0 0 (6 + 21 * i3 + 8))), (2, .int y2), (3, .int (nI i3))]) dX8_busiest_44 rfl (by decide) rfl ?_
      refine v_iload_n (n := 46) dX8_busiest_45 rfl rfl ?_
      refine v_istore_n (n := 47) (L' := [(0, .ref (zad G.1 10 0 0)), (1, .int (μ 26 0 0 (6 + 21 * i3 + 8))), (2, .int (nI i3)), (3, .int (nI i3))]) dX8_busiest_46 rfl (by decide) rfl ?_
      refine v_iinc (n := 50) (x := nI i3) (y := nI (i3 + 1)) (L' := [(0, .ref (zad G.1 10 0 0)), (1, .int (μ 26 0 0 (6 + 21 * i3 + 8))), (2, .int (nI i3)), (3, .int (nI (i3 + 1)))]) dX8_busiest_47 rfl rfl (nI_1 i3) (by decide) rfl ?_
      refine v_goto (n := 6) dX8_busiest_50 (by decide) ?_
      exact h

set_option maxRecDepth 20000 in
set_option maxHeartbeats 4000000 in
theorem wX8_load (G : Gl) {P : Option Value → St → Prop} {X : String → St → Prop} (x1 : Int32) (μ : St)
    (h : ((mix μ 3 x1 = true → ∃ j1 : Nat, (nI 6 + nI 21 * x1) + (nI 9) = nI j1 ∧ j1 < 372 ∧ ((¬ μ 26 0 0 j1 = 0 → ((nI 0 ≤ 0 → ∃ j2 : Nat, (nI 6 + nI 21 * x1) + (nI 8) = nI j2 ∧ j2 < 372 ∧ ∃ j3 : Nat, (nI 6 + nI 21 * x1) + (nI 9) = nI j3 ∧ j3 < 372 ∧ vf_n64 (FP.ddiv (FP.i2d (μ 26 0 0 j2)) (FP.i2d (μ 26 0 0 j3))) ∧ P (some (.double (FP.ddiv (FP.i2d (μ 26 0 0 j2)) (FP.i2d (μ 26 0 0 j3))))) (up μ 10 0 0 6 (nI 0))) ∧ (¬ nI 0 ≤ 0 → P (some (.double FP.dconst0)) (up μ 10 0 0 6 (nI 0))))) ∧ (μ 26 0 0 j1 = 0 → ((nI 2 ≤ 0 → ∃ j4 : Nat, (nI 6 + nI 21 * x1) + (nI 8) = nI j4 ∧ j4 < 372 ∧ ∃ j5 : Nat, (nI 6 + nI 21 * x1) + (nI 9) = nI j5 ∧ j5 < 372 ∧ vf_n64 (FP.ddiv (FP.i2d (μ 26 0 0 j4)) (FP.i2d (μ 26 0 0 j5))) ∧ P (some (.double (FP.ddiv (FP.i2d (μ 26 0 0 j4)) (FP.i2d (μ 26 0 0 j5))))) (up μ 10 0 0 6 (nI 2))) ∧ (¬ nI 2 ≤ 0 → P (some (.double FP.dconst0)) (up μ 10 0 0 6 (nI 2))))))) ∧ (mix μ 3 x1 = false → ((nI 1 ≤ 0 → ∃ j6 : Nat, (nI 6 + nI 21 * x1) + (nI 8) = nI j6 ∧ j6 < 372 ∧ ∃ j7 : Nat, (nI 6 + nI 21 * x1) + (nI 9) = nI j7 ∧ j7 < 372 ∧ vf_n64 (FP.ddiv (FP.i2d (μ 26 0 0 j6)) (FP.i2d (μ 26 0 0 j7))) ∧ P (some (.double (FP.ddiv (FP.i2d (μ 26 0 0 j6)) (FP.i2d (μ 26 0 0 j7))))) (up μ 10 0 0 6 (nI 1))) ∧ (¬ nI 1 ≤ 0 → P (some (.double FP.dconst0)) (up μ 10 0 0 6 (nI 1))))))) :
    Con G mX8_load [.ref (zad G.1 10 0 0), .int x1] μ P X := by
  refine con_of pn_X8 rfl (Nat.le_of_ble_eq_true rfl) ?_
  show VL G mX8_load P X 0 [(0, .ref (zad G.1 10 0 0)), (1, .int x1)] [] μ
  refine v_aload_n (n := 1) dX8_load_0 rfl rfl ?_
  refine v_aload_n (n := 2) dX8_load_1 rfl rfl ?_
  refine v_iload_n (n := 3) dX8_load_2 rfl rfl ?_
  refine v_callV (n := 6) (k := 10) (b := 0) (i := 0) (As := [.int x1]) (rest := [.ref (zad G.1 10 0 0)]) dX8_load_3 rfl lk_X8_74 rfl rfl (Nat.le_of_ble_eq_true rfl) ⟨Nat.le_of_ble_eq_true rfl, Nat.le_of_ble_eq_true rfl, Nat.le_of_ble_eq_true rfl, Nat.le_of_ble_eq_true rfl⟩ zokc_10 (s_X8_isLift G x1 μ) (fun v μ9 hp => ?_) (fun _ _ hp => False.elim hp)
  rw [hp.1, hp.2]
  refine v_norm (st' := [.int (bI (mix μ 3 x1)), .ref (zad G.1 10 0 0)]) (cells' := 0) (slots' := 0) rfl rfl rfl ?_
  refine v_if_ne (n := 9) (t := 13) dX8_load_6 rfl (by decide) (fun hq => ?_) (fun hq => ?_)
  · replace h := h.1 (bI_nf hq)
    refine v_aload_n (n := 14) dX8_load_13 rfl rfl ?_
    refine v_getf (n := 17) dX8_load_14 rfl fl_X8_9 zokc_10 rfl ?_
    refine v_iload_n (n := 18) dX8_load_17 rfl rfl ?_
    refine v_callS (n := 21) (As := [.int x1]) (rest := [.ref (zad G.1 26 0 0), .ref (zad G.1 10 0 0)]) dX8_load_18 rfl lk_X8_51 rfl rfl (Nat.le_of_ble_eq_true rfl) ⟨Nat.le_of_ble_eq_true rfl, Nat.le_of_ble_eq_true rfl, Nat.le_of_ble_eq_true rfl, Nat.le_of_ble_eq_true rfl⟩ (s_X8_lift0 G x1 μ) (fun v μ9 hp => ?_) (fun _ _ hp => False.elim hp)
    rw [hp.1, hp.2]
    refine v_norm (st' := [.int (nI 6 + nI 21 * x1), .ref (zad G.1 26 0 0), .ref (zad G.1 10 0 0)]) (cells' := 0) (slots' := 0) rfl rfl rfl ?_
    refine v_bipush (n := 23) (x := nI 9) dX8_load_21 rfl (by decide) ?_
    refine v_iadd (n := 24) dX8_load_23 rfl ?_
    obtain ⟨j1, ej1, hj1, h⟩ := h
    refine v_iald (n := 25) (j := j1) dX8_load_24 rfl zokc_26 (by decide) rfl ej1 hj1 (rfl) ?_
    refine v_if_ne (n := 28) (t := 32) dX8_load_25 rfl (by decide) (fun hq => ?_) (fun hq => ?_)
    · replace h := h.1 hq
      refine v_iconst (n := 33) (x := nI 0) dX8_load_32 rfl (by decide) ?_
      refine v_putf (n := 36) dX8_load_33 rfl fw_X8_41 zokc_10 (fun _ => rfl) rfl rfl ?_
      refine v_aload_n (n := 37) dX8_load_36 rfl rfl ?_
      refine v_getf (n := 40) dX8_load_37 rfl fl_X8_41 zokc_10 (congrArg Value.int (up_self _ _ _ _ _ _)) ?_
      refine v_if_le (n := 43) (t := 47) dX8_load_40 rfl (by decide) (fun hq => ?_) (fun hq => ?_)
      · replace h := h.1 hq
        refine v_aload_n (n := 48) dX8_load_47 rfl rfl ?_
        refine v_getf (n := 51) dX8_load_48 rfl fl_X8_9 zokc_10 rfl ?_
        refine v_iload_n (n := 52) dX8_load_51 rfl rfl ?_
        refine v_callS (n := 55) (As := [.int x1]) (rest := [.ref (zad G.1 26 0 0)]) dX8_load_52 rfl lk_X8_51 rfl rfl (Nat.le_of_ble_eq_true rfl) ⟨Nat.le_of_ble_eq_true rfl, Nat.le_of_ble_eq_true rfl, Nat.le_of_ble_eq_true rfl, Nat.le_of_ble_eq_true rfl⟩ (s_X8_lift0 G x1 (up μ 10 0 0 6 (nI 0))) (fun v μ9 hp => ?_) (fun _ _ hp => False.elim hp)
        rw [hp.1, hp.2]
        refine v_norm (st' := [.int (nI 6 + nI 21 * x1), .ref (zad G.1 26 0 0)]) (cells' := 0) (slots' := 0) rfl rfl rfl ?_
        refine v_bipush (n := 57) (x := nI 8) dX8_load_55 rfl (by decide) ?_
        refine v_iadd (n := 58) dX8_load_57 rfl ?_
        obtain ⟨j2, ej2, hj2, h⟩ := h
        refine v_iald (n := 59) (j := j2) dX8_load_58 rfl zokc_26 (by decide) rfl ej2 hj2 (congrArg Value.int (up_k (by decide))) ?_
        refine v_i2d (n := 60) dX8_load_59 rfl ?_
        refine v_aload_n (n := 61) dX8_load_60 rfl rfl ?_
        refine v_getf (n := 64) dX8_load_61 rfl fl_X8_9 zokc_10 rfl ?_
        refine v_iload_n (n := 65) dX8_load_64 rfl rfl ?_
        refine v_callS (n := 68) (As := [.int x1]) (rest := [.ref (zad G.1 26 0 0), .double (FP.i2d (μ 26 0 0 j2))]) dX8_load_65 rfl lk_X8_51 rfl rfl (Nat.le_of_ble_eq_true rfl) ⟨Nat.le_of_ble_eq_true rfl, Nat.le_of_ble_eq_true rfl, Nat.le_of_ble_eq_true rfl, Nat.le_of_ble_eq_true rfl⟩ (s_X8_lift0 G x1 (up μ 10 0 0 6 (nI 0))) (fun v μ9 hp => ?_) (fun _ _ hp => False.elim hp)
        rw [hp.1, hp.2]
        refine v_norm (st' := [.int (nI 6 + nI 21 * x1), .ref (zad G.1 26 0 0), .double (FP.i2d (μ 26 0 0 j2))]) (cells' := 0) (slots' := 0) rfl rfl rfl ?_
        refine v_bipush (n := 70) (x := nI 9) dX8_load_68 rfl (by decide) ?_
        refine v_iadd (n := 71) dX8_load_70 rfl ?_
        obtain ⟨j3, ej3, hj3, h⟩ := h
        refine v_iald (n := 72) (j := j3) dX8_load_71 rfl zokc_26 (by decide) rfl ej3 hj3 (congrArg Value.int (up_k (by decide))) ?_
        refine v_i2d (n := 73) dX8_load_72 rfl ?_
        obtain ⟨hf1, h⟩ := h
        refine v_ddiv (n := 74) dX8_load_73 rfl hf1 ?_
        exact v_dret dX8_load_74 rfl (Nat.le_of_ble_eq_true rfl) (Nat.le_of_ble_eq_true rfl) h
      · replace h := h.2 hq
        refine v_dconst0 (n := 44) dX8_load_43 rfl ?_
        refine v_goto (n := 74) dX8_load_44 (by decide) ?_
        exact v_dret dX8_load_74 rfl (Nat.le_of_ble_eq_true rfl) (Nat.le_of_ble_eq_true rfl) h
    · replace h := h.2 hq
      refine v_iconst (n := 29) (x := nI 2) dX8_load_28 rfl (by decide) ?_
      refine v_goto (n := 33) dX8_load_29 (by decide) ?_
      refine v_putf (n := 36) dX8_load_33 rfl fw_X8_41 zokc_10 (fun _ => rfl) rfl rfl ?_
      refine v_aload_n (n := 37) dX8_load_36 rfl rfl ?_
      refine v_getf (n := 40) dX8_load_37 rfl fl_X8_41 zokc_10 (congrArg Value.int (up_self _ _ _ _ _ _)) ?_
      refine v_if_le (n := 43) (t := 47) dX8_load_40 rfl (by decide) (fun hq => ?_) (fun hq => ?_)
      · replace h := h.1 hq
        refine v_aload_n (n := 48) dX8_load_47 rfl rfl ?_
        refine v_getf (n := 51) dX8_load_48 rfl fl_X8_9 zokc_10 rfl ?_
        refine v_iload_n (n := 52) dX8_load_51 rfl rfl ?_
        refine v_callS (n := 55) (As := [.int x1]) (rest := [.ref (zad G.1 26 0 0)]) dX8_load_52 rfl lk_X8_51 rfl rfl (Nat.le_of_ble_eq_true rfl) ⟨Nat.le_of_ble_eq_true rfl, Nat.le_of_ble_eq_true rfl, Nat.le_of_ble_eq_true rfl, Nat.le_of_ble_eq_true rfl⟩ (s_X8_lift0 G x1 (up μ 10 0 0 6 (nI 2))) (fun v μ9 hp => ?_) (fun _ _ hp => False.elim hp)
        rw [hp.1, hp.2]
        refine v_norm (st' := [.int (nI 6 + nI 21 * x1), .ref (zad G.1 26 0 0)]) (cells' := 0) (slots' := 0) rfl rfl rfl ?_
        refine v_bipush (n := 57) (x := nI 8) dX8_load_55 rfl (by decide) ?_
        refine v_iadd (n := 58) dX8_load_57 rfl ?_
        obtain ⟨j4, ej4, hj4, h⟩ := h
        refine v_iald (n := 59) (j := j4) dX8_load_58 rfl zokc_26 (by decide) rfl ej4 hj4 (congrArg Value.int (up_k (by decide))) ?_
        refine v_i2d (n := 60) dX8_load_59 rfl ?_
        refine v_aload_n (n := 61) dX8_load_60 rfl rfl ?_
        refine v_getf (n := 64) dX8_load_61 rfl fl_X8_9 zokc_10 rfl ?_
        refine v_iload_n (n := 65) dX8_load_64 rfl rfl ?_
        refine v_callS (n := 68) (As := [.int x1]) (rest := [.ref (zad G.1 26 0 0), .double (FP.i2d (μ 26 0 0 j4))]) dX8_load_65 rfl lk_X8_51 rfl rfl (Nat.le_of_ble_eq_true rfl) ⟨Nat.le_of_ble_eq_true rfl, Nat.le_of_ble_eq_true rfl, Nat.le_of_ble_eq_true rfl, Nat.le_of_ble_eq_true rfl⟩ (s_X8_lift0 G x1 (up μ 10 0 0 6 (nI 2))) (fun v μ9 hp => ?_) (fun _ _ hp => False.elim hp)
        rw [hp.1, hp.2]
        refine v_norm (st' := [.int (nI 6 + nI 21 * x1), .ref (zad G.1 26 0 0), .double (FP.i2d (μ 26 0 0 j4))]) (cells' := 0) (slots' := 0) rfl rfl rfl ?_
        refine v_bipush (n := 70) (x := nI 9) dX8_load_68 rfl (by decide) ?_
        refine v_iadd (n := 71) dX8_load_70 rfl ?_
        obtain ⟨j5, ej5, hj5, h⟩ := h
        refine v_iald (n := 72) (j := j5) dX8_load_71 rfl zokc_26 (by decide) rfl ej5 hj5 (congrArg Value.int (up_k (by decide))) ?_
        refine v_i2d (n := 73) dX8_load_72 rfl ?_
        obtain ⟨hf2, h⟩ := h
        refine v_ddiv (n := 74) dX8_load_73 rfl hf2 ?_
        exact v_dret dX8_load_74 rfl (Nat.le_of_ble_eq_true rfl) (Nat.le_of_ble_eq_true rfl) h
      · replace h := h.2 hq
        refine v_dconst0 (n := 44) dX8_load_43 rfl ?_
        refine v_goto (n := 74) dX8_load_44 (by decide) ?_
        exact v_dret dX8_load_74 rfl (Nat.le_of_ble_eq_true rfl) (Nat.le_of_ble_eq_true rfl) h
  · replace h := h.2 (bI_f hq)
    refine v_iconst (n := 10) (x := nI 1) dX8_load_9 rfl (by decide) ?_
    refine v_goto (n := 33) dX8_load_10 (by decide) ?_
    refine v_putf (n := 36) dX8_load_33 rfl fw_X8_41 zokc_10 (fun _ => rfl) rfl rfl ?_
    refine v_aload_n (n := 37) dX8_load_36 rfl rfl ?_
    refine v_getf (n := 40) dX8_load_37 rfl fl_X8_41 zokc_10 (congrArg Value.int (up_self _ _ _ _ _ _)) ?_
    refine v_if_le (n := 43) (t := 47) dX8_load_40 rfl (by decide) (fun hq => ?_) (fun hq => ?_)
    · replace h := h.1 hq
      refine v_aload_n (n := 48) dX8_load_47 rfl rfl ?_
      refine v_getf (n := 51) dX8_load_48 rfl fl_X8_9 zokc_10 rfl ?_
      refine v_iload_n (n := 52) dX8_load_51 rfl rfl ?_
      refine v_callS (n := 55) (As := [.int x1]) (rest := [.ref (zad G.1 26 0 0)]) dX8_load_52 rfl lk_X8_51 rfl rfl (Nat.le_of_ble_eq_true rfl) ⟨Nat.le_of_ble_eq_true rfl, Nat.le_of_ble_eq_true rfl, Nat.le_of_ble_eq_true rfl, Nat.le_of_ble_eq_true rfl⟩ (s_X8_lift0 G x1 (up μ 10 0 0 6 (nI 1))) (fun v μ9 hp => ?_) (fun _ _ hp => False.elim hp)
      rw [hp.1, hp.2]
      refine v_norm (st' := [.int (nI 6 + nI 21 * x1), .ref (zad G.1 26 0 0)]) (cells' := 0) (slots' := 0) rfl rfl rfl ?_
      refine v_bipush (n := 57) (x := nI 8) dX8_load_55 rfl (by decide) ?_
      refine v_iadd (n := 58) dX8_load_57 rfl ?_
      obtain ⟨j6, ej6, hj6, h⟩ := h
      refine v_iald (n := 59) (j := j6) dX8_load_58 rfl zokc_26 (by decide) rfl ej6 hj6 (congrArg Value.int (up_k (by decide))) ?_
      refine v_i2d (n := 60) dX8_load_59 rfl ?_
      refine v_aload_n (n := 61) dX8_load_60 rfl rfl ?_
      refine v_getf (n := 64) dX8_load_61 rfl fl_X8_9 zokc_10 rfl ?_
      refine v_iload_n (n := 65) dX8_load_64 rfl rfl ?_
      refine v_callS (n := 68) (As := [.int x1]) (rest := [.ref (zad G.1 26 0 0), .double (FP.i2d (μ 26 0 0 j6))]) dX8_load_65 rfl lk_X8_51 rfl rfl (Nat.le_of_ble_eq_true rfl) ⟨Nat.le_of_ble_eq_true rfl, Nat.le_of_ble_eq_true rfl, Nat.le_of_ble_eq_true rfl, Nat.le_of_ble_eq_true rfl⟩ (s_X8_lift0 G x1 (up μ 10 0 0 6 (nI 1))) (fun v μ9 hp => ?_) (fun _ _ hp => False.elim hp)
      rw [hp.1, hp.2]
      refine v_norm (st' := [.int (nI 6 + nI 21 * x1), .ref (zad G.1 26 0 0), .double (FP.i2d (μ 26 0 0 j6))]) (cells' := 0) (slots' := 0) rfl rfl rfl ?_
      refine v_bipush (n := 70) (x := nI 9) dX8_load_68 rfl (by decide) ?_
      refine v_iadd (n := 71) dX8_load_70 rfl ?_
      obtain ⟨j7, ej7, hj7, h⟩ := h
      refine v_iald (n := 72) (j := j7) dX8_load_71 rfl zokc_26 (by decide) rfl ej7 hj7 (congrArg Value.int (up_k (by decide))) ?_
      refine v_i2d (n := 73) dX8_load_72 rfl ?_
      obtain ⟨hf3, h⟩ := h
      refine v_ddiv (n := 74) dX8_load_73 rfl hf3 ?_
      exact v_dret dX8_load_74 rfl (Nat.le_of_ble_eq_true rfl) (Nat.le_of_ble_eq_true rfl) h
    · replace h := h.2 hq
      refine v_dconst0 (n := 44) dX8_load_43 rfl ?_
      refine v_goto (n := 74) dX8_load_44 (by decide) ?_
      exact v_dret dX8_load_74 rfl (Nat.le_of_ble_eq_true rfl) (Nat.le_of_ble_eq_true rfl) h

set_option maxRecDepth 20000 in
set_option maxHeartbeats 4000000 in
theorem wX8_append (G : Gl) {P : Option Value → St → Prop} {X : String → St → Prop} (x1 : Int32) (μ : St)
    (h : ((btw x1 (nI 32) (nI 126) = true → ((¬ μ 10 0 0 10 = nI 60 → ((nI 0 ≤ 0 → ∃ j1 : Nat, μ 10 0 0 10 = nI j1 ∧ j1 < 60 ∧ P (some (.int ((μ 10 0 0 10) + (nI 1)))) (up (up (up μ 10 0 0 6 (nI 0)) 31 0 0 j1 x1) 10 0 0 10 ((μ 10 0 0 10) + (nI 1)))) ∧ (¬ nI 0 ≤ 0 → P (some (.int (nI 0))) (up μ 10 0 0 6 (nI 0))))) ∧ (μ 10 0 0 10 = nI 60 → ((nI 2 ≤ 0 → ∃ j2 : Nat, μ 10 0 0 10 = nI j2 ∧ j2 < 60 ∧ P (some (.int ((μ 10 0 0 10) + (nI 1)))) (up (up (up μ 10 0 0 6 (nI 2)) 31 0 0 j2 x1) 10 0 0 10 ((μ 10 0 0 10) + (nI 1)))) ∧ (¬ nI 2 ≤ 0 → P (some (.int (nI 0))) (up μ 10 0 0 6 (nI 2))))))) ∧ (btw x1 (nI 32) (nI 126) = false → ((nI 1 ≤ 0 → ∃ j3 : Nat, μ 10 0 0 10 = nI j3 ∧ j3 < 60 ∧ P (some (.int ((μ 10 0 0 10) + (nI 1)))) (up (up (up μ 10 0 0 6 (nI 1)) 31 0 0 j3 x1) 10 0 0 10 ((μ 10 0 0 10) + (nI 1)))) ∧ (¬ nI 1 ≤ 0 → P (some (.int (nI 0))) (up μ 10 0 0 6 (nI 1))))))) :
    Con G mX8_append [.ref (zad G.1 10 0 0), .int x1] μ P X := by
  refine con_of pn_X8 rfl (Nat.le_of_ble_eq_true rfl) ?_
  show VL G mX8_append P X 0 [(0, .ref (zad G.1 10 0 0)), (1, .int x1)] [] μ
  refine v_aload_n (n := 1) dX8_append_0 rfl rfl ?_
  refine v_iload_n (n := 2) dX8_append_1 rfl rfl ?_
  refine v_bipush (n := 4) (x := nI 32) dX8_append_2 rfl (by decide) ?_
  refine v_bipush (n := 6) (x := nI 126) dX8_append_4 rfl (by decide) ?_
  refine v_callS (n := 9) (As := [.int x1, .int (nI 32), .int (nI 126)]) (rest := [.ref (zad G.1 10 0 0)]) dX8_append_6 rfl lk_X8_47 rfl rfl (Nat.le_of_ble_eq_true rfl) ⟨Nat.le_of_ble_eq_true rfl, Nat.le_of_ble_eq_true rfl, Nat.le_of_ble_eq_true rfl, Nat.le_of_ble_eq_true rfl⟩ (s_X8_in G x1 (nI 32) (nI 126) μ) (fun v μ9 hp => ?_) (fun _ _ hp => False.elim hp)
  rw [hp.1, hp.2]
  refine v_norm (st' := [.int (bI (btw x1 (nI 32) (nI 126))), .ref (zad G.1 10 0 0)]) (cells' := 0) (slots' := 0) rfl rfl rfl ?_
  refine v_if_ne (n := 12) (t := 16) dX8_append_9 rfl (by decide) (fun hq => ?_) (fun hq => ?_)
  · replace h := h.1 (bI_nf hq)
    refine v_aload_n (n := 17) dX8_append_16 rfl rfl ?_
    refine v_getf (n := 20) dX8_append_17 rfl fl_X8_172 zokc_10 (rfl) ?_
    refine v_bipush (n := 22) (x := nI 60) dX8_append_20 rfl (by decide) ?_
    refine v_icmp_ne (n := 25) (t := 29) dX8_append_22 rfl (by decide) (fun hq => ?_) (fun hq => ?_)
    · replace h := h.1 hq
      refine v_iconst (n := 30) (x := nI 0) dX8_append_29 rfl (by decide) ?_
      refine v_putf (n := 33) dX8_append_30 rfl fw_X8_41 zokc_10 (fun _ => rfl) rfl rfl ?_
      refine v_aload_n (n := 34) dX8_append_33 rfl rfl ?_
      refine v_getf (n := 37) dX8_append_34 rfl fl_X8_41 zokc_10 (congrArg Value.int (up_self _ _ _ _ _ _)) ?_
      refine v_if_le (n := 40) (t := 42) dX8_append_37 rfl (by decide) (fun hq => ?_) (fun hq => ?_)
      · replace h := h.1 hq
        refine v_aload_n (n := 43) dX8_append_42 rfl rfl ?_
        refine v_getf (n := 46) dX8_append_43 rfl fl_X8_25 zokc_10 rfl ?_
        refine v_aload_n (n := 47) dX8_append_46 rfl rfl ?_
        refine v_getf (n := 50) dX8_append_47 rfl fl_X8_172 zokc_10 (congrArg Value.int (up_sl (by decide))) ?_
        refine v_iload_n (n := 51) dX8_append_50 rfl rfl ?_
        obtain ⟨j1, ej1, hj1, h⟩ := h
        refine v_iast (n := 52) (j := j1) dX8_append_51 rfl zokc_31 (by decide) (by decide) rfl ej1 hj1 (fun _ => rfl) ?_
        refine v_aload_n (n := 53) dX8_append_52 rfl rfl ?_
        refine v_dup (n := 54) dX8_append_53 rfl rfl ?_
        refine v_getf (n := 57) dX8_append_54 rfl fl_X8_172 zokc_10 (congrArg Value.int ((up_k (by decide)).trans (up_sl (by decide)))) ?_
        refine v_iconst (n := 58) (x := nI 1) dX8_append_57 rfl (by decide) ?_
        refine v_iadd (n := 59) dX8_append_58 rfl ?_
        refine v_putf (n := 62) dX8_append_59 rfl fw_X8_172 zokc_10 (fun _ => rfl) rfl rfl ?_
        refine v_aload_n (n := 63) dX8_append_62 rfl rfl ?_
        refine v_getf (n := 66) dX8_append_63 rfl fl_X8_172 zokc_10 (congrArg Value.int (up_self _ _ _ _ _ _)) ?_
        exact v_iret dX8_append_66 rfl (Nat.le_of_ble_eq_true rfl) (Nat.le_of_ble_eq_true rfl) h
      · replace h := h.2 hq
        refine v_iconst (n := 41) (x := nI 0) dX8_append_40 rfl (by decide) ?_
        exact v_iret dX8_append_41 rfl (Nat.le_of_ble_eq_true rfl) (Nat.le_of_ble_eq_true rfl) h
    · replace h := h.2 hq
      refine v_iconst (n := 26) (x := nI 2) dX8_append_25 rfl (by decide) ?_
      refine v_goto (n := 30) dX8_append_26 (by decide) ?_
      refine v_putf (n := 33) dX8_append_30 rfl fw_X8_41 zokc_10 (fun _ => rfl) rfl rfl ?_
      refine v_aload_n (n := 34) dX8_append_33 rfl rfl ?_
      refine v_getf (n := 37) dX8_append_34 rfl fl_X8_41 zokc_10 (congrArg Value.int (up_self _ _ _ _ _ _)) ?_
      refine v_if_le (n := 40) (t := 42) dX8_append_37 rfl (by decide) (fun hq => ?_) (fun hq => ?_)
      · replace h := h.1 hq
        refine v_aload_n (n := 43) dX8_append_42 rfl rfl ?_
        refine v_getf (n := 46) dX8_append_43 rfl fl_X8_25 zokc_10 rfl ?_
        refine v_aload_n (n := 47) dX8_append_46 rfl rfl ?_
        refine v_getf (n := 50) dX8_append_47 rfl fl_X8_172 zokc_10 (congrArg Value.int (up_sl (by decide))) ?_
        refine v_iload_n (n := 51) dX8_append_50 rfl rfl ?_
        obtain ⟨j2, ej2, hj2, h⟩ := h
        refine v_iast (n := 52) (j := j2) dX8_append_51 rfl zokc_31 (by decide) (by decide) rfl ej2 hj2 (fun _ => rfl) ?_
        refine v_aload_n (n := 53) dX8_append_52 rfl rfl ?_
        refine v_dup (n := 54) dX8_append_53 rfl rfl ?_
        refine v_getf (n := 57) dX8_append_54 rfl fl_X8_172 zokc_10 (congrArg Value.int ((up_k (by decide)).trans (up_sl (by decide)))) ?_
        refine v_iconst (n := 58) (x := nI 1) dX8_append_57 rfl (by decide) ?_
        refine v_iadd (n := 59) dX8_append_58 rfl ?_
        refine v_putf (n := 62) dX8_append_59 rfl fw_X8_172 zokc_10 (fun _ => rfl) rfl rfl ?_
        refine v_aload_n (n := 63) dX8_append_62 rfl rfl ?_
        refine v_getf (n := 66) dX8_append_63 rfl fl_X8_172 zokc_10 (congrArg Value.int (up_self _ _ _ _ _ _)) ?_
        exact v_iret dX8_append_66 rfl (Nat.le_of_ble_eq_true rfl) (Nat.le_of_ble_eq_true rfl) h
      · replace h := h.2 hq
        refine v_iconst (n := 41) (x := nI 0) dX8_append_40 rfl (by decide) ?_
        exact v_iret dX8_append_41 rfl (Nat.le_of_ble_eq_true rfl) (Nat.le_of_ble_eq_true rfl) h
  · replace h := h.2 (bI_f hq)
    refine v_iconst (n := 13) (x := nI 1) dX8_append_12 rfl (by decide) ?_
    refine v_goto (n := 30) dX8_append_13 (by decide) ?_
    refine v_putf (n := 33) dX8_append_30 rfl fw_X8_41 zokc_10 (fun _ => rfl) rfl rfl ?_
    refine v_aload_n (n := 34) dX8_append_33 rfl rfl ?_
    refine v_getf (n := 37) dX8_append_34 rfl fl_X8_41 zokc_10 (congrArg Value.int (up_self _ _ _ _ _ _)) ?_
    refine v_if_le (n := 40) (t := 42) dX8_append_37 rfl (by decide) (fun hq => ?_) (fun hq => ?_)
    · replace h := h.1 hq
      refine v_aload_n (n := 43) dX8_append_42 rfl rfl ?_
      refine v_getf (n := 46) dX8_append_43 rfl fl_X8_25 zokc_10 rfl ?_
      refine v_aload_n (n := 47) dX8_append_46 rfl rfl ?_
      refine v_getf (n := 50) dX8_append_47 rfl fl_X8_172 zokc_10 (congrArg Value.int (up_sl (by decide))) ?_
      refine v_iload_n (n := 51) dX8_append_50 rfl rfl ?_
      obtain ⟨j3, ej3, hj3, h⟩ := h
      refine v_iast (n := 52) (j := j3) dX8_append_51 rfl zokc_31 (by decide) (by decide) rfl ej3 hj3 (fun _ => rfl) ?_
      refine v_aload_n (n := 53) dX8_append_52 rfl rfl ?_
      refine v_dup (n := 54) dX8_append_53 rfl rfl ?_
      refine v_getf (n := 57) dX8_append_54 rfl fl_X8_172 zokc_10 (congrArg Value.int ((up_k (by decide)).trans (up_sl (by decide)))) ?_
      refine v_iconst (n := 58) (x := nI 1) dX8_append_57 rfl (by decide) ?_
      refine v_iadd (n := 59) dX8_append_58 rfl ?_
      refine v_putf (n := 62) dX8_append_59 rfl fw_X8_172 zokc_10 (fun _ => rfl) rfl rfl ?_
      refine v_aload_n (n := 63) dX8_append_62 rfl rfl ?_
      refine v_getf (n := 66) dX8_append_63 rfl fl_X8_172 zokc_10 (congrArg Value.int (up_self _ _ _ _ _ _)) ?_
      exact v_iret dX8_append_66 rfl (Nat.le_of_ble_eq_true rfl) (Nat.le_of_ble_eq_true rfl) h
    · replace h := h.2 hq
      refine v_iconst (n := 41) (x := nI 0) dX8_append_40 rfl (by decide) ?_
      exact v_iret dX8_append_41 rfl (Nat.le_of_ble_eq_true rfl) (Nat.le_of_ble_eq_true rfl) h

set_option maxRecDepth 20000 in
set_option maxHeartbeats 4000000 in
theorem wX8_here (G : Gl) {P : Option Value → St → Prop} {X : String → St → Prop}  (μ : St)
    (h : ((μ 10 0 0 10 ≤ μ 10 0 0 12 → P (some (.int (-1 : Int32))) μ) ∧ (¬ μ 10 0 0 10 ≤ μ 10 0 0 12 → ∃ j1 : Nat, μ 10 0 0 12 = nI j1 ∧ j1 < 60 ∧ P (some (.int (μ 31 0 0 j1))) μ))) :
    Con G mX8_here [.ref (zad G.1 10 0 0)] μ P X := by
  refine con_of pn_X8 rfl (Nat.le_of_ble_eq_true rfl) ?_
  show VL G mX8_here P X 0 [(0, .ref (zad G.1 10 0 0))] [] μ
  refine v_aload_n (n := 1) dX8_here_0 rfl rfl ?_
  refine v_getf (n := 4) dX8_here_1 rfl fl_X8_175 zokc_10 (rfl) ?_
  refine v_aload_n (n := 5) dX8_here_4 rfl rfl ?_
  refine v_getf (n := 8) dX8_here_5 rfl fl_X8_172 zokc_10 (rfl) ?_
  refine v_icmp_ge (n := 11) (t := 23) dX8_here_8 rfl (by decide) (fun hq => ?_) (fun hq => ?_)
  · replace h := h.1 hq
    refine v_iconst (n := 24) (x := (-1 : Int32)) dX8_here_23 rfl (by decide) ?_
    exact v_iret dX8_here_24 rfl (Nat.le_of_ble_eq_true rfl) (Nat.le_of_ble_eq_true rfl) h
  · replace h := h.2 hq
    refine v_aload_n (n := 12) dX8_here_11 rfl rfl ?_
    refine v_getf (n := 15) dX8_here_12 rfl fl_X8_25 zokc_10 rfl ?_
    refine v_aload_n (n := 16) dX8_here_15 rfl rfl ?_
    refine v_getf (n := 19) dX8_here_16 rfl fl_X8_175 zokc_10 (rfl) ?_
    obtain ⟨j1, ej1, hj1, h⟩ := h
    refine v_iald (n := 20) (j := j1) dX8_here_19 rfl zokc_31 (by decide) rfl ej1 hj1 (rfl) ?_
    refine v_goto (n := 24) dX8_here_20 (by decide) ?_
    exact v_iret dX8_here_24 rfl (Nat.le_of_ble_eq_true rfl) (Nat.le_of_ble_eq_true rfl) h

set_option maxRecDepth 20000 in
set_option maxHeartbeats 4000000 in
theorem wX8_digit (G : Gl) {P : Option Value → St → Prop} {X : String → St → Prop} (x1 : Int32) (x2 : Int32) (μ : St)
    (h : ((¬ μ 10 0 0 13 = 0 → ((nI 1 = 0 → ((nI 1 = 0 → ∃ j1 : Nat, ((μ 10 0 0 12) + (nI 1)) - (nI 1) = nI j1 ∧ j1 < 60 ∧ P (some (.int ((μ 31 0 0 j1) - (nI 48)))) (up (up μ 10 0 0 13 (nI 1)) 10 0 0 12 ((μ 10 0 0 12) + (nI 1)))) ∧ (¬ nI 1 = 0 → P (some (.int (nI 0))) (up (up μ 10 0 0 13 (nI 1)) 10 0 0 12 ((μ 10 0 0 12) + (nI 1)))))) ∧ (¬ nI 1 = 0 → ((nI 1 = 0 → ∃ j2 : Nat, ((μ 10 0 0 12) + (nI 0)) - (nI 1) = nI j2 ∧ j2 < 60 ∧ P (some (.int ((μ 31 0 0 j2) - (nI 48)))) (up (up μ 10 0 0 13 (nI 1)) 10 0 0 12 ((μ 10 0 0 12) + (nI 0)))) ∧ (¬ nI 1 = 0 → P (some (.int (nI 0))) (up (up μ 10 0 0 13 (nI 1)) 10 0 0 12 ((μ 10 0 0 12) + (nI 0)))))))) ∧ (μ 10 0 0 13 = 0 → Con G mX8_here [.ref (zad G.1 10 0 0)] μ (fun v μ1 => ∃ r1 : Int32, v = some (.int r1) ∧ ((btw r1 ((nI 48) + x1) ((nI 48) + x2) = true → ((nI 0 = 0 → ((nI 0 = 0 → ∃ j3 : Nat, ((μ1 10 0 0 12) + (nI 1)) - (nI 1) = nI j3 ∧ j3 < 60 ∧ P (some (.int ((μ1 31 0 0 j3) - (nI 48)))) (up (up μ1 10 0 0 13 (nI 0)) 10 0 0 12 ((μ1 10 0 0 12) + (nI 1)))) ∧ (¬ nI 0 = 0 → P (some (.int (nI 0))) (up (up μ1 10 0 0 13 (nI 0)) 10 0 0 12 ((μ1 10 0 0 12) + (nI 1)))))) ∧ (¬ nI 0 = 0 → ((nI 0 = 0 → ∃ j4 : Nat, ((μ1 10 0 0 12) + (nI 0)) - (nI 1) = nI j4 ∧ j4 < 60 ∧ P (some (.int ((μ1 31 0 0 j4) - (nI 48)))) (up (up μ1 10 0 0 13 (nI 0)) 10 0 0 12 ((μ1 10 0 0 12) + (nI 0)))) ∧ (¬ nI 0 = 0 → P (some (.int (nI 0))) (up (up μ1 10 0 0 13 (nI 0)) 10 0 0 12 ((μ1 10 0 0 12) + (nI 0)))))))) ∧ (btw r1 ((nI 48) + x1) ((nI 48) + x2) = false → ((nI 1 = 0 → ((nI 1 = 0 → ∃ j5 : Nat, ((μ1 10 0 0 12) + (nI 1)) - (nI 1) = nI j5 ∧ j5 < 60 ∧ P (some (.int ((μ1 31 0 0 j5) - (nI 48)))) (up (up μ1 10 0 0 13 (nI 1)) 10 0 0 12 ((μ1 10 0 0 12) + (nI 1)))) ∧ (¬ nI 1 = 0 → P (some (.int (nI 0))) (up (up μ1 10 0 0 13 (nI 1)) 10 0 0 12 ((μ1 10 0 0 12) + (nI 1)))))) ∧ (¬ nI 1 = 0 → ((nI 1 = 0 → ∃ j6 : Nat, ((μ1 10 0 0 12) + (nI 0)) - (nI 1) = nI j6 ∧ j6 < 60 ∧ P (some (.int ((μ1 31 0 0 j6) - (nI 48)))) (up (up μ1 10 0 0 13 (nI 1)) 10 0 0 12 ((μ1 10 0 0 12) + (nI 0)))) ∧ (¬ nI 1 = 0 → P (some (.int (nI 0))) (up (up μ1 10 0 0 13 (nI 1)) 10 0 0 12 ((μ1 10 0 0 12) + (nI 0)))))))))) noX))) :
    Con G mX8_digit [.ref (zad G.1 10 0 0), .int x1, .int x2] μ P X := by
  refine con_of pn_X8 rfl (Nat.le_of_ble_eq_true rfl) ?_
  show VL G mX8_digit P X 0 [(0, .ref (zad G.1 10 0 0)), (1, .int x1), (2, .int x2)] [] μ
  refine v_aload_n (n := 1) dX8_digit_0 rfl rfl ?_
  refine v_aload_n (n := 2) dX8_digit_1 rfl rfl ?_
  refine v_getf (n := 5) dX8_digit_2 rfl fl_X8_178 zokc_10 (rfl) ?_
  refine v_if_ne (n := 8) (t := 26) dX8_digit_5 rfl (by decide) (fun hq => ?_) (fun hq => ?_)
  · replace h := h.1 hq
    refine v_iconst (n := 27) (x := nI 1) dX8_digit_26 rfl (by decide) ?_
    refine v_goto (n := 31) dX8_digit_27 (by decide) ?_
    refine v_putf (n := 34) dX8_digit_31 rfl fw_X8_178 zokc_10 (fun _ => rfl) (by decide) (by decide) ?_
    refine v_aload_n (n := 35) dX8_digit_34 rfl rfl ?_
    refine v_dup (n := 36) dX8_digit_35 rfl rfl ?_
    refine v_getf (n := 39) dX8_digit_36 rfl fl_X8_175 zokc_10 (congrArg Value.int (up_sl (by decide))) ?_
    refine v_aload_n (n := 40) dX8_digit_39 rfl rfl ?_
    refine v_getf (n := 43) dX8_digit_40 rfl fl_X8_178 zokc_10 (congrArg Value.int (up_self _ _ _ _ _ _)) ?_
    refine v_if_eq (n := 46) (t := 50) dX8_digit_43 rfl (by decide) (fun hq => ?_) (fun hq => ?_)
    · replace h := h.1 hq
      refine v_iconst (n := 51) (x := nI 1) dX8_digit_50 rfl (by decide) ?_
      refine v_iadd (n := 52) dX8_digit_51 rfl ?_
      refine v_putf (n := 55) dX8_digit_52 rfl fw_X8_175 zokc_10 (fun _ => rfl) rfl rfl ?_
      refine v_aload_n (n := 56) dX8_digit_55 rfl rfl ?_
      refine v_getf (n := 59) dX8_digit_56 rfl fl_X8_178 zokc_10 (congrArg Value.int ((up_sl (by decide)).trans (up_self _ _ _ _ _ _))) ?_
      refine v_if_eq (n := 62) (t := 66) dX8_digit_59 rfl (by decide) (fun hq => ?_) (fun hq => ?_)
      · replace h := h.1 hq
        refine v_aload_n (n := 67) dX8_digit_66 rfl rfl ?_
        refine v_getf (n := 70) dX8_digit_67 rfl fl_X8_25 zokc_10 rfl ?_
        refine v_aload_n (n := 71) dX8_digit_70 rfl rfl ?_
        refine v_getf (n := 74) dX8_digit_71 rfl fl_X8_175 zokc_10 (congrArg Value.int (up_self _ _ _ _ _ _)) ?_
        refine v_iconst (n := 75) (x := nI 1) dX8_digit_74 rfl (by decide) ?_
        refine v_isub (n := 76) dX8_digit_75 rfl ?_
        obtain ⟨j1, ej1, hj1, h⟩ := h
        refine v_iald (n := 77) (j := j1) dX8_digit_76 rfl zokc_31 (by decide) rfl ej1 hj1 (congrArg Value.int ((up_k (by decide)).trans (up_k (by decide)))) ?_
        refine v_bipush (n := 79) (x := nI 48) dX8_digit_77 rfl (by decide) ?_
        refine v_isub (n := 80) dX8_digit_79 rfl ?_
        exact v_iret dX8_digit_80 rfl (Nat.le_of_ble_eq_true rfl) (Nat.le_of_ble_eq_true rfl) h
      · replace h := h.2 hq
        refine v_iconst (n := 63) (x := nI 0) dX8_digit_62 rfl (by decide) ?_
        refine v_goto (n := 80) dX8_digit_63 (by decide) ?_
        exact v_iret dX8_digit_80 rfl (Nat.le_of_ble_eq_true rfl) (Nat.le_of_ble_eq_true rfl) h
    · replace h := h.2 hq
      refine v_iconst (n := 47) (x := nI 0) dX8_digit_46 rfl (by decide) ?_
      refine v_goto (n := 51) dX8_digit_47 (by decide) ?_
      refine v_iadd (n := 52) dX8_digit_51 rfl ?_
      refine v_putf (n := 55) dX8_digit_52 rfl fw_X8_175 zokc_10 (fun _ => rfl) rfl rfl ?_
      refine v_aload_n (n := 56) dX8_digit_55 rfl rfl ?_
      refine v_getf (n := 59) dX8_digit_56 rfl fl_X8_178 zokc_10 (congrArg Value.int ((up_sl (by decide)).trans (up_self _ _ _ _ _ _))) ?_
      refine v_if_eq (n := 62) (t := 66) dX8_digit_59 rfl (by decide) (fun hq => ?_) (fun hq => ?_)
      · replace h := h.1 hq
        refine v_aload_n (n := 67) dX8_digit_66 rfl rfl ?_
        refine v_getf (n := 70) dX8_digit_67 rfl fl_X8_25 zokc_10 rfl ?_
        refine v_aload_n (n := 71) dX8_digit_70 rfl rfl ?_
        refine v_getf (n := 74) dX8_digit_71 rfl fl_X8_175 zokc_10 (congrArg Value.int (up_self _ _ _ _ _ _)) ?_
        refine v_iconst (n := 75) (x := nI 1) dX8_digit_74 rfl (by decide) ?_
        refine v_isub (n := 76) dX8_digit_75 rfl ?_
        obtain ⟨j2, ej2, hj2, h⟩ := h
        refine v_iald (n := 77) (j := j2) dX8_digit_76 rfl zokc_31 (by decide) rfl ej2 hj2 (congrArg Value.int ((up_k (by decide)).trans (up_k (by decide)))) ?_
        refine v_bipush (n := 79) (x := nI 48) dX8_digit_77 rfl (by decide) ?_
        refine v_isub (n := 80) dX8_digit_79 rfl ?_
        exact v_iret dX8_digit_80 rfl (Nat.le_of_ble_eq_true rfl) (Nat.le_of_ble_eq_true rfl) h
      · replace h := h.2 hq
        refine v_iconst (n := 63) (x := nI 0) dX8_digit_62 rfl (by decide) ?_
        refine v_goto (n := 80) dX8_digit_63 (by decide) ?_
        exact v_iret dX8_digit_80 rfl (Nat.le_of_ble_eq_true rfl) (Nat.le_of_ble_eq_true rfl) h
  · replace h := h.2 hq
    refine v_aload_n (n := 9) dX8_digit_8 rfl rfl ?_
    refine v_callV (n := 12) (k := 10) (b := 0) (i := 0) (As := []) (rest := [.ref (zad G.1 10 0 0)]) dX8_digit_9 rfl lk_X8_182 rfl rfl (Nat.le_of_ble_eq_true rfl) ⟨Nat.le_of_ble_eq_true rfl, Nat.le_of_ble_eq_true rfl, Nat.le_of_ble_eq_true rfl, Nat.le_of_ble_eq_true rfl⟩ zokc_10 h (fun v μ1 h => ?_) (fun _ _ hp => False.elim hp)
    obtain ⟨r1, rfl, h⟩ := h
    refine v_norm (st' := [.int r1, .ref (zad G.1 10 0 0)]) (cells' := 0) (slots' := 0) rfl rfl rfl ?_
    refine v_bipush (n := 14) (x := nI 48) dX8_digit_12 rfl (by decide) ?_
    refine v_iload_n (n := 15) dX8_digit_14 rfl rfl ?_
    refine v_iadd (n := 16) dX8_digit_15 rfl ?_
    refine v_bipush (n := 18) (x := nI 48) dX8_digit_16 rfl (by decide) ?_
    refine v_iload_n (n := 19) dX8_digit_18 rfl rfl ?_
    refine v_iadd (n := 20) dX8_digit_19 rfl ?_
    refine v_callS (n := 23) (As := [.int r1, .int ((nI 48) + x1), .int ((nI 48) + x2)]) (rest := [.ref (zad G.1 10 0 0)]) dX8_digit_20 rfl lk_X8_47 rfl rfl (Nat.le_of_ble_eq_true rfl) ⟨Nat.le_of_ble_eq_true rfl, Nat.le_of_ble_eq_true rfl, Nat.le_of_ble_eq_true rfl, Nat.le_of_ble_eq_true rfl⟩ (s_X8_in G r1 ((nI 48) + x1) ((nI 48) + x2) μ1) (fun v μ9 hp => ?_) (fun _ _ hp => False.elim hp)
    rw [hp.1, hp.2]
    refine v_norm (st' := [.int (bI (btw r1 ((nI 48) + x1) ((nI 48) + x2))), .ref (zad G.1 10 0 0)]) (cells' := 0) (slots' := 0) rfl rfl rfl ?_
    refine v_if_ne (n := 26) (t := 30) dX8_digit_23 rfl (by decide) (fun hq => ?_) (fun hq => ?_)
    · replace h := h.1 (bI_nf hq)
      refine v_iconst (n := 31) (x := nI 0) dX8_digit_30 rfl (by decide) ?_
      refine v_putf (n := 34) dX8_digit_31 rfl fw_X8_178 zokc_10 (fun _ => rfl) (by decide) (by decide) ?_
      refine v_aload_n (n := 35) dX8_digit_34 rfl rfl ?_
      refine v_dup (n := 36) dX8_digit_35 rfl rfl ?_
      refine v_getf (n := 39) dX8_digit_36 rfl fl_X8_175 zokc_10 (congrArg Value.int (up_sl (by decide))) ?_
      refine v_aload_n (n := 40) dX8_digit_39 rfl rfl ?_
      refine v_getf (n := 43) dX8_digit_40 rfl fl_X8_178 zokc_10 (congrArg Value.int (up_self _ _ _ _ _ _)) ?_
      refine v_if_eq (n := 46) (t := 50) dX8_digit_43 rfl (by decide) (fun hq => ?_) (fun hq => ?_)
      · replace h := h.1 hq
        refine v_iconst (n := 51) (x := nI 1) dX8_digit_50 rfl (by decide) ?_
        refine v_iadd (n := 52) dX8_digit_51 rfl ?_
        refine v_putf (n := 55) dX8_digit_52 rfl fw_X8_175 zokc_10 (fun _ => rfl) rfl rfl ?_
        refine v_aload_n (n := 56) dX8_digit_55 rfl rfl ?_
        refine v_getf (n := 59) dX8_digit_56 rfl fl_X8_178 zokc_10 (congrArg Value.int ((up_sl (by decide)).trans (up_self _ _ _ _ _ _))) ?_
        refine v_if_eq (n := 62) (t := 66) dX8_digit_59 rfl (by decide) (fun hq => ?_) (fun hq => ?_)
        · replace h := h.1 hq
          refine v_aload_n (n := 67) dX8_digit_66 rfl rfl ?_
          refine v_getf (n := 70) dX8_digit_67 rfl fl_X8_25 zokc_10 rfl ?_
          refine v_aload_n (n := 71) dX8_digit_70 rfl rfl ?_
          refine v_getf (n := 74) dX8_digit_71 rfl fl_X8_175 zokc_10 (congrArg Value.int (up_self _ _ _ _ _ _)) ?_
          refine v_iconst (n := 75) (x := nI 1) dX8_digit_74 rfl (by decide) ?_
          refine v_isub (n := 76) dX8_digit_75 rfl ?_
          obtain ⟨j3, ej3, hj3, h⟩ := h
          refine v_iald (n := 77) (j := j3) dX8_digit_76 rfl zokc_31 (by decide) rfl ej3 hj3 (congrArg Value.int ((up_k (by decide)).trans (up_k (by decide)))) ?_
          refine v_bipush (n := 79) (x := nI 48) dX8_digit_77 rfl (by decide) ?_
          refine v_isub (n := 80) dX8_digit_79 rfl ?_
          exact v_iret dX8_digit_80 rfl (Nat.le_of_ble_eq_true rfl) (Nat.le_of_ble_eq_true rfl) h
        · replace h := h.2 hq
          refine v_iconst (n := 63) (x := nI 0) dX8_digit_62 rfl (by decide) ?_
          refine v_goto (n := 80) dX8_digit_63 (by decide) ?_
          exact v_iret dX8_digit_80 rfl (Nat.le_of_ble_eq_true rfl) (Nat.le_of_ble_eq_true rfl) h
      · replace h := h.2 hq
        refine v_iconst (n := 47) (x := nI 0) dX8_digit_46 rfl (by decide) ?_
        refine v_goto (n := 51) dX8_digit_47 (by decide) ?_
        refine v_iadd (n := 52) dX8_digit_51 rfl ?_
        refine v_putf (n := 55) dX8_digit_52 rfl fw_X8_175 zokc_10 (fun _ => rfl) rfl rfl ?_
        refine v_aload_n (n := 56) dX8_digit_55 rfl rfl ?_
        refine v_getf (n := 59) dX8_digit_56 rfl fl_X8_178 zokc_10 (congrArg Value.int ((up_sl (by decide)).trans (up_self _ _ _ _ _ _))) ?_
        refine v_if_eq (n := 62) (t := 66) dX8_digit_59 rfl (by decide) (fun hq => ?_) (fun hq => ?_)
        · replace h := h.1 hq
          refine v_aload_n (n := 67) dX8_digit_66 rfl rfl ?_
          refine v_getf (n := 70) dX8_digit_67 rfl fl_X8_25 zokc_10 rfl ?_
          refine v_aload_n (n := 71) dX8_digit_70 rfl rfl ?_
          refine v_getf (n := 74) dX8_digit_71 rfl fl_X8_175 zokc_10 (congrArg Value.int (up_self _ _ _ _ _ _)) ?_
          refine v_iconst (n := 75) (x := nI 1) dX8_digit_74 rfl (by decide) ?_
          refine v_isub (n := 76) dX8_digit_75 rfl ?_
          obtain ⟨j4, ej4, hj4, h⟩ := h
          refine v_iald (n := 77) (j := j4) dX8_digit_76 rfl zokc_31 (by decide) rfl ej4 hj4 (congrArg Value.int ((up_k (by decide)).trans (up_k (by decide)))) ?_
          refine v_bipush (n := 79) (x := nI 48) dX8_digit_77 rfl (by decide) ?_
          refine v_isub (n := 80) dX8_digit_79 rfl ?_
          exact v_iret dX8_digit_80 rfl (Nat.le_of_ble_eq_true rfl) (Nat.le_of_ble_eq_true rfl) h
        · replace h := h.2 hq
          refine v_iconst (n := 63) (x := nI 0) dX8_digit_62 rfl (by decide) ?_
          refine v_goto (n := 80) dX8_digit_63 (by decide) ?_
          exact v_iret dX8_digit_80 rfl (Nat.le_of_ble_eq_true rfl) (Nat.le_of_ble_eq_true rfl) h
    · replace h := h.2 (bI_f hq)
      refine v_iconst (n := 27) (x := nI 1) dX8_digit_26 rfl (by decide) ?_
      refine v_goto (n := 31) dX8_digit_27 (by decide) ?_
      refine v_putf (n := 34) dX8_digit_31 rfl fw_X8_178 zokc_10 (fun _ => rfl) (by decide) (by decide) ?_
      refine v_aload_n (n := 35) dX8_digit_34 rfl rfl ?_
      refine v_dup (n := 36) dX8_digit_35 rfl rfl ?_
      refine v_getf (n := 39) dX8_digit_36 rfl fl_X8_175 zokc_10 (congrArg Value.int (up_sl (by decide))) ?_
      refine v_aload_n (n := 40) dX8_digit_39 rfl rfl ?_
      refine v_getf (n := 43) dX8_digit_40 rfl fl_X8_178 zokc_10 (congrArg Value.int (up_self _ _ _ _ _ _)) ?_
      refine v_if_eq (n := 46) (t := 50) dX8_digit_43 rfl (by decide) (fun hq => ?_) (fun hq => ?_)
      · replace h := h.1 hq
        refine v_iconst (n := 51) (x := nI 1) dX8_digit_50 rfl (by decide) ?_
        refine v_iadd (n := 52) dX8_digit_51 rfl ?_
        refine v_putf (n := 55) dX8_digit_52 rfl fw_X8_175 zokc_10 (fun _ => rfl) rfl rfl ?_
        refine v_aload_n (n := 56) dX8_digit_55 rfl rfl ?_
        refine v_getf (n := 59) dX8_digit_56 rfl fl_X8_178 zokc_10 (congrArg Value.int ((up_sl (by decide)).trans (up_self _ _ _ _ _ _))) ?_
        refine v_if_eq (n := 62) (t := 66) dX8_digit_59 rfl (by decide) (fun hq => ?_) (fun hq => ?_)
        · replace h := h.1 hq
          refine v_aload_n (n := 67) dX8_digit_66 rfl rfl ?_
          refine v_getf (n := 70) dX8_digit_67 rfl fl_X8_25 zokc_10 rfl ?_
          refine v_aload_n (n := 71) dX8_digit_70 rfl rfl ?_
          refine v_getf (n := 74) dX8_digit_71 rfl fl_X8_175 zokc_10 (congrArg Value.int (up_self _ _ _ _ _ _)) ?_
          refine v_iconst (n := 75) (x := nI 1) dX8_digit_74 rfl (by decide) ?_
          refine v_isub (n := 76) dX8_digit_75 rfl ?_
          obtain ⟨j5, ej5, hj5, h⟩ := h
          refine v_iald (n := 77) (j := j5) dX8_digit_76 rfl zokc_31 (by decide) rfl ej5 hj5 (congrArg Value.int ((up_k (by decide)).trans (up_k (by decide)))) ?_
          refine v_bipush (n := 79) (x := nI 48) dX8_digit_77 rfl (by decide) ?_
          refine v_isub (n := 80) dX8_digit_79 rfl ?_
          exact v_iret dX8_digit_80 rfl (Nat.le_of_ble_eq_true rfl) (Nat.le_of_ble_eq_true rfl) h
        · replace h := h.2 hq
          refine v_iconst (n := 63) (x := nI 0) dX8_digit_62 rfl (by decide) ?_
          refine v_goto (n := 80) dX8_digit_63 (by decide) ?_
          exact v_iret dX8_digit_80 rfl (Nat.le_of_ble_eq_true rfl) (Nat.le_of_ble_eq_true rfl) h
      · replace h := h.2 hq
        refine v_iconst (n := 47) (x := nI 0) dX8_digit_46 rfl (by decide) ?_
        refine v_goto (n := 51) dX8_digit_47 (by decide) ?_
        refine v_iadd (n := 52) dX8_digit_51 rfl ?_
        refine v_putf (n := 55) dX8_digit_52 rfl fw_X8_175 zokc_10 (fun _ => rfl) rfl rfl ?_
        refine v_aload_n (n := 56) dX8_digit_55 rfl rfl ?_
        refine v_getf (n := 59) dX8_digit_56 rfl fl_X8_178 zokc_10 (congrArg Value.int ((up_sl (by decide)).trans (up_self _ _ _ _ _ _))) ?_
        refine v_if_eq (n := 62) (t := 66) dX8_digit_59 rfl (by decide) (fun hq => ?_) (fun hq => ?_)
        · replace h := h.1 hq
          refine v_aload_n (n := 67) dX8_digit_66 rfl rfl ?_
          refine v_getf (n := 70) dX8_digit_67 rfl fl_X8_25 zokc_10 rfl ?_
          refine v_aload_n (n := 71) dX8_digit_70 rfl rfl ?_
          refine v_getf (n := 74) dX8_digit_71 rfl fl_X8_175 zokc_10 (congrArg Value.int (up_self _ _ _ _ _ _)) ?_
          refine v_iconst (n := 75) (x := nI 1) dX8_digit_74 rfl (by decide) ?_
          refine v_isub (n := 76) dX8_digit_75 rfl ?_
          obtain ⟨j6, ej6, hj6, h⟩ := h
          refine v_iald (n := 77) (j := j6) dX8_digit_76 rfl zokc_31 (by decide) rfl ej6 hj6 (congrArg Value.int ((up_k (by decide)).trans (up_k (by decide)))) ?_
          refine v_bipush (n := 79) (x := nI 48) dX8_digit_77 rfl (by decide) ?_
          refine v_isub (n := 80) dX8_digit_79 rfl ?_
          exact v_iret dX8_digit_80 rfl (Nat.le_of_ble_eq_true rfl) (Nat.le_of_ble_eq_true rfl) h
        · replace h := h.2 hq
          refine v_iconst (n := 63) (x := nI 0) dX8_digit_62 rfl (by decide) ?_
          refine v_goto (n := 80) dX8_digit_63 (by decide) ?_
          exact v_iret dX8_digit_80 rfl (Nat.le_of_ble_eq_true rfl) (Nat.le_of_ble_eq_true rfl) h

set_option maxRecDepth 20000 in
set_option maxHeartbeats 4000000 in
theorem wX8_take (G : Gl) {P : Option Value → St → Prop} {X : String → St → Prop} (x1 : Int32) (μ : St)
    (h : ((¬ μ 10 0 0 13 = 0 → ((nI 1 = 0 → P none (up (up μ 10 0 0 13 (nI 1)) 10 0 0 12 ((μ 10 0 0 12) + (nI 1)))) ∧ (¬ nI 1 = 0 → P none (up (up μ 10 0 0 13 (nI 1)) 10 0 0 12 ((μ 10 0 0 12) + (nI 0)))))) ∧ (μ 10 0 0 13 = 0 → Con G mX8_here [.ref (zad G.1 10 0 0)] μ (fun v μ1 => ∃ r1 : Int32, v = some (.int r1) ∧ ((r1 = x1 → ((nI 0 = 0 → P none (up (up μ1 10 0 0 13 (nI 0)) 10 0 0 12 ((μ1 10 0 0 12) + (nI 1)))) ∧ (¬ nI 0 = 0 → P none (up (up μ1 10 0 0 13 (nI 0)) 10 0 0 12 ((μ1 10 0 0 12) + (nI 0)))))) ∧ (¬ r1 = x1 → ((nI 1 = 0 → P none (up (up μ1 10 0 0 13 (nI 1)) 10 0 0 12 ((μ1 10 0 0 12) + (nI 1)))) ∧ (¬ nI 1 = 0 → P none (up (up μ1 10 0 0 13 (nI 1)) 10 0 0 12 ((μ1 10 0 0 12) + (nI 0)))))))) noX))) :
    Con G mX8_take [.ref (zad G.1 10 0 0), .int x1] μ P X := by
  refine con_of pn_X8 rfl (Nat.le_of_ble_eq_true rfl) ?_
  show VL G mX8_take P X 0 [(0, .ref (zad G.1 10 0 0)), (1, .int x1)] [] μ
  refine v_aload_n (n := 1) dX8_take_0 rfl rfl ?_
  refine v_aload_n (n := 2) dX8_take_1 rfl rfl ?_
  refine v_getf (n := 5) dX8_take_2 rfl fl_X8_178 zokc_10 (rfl) ?_
  refine v_if_ne (n := 8) (t := 16) dX8_take_5 rfl (by decide) (fun hq => ?_) (fun hq => ?_)
  · replace h := h.1 hq
    refine v_iconst (n := 17) (x := nI 1) dX8_take_16 rfl (by decide) ?_
    refine v_goto (n := 21) dX8_take_17 (by decide) ?_
    refine v_putf (n := 24) dX8_take_21 rfl fw_X8_178 zokc_10 (fun _ => rfl) (by decide) (by decide) ?_
    refine v_aload_n (n := 25) dX8_take_24 rfl rfl ?_
    refine v_dup (n := 26) dX8_take_25 rfl rfl ?_
    refine v_getf (n := 29) dX8_take_26 rfl fl_X8_175 zokc_10 (congrArg Value.int (up_sl (by decide))) ?_
    refine v_aload_n (n := 30) dX8_take_29 rfl rfl ?_
    refine v_getf (n := 33) dX8_take_30 rfl fl_X8_178 zokc_10 (congrArg Value.int (up_self _ _ _ _ _ _)) ?_
    refine v_if_eq (n := 36) (t := 40) dX8_take_33 rfl (by decide) (fun hq => ?_) (fun hq => ?_)
    · replace h := h.1 hq
      refine v_iconst (n := 41) (x := nI 1) dX8_take_40 rfl (by decide) ?_
      refine v_iadd (n := 42) dX8_take_41 rfl ?_
      refine v_putf (n := 45) dX8_take_42 rfl fw_X8_175 zokc_10 (fun _ => rfl) rfl rfl ?_
      exact v_vret dX8_take_45 rfl (Nat.le_of_ble_eq_true rfl) (Nat.le_of_ble_eq_true rfl) h
    · replace h := h.2 hq
      refine v_iconst (n := 37) (x := nI 0) dX8_take_36 rfl (by decide) ?_
      refine v_goto (n := 41) dX8_take_37 (by decide) ?_
      refine v_iadd (n := 42) dX8_take_41 rfl ?_
      refine v_putf (n := 45) dX8_take_42 rfl fw_X8_175 zokc_10 (fun _ => rfl) rfl rfl ?_
      exact v_vret dX8_take_45 rfl (Nat.le_of_ble_eq_true rfl) (Nat.le_of_ble_eq_true rfl) h
  · replace h := h.2 hq
    refine v_aload_n (n := 9) dX8_take_8 rfl rfl ?_
    refine v_callV (n := 12) (k := 10) (b := 0) (i := 0) (As := []) (rest := [.ref (zad G.1 10 0 0)]) dX8_take_9 rfl lk_X8_182 rfl rfl (Nat.le_of_ble_eq_true rfl) ⟨Nat.le_of_ble_eq_true rfl, Nat.le_of_ble_eq_true rfl, Nat.le_of_ble_eq_true rfl, Nat.le_of_ble_eq_true rfl⟩ zokc_10 h (fun v μ1 h => ?_) (fun _ _ hp => False.elim hp)
    obtain ⟨r1, rfl, h⟩ := h
    refine v_norm (st' := [.int r1, .ref (zad G.1 10 0 0)]) (cells' := 0) (slots' := 0) rfl rfl rfl ?_
    refine v_iload_n (n := 13) dX8_take_12 rfl rfl ?_
    refine v_icmp_eq (n := 16) (t := 20) dX8_take_13 rfl (by decide) (fun hq => ?_) (fun hq => ?_)
    · replace h := h.1 hq
      refine v_iconst (n := 21) (x := nI 0) dX8_take_20 rfl (by decide) ?_
      refine v_putf (n := 24) dX8_take_21 rfl fw_X8_178 zokc_10 (fun _ => rfl) (by decide) (by decide) ?_
      refine v_aload_n (n := 25) dX8_take_24 rfl rfl ?_
      refine v_dup (n := 26) dX8_take_25 rfl rfl ?_
      refine v_getf (n := 29) dX8_take_26 rfl fl_X8_175 zokc_10 (congrArg Value.int (up_sl (by decide))) ?_
      refine v_aload_n (n := 30) dX8_take_29 rfl rfl ?_
      refine v_getf (n := 33) dX8_take_30 rfl fl_X8_178 zokc_10 (congrArg Value.int (up_self _ _ _ _ _ _)) ?_
      refine v_if_eq (n := 36) (t := 40) dX8_take_33 rfl (by decide) (fun hq => ?_) (fun hq => ?_)
      · replace h := h.1 hq
        refine v_iconst (n := 41) (x := nI 1) dX8_take_40 rfl (by decide) ?_
        refine v_iadd (n := 42) dX8_take_41 rfl ?_
        refine v_putf (n := 45) dX8_take_42 rfl fw_X8_175 zokc_10 (fun _ => rfl) rfl rfl ?_
        exact v_vret dX8_take_45 rfl (Nat.le_of_ble_eq_true rfl) (Nat.le_of_ble_eq_true rfl) h
      · replace h := h.2 hq
        refine v_iconst (n := 37) (x := nI 0) dX8_take_36 rfl (by decide) ?_
        refine v_goto (n := 41) dX8_take_37 (by decide) ?_
        refine v_iadd (n := 42) dX8_take_41 rfl ?_
        refine v_putf (n := 45) dX8_take_42 rfl fw_X8_175 zokc_10 (fun _ => rfl) rfl rfl ?_
        exact v_vret dX8_take_45 rfl (Nat.le_of_ble_eq_true rfl) (Nat.le_of_ble_eq_true rfl) h
    · replace h := h.2 hq
      refine v_iconst (n := 17) (x := nI 1) dX8_take_16 rfl (by decide) ?_
      refine v_goto (n := 21) dX8_take_17 (by decide) ?_
      refine v_putf (n := 24) dX8_take_21 rfl fw_X8_178 zokc_10 (fun _ => rfl) (by decide) (by decide) ?_
      refine v_aload_n (n := 25) dX8_take_24 rfl rfl ?_
      refine v_dup (n := 26) dX8_take_25 rfl rfl ?_
      refine v_getf (n := 29) dX8_take_26 rfl fl_X8_175 zokc_10 (congrArg Value.int (up_sl (by decide))) ?_
      refine v_aload_n (n := 30) dX8_take_29 rfl rfl ?_
      refine v_getf (n := 33) dX8_take_30 rfl fl_X8_178 zokc_10 (congrArg Value.int (up_self _ _ _ _ _ _)) ?_
      refine v_if_eq (n := 36) (t := 40) dX8_take_33 rfl (by decide) (fun hq => ?_) (fun hq => ?_)
      · replace h := h.1 hq
        refine v_iconst (n := 41) (x := nI 1) dX8_take_40 rfl (by decide) ?_
        refine v_iadd (n := 42) dX8_take_41 rfl ?_
        refine v_putf (n := 45) dX8_take_42 rfl fw_X8_175 zokc_10 (fun _ => rfl) rfl rfl ?_
        exact v_vret dX8_take_45 rfl (Nat.le_of_ble_eq_true rfl) (Nat.le_of_ble_eq_true rfl) h
      · replace h := h.2 hq
        refine v_iconst (n := 37) (x := nI 0) dX8_take_36 rfl (by decide) ?_
        refine v_goto (n := 41) dX8_take_37 (by decide) ?_
        refine v_iadd (n := 42) dX8_take_41 rfl ?_
        refine v_putf (n := 45) dX8_take_42 rfl fw_X8_175 zokc_10 (fun _ => rfl) rfl rfl ?_
        exact v_vret dX8_take_45 rfl (Nat.le_of_ble_eq_true rfl) (Nat.le_of_ble_eq_true rfl) h

set_option maxRecDepth 20000 in
set_option maxHeartbeats 4000000 in
theorem wX8_guestNumber (G : Gl) {P : Option Value → St → Prop} {X : String → St → Prop}  (μ : St)
    (h : Con G mX8_digit [.ref (zad G.1 10 0 0), .int (nI 0), .int (nI 9)] μ (fun v μ1 => ∃ r1 : Int32, v = some (.int r1) ∧ ((¬ μ1 10 0 0 13 = 0 → P (some (.int r1)) μ1) ∧ (μ1 10 0 0 13 = 0 → ((¬ r1 = nI 1 → P (some (.int r1)) μ1) ∧ (r1 = nI 1 → Con G mX8_here [.ref (zad G.1 10 0 0)] μ1 (fun v μ2 => ∃ r2 : Int32, v = some (.int r2) ∧ ((btw r2 (nI 48) (nI 53) = false → P (some (.int r1)) μ2) ∧ (btw r2 (nI 48) (nI 53) = true → Con G mX8_digit [.ref (zad G.1 10 0 0), .int (nI 0), .int (nI 5)] μ2 (fun v μ3 => ∃ r3 : Int32, v = some (.int r3) ∧ P (some (.int ((nI 10) + r3))) μ3) noX))) noX))))) noX) :
    Con G mX8_guestNumber [.ref (zad G.1 10 0 0)] μ P X := by
  refine con_of pn_X8 rfl (Nat.le_of_ble_eq_true rfl) ?_
  show VL G mX8_guestNumber P X 0 [(0, .ref (zad G.1 10 0 0))] [] μ
  refine v_aload_n (n := 1) dX8_guestNumber_0 rfl rfl ?_
  refine v_iconst (n := 2) (x := nI 0) dX8_guestNumber_1 rfl (by decide) ?_
  refine v_bipush (n := 4) (x := nI 9) dX8_guestNumber_2 rfl (by decide) ?_
  refine v_callV (n := 7) (k := 10) (b := 0) (i := 0) (As := [.int (nI 0), .int (nI 9)]) (rest := []) dX8_guestNumber_4 rfl lk_X8_185 rfl rfl (Nat.le_of_ble_eq_true rfl) ⟨Nat.le_of_ble_eq_true rfl, Nat.le_of_ble_eq_true rfl, Nat.le_of_ble_eq_true rfl, Nat.le_of_ble_eq_true rfl⟩ zokc_10 h (fun v μ1 h => ?_) (fun _ _ hp => False.elim hp)
  obtain ⟨r1, rfl, h⟩ := h
  refine v_norm (st' := [.int r1]) (cells' := 0) (slots' := 0) rfl rfl rfl ?_
  refine v_istore_n (n := 8) (L' := [(0, .ref (zad G.1 10 0 0)), (1, .int r1)]) dX8_guestNumber_7 rfl (by decide) rfl ?_
  refine v_aload_n (n := 9) dX8_guestNumber_8 rfl rfl ?_
  refine v_getf (n := 12) dX8_guestNumber_9 rfl fl_X8_178 zokc_10 (rfl) ?_
  refine v_if_ne (n := 15) (t := 46) dX8_guestNumber_12 rfl (by decide) (fun hq => ?_) (fun hq => ?_)
  · replace h := h.1 hq
    refine v_iload_n (n := 47) dX8_guestNumber_46 rfl rfl ?_
    exact v_iret dX8_guestNumber_47 rfl (Nat.le_of_ble_eq_true rfl) (Nat.le_of_ble_eq_true rfl) h
  · replace h := h.2 hq
    refine v_iload_n (n := 16) dX8_guestNumber_15 rfl rfl ?_
    refine v_iconst (n := 17) (x := nI 1) dX8_guestNumber_16 rfl (by decide) ?_
    refine v_icmp_ne (n := 20) (t := 46) dX8_guestNumber_17 rfl (by decide) (fun hq => ?_) (fun hq => ?_)
    · replace h := h.1 hq
      refine v_iload_n (n := 47) dX8_guestNumber_46 rfl rfl ?_
      exact v_iret dX8_guestNumber_47 rfl (Nat.le_of_ble_eq_true rfl) (Nat.le_of_ble_eq_true rfl) h
    · replace h := h.2 hq
      refine v_aload_n (n := 21) dX8_guestNumber_20 rfl rfl ?_
      refine v_callV (n := 24) (k := 10) (b := 0) (i := 0) (As := []) (rest := []) dX8_guestNumber_21 rfl lk_X8_182 rfl rfl (Nat.le_of_ble_eq_true rfl) ⟨Nat.le_of_ble_eq_true rfl, Nat.le_of_ble_eq_true rfl, Nat.le_of_ble_eq_true rfl, Nat.le_of_ble_eq_true rfl⟩ zokc_10 h (fun v μ2 h => ?_) (fun _ _ hp => False.elim hp)
      obtain ⟨r2, rfl, h⟩ := h
      refine v_norm (st' := [.int r2]) (cells' := 0) (slots' := 0) rfl rfl rfl ?_
      refine v_bipush (n := 26) (x := nI 48) dX8_guestNumber_24 rfl (by decide) ?_
      refine v_bipush (n := 28) (x := nI 53) dX8_guestNumber_26 rfl (by decide) ?_
      refine v_callS (n := 31) (As := [.int r2, .int (nI 48), .int (nI 53)]) (rest := []) dX8_guestNumber_28 rfl lk_X8_47 rfl rfl (Nat.le_of_ble_eq_true rfl) ⟨Nat.le_of_ble_eq_true rfl, Nat.le_of_ble_eq_true rfl, Nat.le_of_ble_eq_true rfl, Nat.le_of_ble_eq_true rfl⟩ (s_X8_in G r2 (nI 48) (nI 53) μ2) (fun v μ9 hp => ?_) (fun _ _ hp => False.elim hp)
      rw [hp.1, hp.2]
      refine v_norm (st' := [.int (bI (btw r2 (nI 48) (nI 53)))]) (cells' := 0) (slots' := 0) rfl rfl rfl ?_
      refine v_if_eq (n := 34) (t := 46) dX8_guestNumber_31 rfl (by decide) (fun hq => ?_) (fun hq => ?_)
      · replace h := h.1 (bI_f hq)
        refine v_iload_n (n := 47) dX8_guestNumber_46 rfl rfl ?_
        exact v_iret dX8_guestNumber_47 rfl (Nat.le_of_ble_eq_true rfl) (Nat.le_of_ble_eq_true rfl) h
      · replace h := h.2 (bI_nf hq)
        refine v_bipush (n := 36) (x := nI 10) dX8_guestNumber_34 rfl (by decide) ?_
        refine v_aload_n (n := 37) dX8_guestNumber_36 rfl rfl ?_
        refine v_iconst (n := 38) (x := nI 0) dX8_guestNumber_37 rfl (by decide) ?_
        refine v_iconst (n := 39) (x := nI 5) dX8_guestNumber_38 rfl (by decide) ?_
        refine v_callV (n := 42) (k := 10) (b := 0) (i := 0) (As := [.int (nI 0), .int (nI 5)]) (rest := [.int (nI 10)]) dX8_guestNumber_39 rfl lk_X8_185 rfl rfl (Nat.le_of_ble_eq_true rfl) ⟨Nat.le_of_ble_eq_true rfl, Nat.le_of_ble_eq_true rfl, Nat.le_of_ble_eq_true rfl, Nat.le_of_ble_eq_true rfl⟩ zokc_10 h (fun v μ3 h => ?_) (fun _ _ hp => False.elim hp)
        obtain ⟨r3, rfl, h⟩ := h
        refine v_norm (st' := [.int r3, .int (nI 10)]) (cells' := 0) (slots' := 0) rfl rfl rfl ?_
        refine v_iadd (n := 43) dX8_guestNumber_42 rfl ?_
        refine v_goto (n := 47) dX8_guestNumber_43 (by decide) ?_
        exact v_iret dX8_guestNumber_47 rfl (Nat.le_of_ble_eq_true rfl) (Nat.le_of_ble_eq_true rfl) h

set_option maxRecDepth 20000 in
set_option maxHeartbeats 4000000 in
theorem wX8_isText (G : Gl) {P : Option Value → St → Prop} {X : String → St → Prop}  (μ : St)
    (h : VL G mX8_isText P X 15 [(0, .ref (zad G.1 10 0 0))] [] (up (up (up μ 10 0 0 12 (nI 0)) 10 0 0 13 (nI 0)) 10 0 0 16 (nI 0))) :
    Con G mX8_isText [.ref (zad G.1 10 0 0)] μ P X := by
  refine con_of pn_X8 rfl (Nat.le_of_ble_eq_true rfl) ?_
  show VL G mX8_isText P X 0 [(0, .ref (zad G.1 10 0 0))] [] μ
  refine v_aload_n (n := 1) dX8_isText_0 rfl rfl ?_
  refine v_iconst (n := 2) (x := nI 0) dX8_isText_1 rfl (by decide) ?_
  refine v_putf (n := 5) dX8_isText_2 rfl fw_X8_175 zokc_10 (fun _ => rfl) rfl rfl ?_
  refine v_aload_n (n := 6) dX8_isText_5 rfl rfl ?_
  refine v_iconst (n := 7) (x := nI 0) dX8_isText_6 rfl (by decide) ?_
  refine v_putf (n := 10) dX8_isText_7 rfl fw_X8_178 zokc_10 (fun _ => rfl) (by decide) (by decide) ?_
  refine v_aload_n (n := 11) dX8_isText_10 rfl rfl ?_
  refine v_iconst (n := 12) (x := nI 0) dX8_isText_11 rfl (by decide) ?_
  refine v_putf (n := 15) dX8_isText_12 rfl fw_X8_188 zokc_10 (fun _ => rfl) rfl rfl ?_
  exact h

set_option maxRecDepth 20000 in
set_option maxHeartbeats 4000000 in
theorem wX8_isText_15 (G : Gl) {P : Option Value → St → Prop} {X : String → St → Prop}  (μ : St)
    (h : Con G mX8_entry [.ref (zad G.1 10 0 0)] μ (fun v μ1 => v = none ∧ ((¬ μ1 10 0 0 13 = 0 → ((¬ μ1 10 0 0 13 = 0 → P (some (.int (nI 0))) μ1) ∧ (μ1 10 0 0 13 = 0 → P (some (.int (nI 1))) μ1))) ∧ (μ1 10 0 0 13 = 0 → ((μ1 10 0 0 12 < μ1 10 0 0 10 → VL G mX8_isText P X 15 [(0, .ref (zad G.1 10 0 0))] [] μ1) ∧ (¬ μ1 10 0 0 12 < μ1 10 0 0 10 → ((¬ μ1 10 0 0 13 = 0 → P (some (.int (nI 0))) μ1) ∧ (μ1 10 0 0 13 = 0 → P (some (.int (nI 1))) μ1))))))) noX) :
    VL G mX8_isText P X 15 [(0, .ref (zad G.1 10 0 0))] [] μ := by
  refine v_aload_n (n := 16) dX8_isText_15 rfl rfl ?_
  refine v_callV (n := 19) (k := 10) (b := 0) (i := 0) (As := []) (rest := []) dX8_isText_16 rfl lk_X8_197 rfl rfl (Nat.le_of_ble_eq_true rfl) ⟨Nat.le_of_ble_eq_true rfl, Nat.le_of_ble_eq_true rfl, Nat.le_of_ble_eq_true rfl, Nat.le_of_ble_eq_true rfl⟩ zokc_10 h (fun v μ1 h => ?_) (fun _ _ hp => False.elim hp)
  obtain ⟨rfl, h⟩ := h
  refine v_norm (st' := []) (cells' := 0) (slots' := 0) rfl rfl rfl ?_
  refine v_aload_n (n := 20) dX8_isText_19 rfl rfl ?_
  refine v_getf (n := 23) dX8_isText_20 rfl fl_X8_178 zokc_10 (rfl) ?_
  refine v_if_ne (n := 26) (t := 37) dX8_isText_23 rfl (by decide) (fun hq => ?_) (fun hq => ?_)
  · replace h := h.1 hq
    refine v_aload_n (n := 38) dX8_isText_37 rfl rfl ?_
    refine v_getf (n := 41) dX8_isText_38 rfl fl_X8_178 zokc_10 (rfl) ?_
    refine v_if_ne (n := 44) (t := 48) dX8_isText_41 rfl (by decide) (fun hq => ?_) (fun hq => ?_)
    · replace h := h.1 hq
      refine v_iconst (n := 49) (x := nI 0) dX8_isText_48 rfl (by decide) ?_
      exact v_zret dX8_isText_49 rfl (by decide) (Nat.le_of_ble_eq_true rfl) (Nat.le_of_ble_eq_true rfl) h
    · replace h := h.2 hq
      refine v_iconst (n := 45) (x := nI 1) dX8_isText_44 rfl (by decide) ?_
      refine v_goto (n := 49) dX8_isText_45 (by decide) ?_
      exact v_zret dX8_isText_49 rfl (by decide) (Nat.le_of_ble_eq_true rfl) (Nat.le_of_ble_eq_true rfl) h
  · replace h := h.2 hq
    refine v_aload_n (n := 27) dX8_isText_26 rfl rfl ?_
    refine v_getf (n := 30) dX8_isText_27 rfl fl_X8_175 zokc_10 (rfl) ?_
    refine v_aload_n (n := 31) dX8_isText_30 rfl rfl ?_
    refine v_getf (n := 34) dX8_isText_31 rfl fl_X8_172 zokc_10 (rfl) ?_
    refine v_icmp_lt (n := 37) (t := 15) dX8_isText_34 rfl (by decide) (fun hq => ?_) (fun hq => ?_)
    · replace h := h.1 hq
      exact h
    · replace h := h.2 hq
      refine v_aload_n (n := 38) dX8_isText_37 rfl rfl ?_
      refine v_getf (n := 41) dX8_isText_38 rfl fl_X8_178 zokc_10 (rfl) ?_
      refine v_if_ne (n := 44) (t := 48) dX8_isText_41 rfl (by decide) (fun hq => ?_) (fun hq => ?_)
      · replace h := h.1 hq
        refine v_iconst (n := 49) (x := nI 0) dX8_isText_48 rfl (by decide) ?_
        exact v_zret dX8_isText_49 rfl (by decide) (Nat.le_of_ble_eq_true rfl) (Nat.le_of_ble_eq_true rfl) h
      · replace h := h.2 hq
        refine v_iconst (n := 45) (x := nI 1) dX8_isText_44 rfl (by decide) ?_
        refine v_goto (n := 49) dX8_isText_45 (by decide) ?_
        exact v_zret dX8_isText_49 rfl (by decide) (Nat.le_of_ble_eq_true rfl) (Nat.le_of_ble_eq_true rfl) h

set_option maxRecDepth 20000 in
set_option maxHeartbeats 4000000 in
theorem wX8_does (G : Gl) {P : Option Value → St → Prop} {X : String → St → Prop} (e : Nat) (he : e < 60) (μ : St)
    (h : ((¬ μ 32 0 0 e = nI 119 → ((¬ μ 32 0 0 e = nI 116 → ((¬ μ 32 0 0 e = nI 103 → ((¬ μ 32 0 0 e = nI 113 → ((mix μ 5 (μ 33 0 0 e) = false → P (some (.int (nI 0))) μ) ∧ (mix μ 5 (μ 33 0 0 e) = true → ((mix μ 4 (μ 34 0 0 e) = true → ∃ j1 : Nat, μ 33 0 0 e = nI j1 ∧ j1 < 16 ∧ ∃ j2 : Nat, μ 34 0 0 e = nI j2 ∧ j2 < 10 ∧ ((mnp μ j1 j2 ≤ 0 → ((¬ mnp μ j1 j2 = 0 → P (some (.int (nI 0))) (up μ 10 0 0 5 (μ 10 0 0 5))) ∧ (mnp μ j1 j2 = 0 → Con G mX8_goDown [.ref (zad G.1 10 0 0), .int (μ 33 0 0 e), .int (μ 34 0 0 e)] (up μ 10 0 0 5 (μ 10 0 0 5)) (fun v μ1 => ∃ r1 : Int32, v = some (.int r1) ∧ ((r1 < 0 → P (some (.int (nI 0))) μ1) ∧ (¬ r1 < 0 → P (some (.int (nI 1))) μ1))) noX))) ∧ (¬ mnp μ j1 j2 ≤ 0 → ((¬ mnp μ j1 j2 = 0 → P (some (.int (nI 0))) (up μ 10 0 0 5 (mnp μ j1 j2))) ∧ (mnp μ j1 j2 = 0 → Con G mX8_goDown [.ref (zad G.1 10 0 0), .int (μ 33 0 0 e), .int (μ 34 0 0 e)] (up μ 10 0 0 5 (mnp μ j1 j2)) (fun v μ2 => ∃ r2 : Int32, v = some (.int r2) ∧ ((r2 < 0 → P (some (.int (nI 0))) μ2) ∧ (¬ r2 < 0 → P (some (.int (nI 1))) μ2))) noX))))) ∧ (mix μ 4 (μ 34 0 0 e) = false → P (some (.int (nI 0))) μ))))) ∧ (μ 32 0 0 e = nI 113 → ((mix μ 5 (μ 33 0 0 e) = false → P (some (.int (nI 0))) μ) ∧ (mix μ 5 (μ 33 0 0 e) = true → ((mix μ 3 (μ 34 0 0 e) = false → P (some (.int (nI 0))) μ) ∧ (mix μ 3 (μ 34 0 0 e) = true → ∃ j3 : Nat, μ 33 0 0 e = nI j3 ∧ j3 < 16 ∧ ∃ j4 : Nat, μ 34 0 0 e = nI j4 ∧ j4 < 6 ∧ ((mnl μ j3 j4 ≤ 0 → ((¬ mnl μ j3 j4 = 0 → P (some (.int (nI 0))) (up μ 10 0 0 5 (μ 10 0 0 5))) ∧ (mnl μ j3 j4 = 0 → Con G mX8_standIn [.ref (zad G.1 10 0 0), .int (μ 33 0 0 e), .int (μ 34 0 0 e)] (up μ 10 0 0 5 (μ 10 0 0 5)) (fun v μ3 => ∃ r3 : Int32, v = some (.int r3) ∧ ((r3 < 0 → P (some (.int (nI 0))) μ3) ∧ (¬ r3 < 0 → P (some (.int (nI 1))) μ3))) noX))) ∧ (¬ mnl μ j3 j4 ≤ 0 → ((¬ mnl μ j3 j4 = 0 → P (some (.int (nI 0))) (up μ 10 0 0 5 (mnl μ j3 j4))) ∧ (mnl μ j3 j4 = 0 → Con G mX8_standIn [.ref (zad G.1 10 0 0), .int (μ 33 0 0 e), .int (μ 34 0 0 e)] (up μ 10 0 0 5 (mnl μ j3 j4)) (fun v μ4 => ∃ r4 : Int32, v = some (.int r4) ∧ ((r4 < 0 → P (some (.int (nI 0))) μ4) ∧ (¬ r4 < 0 → P (some (.int (nI 1))) μ4))) noX))))))))))) ∧ (μ 32 0 0 e = nI 103 → ((nI 16 ≤ μ 26 0 0 5 → P (some (.int (nI 0))) μ) ∧ (¬ nI 16 ≤ μ 26 0 0 5 → Con G mX8_arrives [.ref (zad G.1 10 0 0), .int (μ 33 0 0 e), .int (μ 34 0 0 e), .int (nI 15), .int (μ 26 0 0 2), .int (μ 26 0 0 2)] μ (fun v μ5 => v = none ∧ P (some (.int (nI 1))) μ5) noX))))) ∧ (μ 32 0 0 e = nI 116 → ((nI 1000 < (μ 26 0 0 1) + (μ 33 0 0 e) → P (some (.int (nI 0))) μ) ∧ (¬ nI 1000 < (μ 26 0 0 1) + (μ 33 0 0 e) → Con G mX8_ticks [.ref (zad G.1 10 0 0), .int (μ 33 0 0 e)] μ (fun v μ6 => ∃ r5 : Int32, v = some (.int r5) ∧ ((r5 < 0 → P (some (.int (nI 0))) μ6) ∧ (¬ r5 < 0 → P (some (.int (nI 1))) μ6))) noX))))) ∧ (μ 32 0 0 e = nI 119 → P (some (.int (nI 1))) (up μ 26 0 0 0 (μ 33 0 0 e))))) :
    Con G mX8_does [.ref (zad G.1 10 0 0), .int (nI e)] μ P X := by
  refine con_of pn_X8 rfl (Nat.le_of_ble_eq_true rfl) ?_
  show VL G mX8_does P X 0 [(0, .ref (zad G.1 10 0 0)), (1, .int (nI e))] [] μ
  refine v_aload_n (n := 1) dX8_does_0 rfl rfl ?_
  refine v_getf (n := 4) dX8_does_1 rfl fl_X8_31 zokc_10 rfl ?_
  refine v_iload_n (n := 5) dX8_does_4 rfl rfl ?_
  refine v_iald (n := 6) (j := e) dX8_does_5 rfl zokc_33 (by decide) rfl rfl (show e < 60 by omega) (rfl) ?_
  refine v_istore_n (n := 7) (L' := [(0, .ref (zad G.1 10 0 0)), (1, .int (nI e)), (2, .int (μ 33 0 0 e))]) dX8_does_6 rfl (by decide) rfl ?_
  refine v_aload_n (n := 8) dX8_does_7 rfl rfl ?_
  refine v_getf (n := 11) dX8_does_8 rfl fl_X8_34 zokc_10 rfl ?_
  refine v_iload_n (n := 12) dX8_does_11 rfl rfl ?_
  refine v_iald (n := 13) (j := e) dX8_does_12 rfl zokc_34 (by decide) rfl rfl (show e < 60 by omega) (rfl) ?_
  refine v_istore_n (n := 14) (L' := [(0, .ref (zad G.1 10 0 0)), (1, .int (nI e)), (2, .int (μ 33 0 0 e)), (3, .int (μ 34 0 0 e))]) dX8_does_13 rfl (by decide) rfl ?_
  refine v_aload_n (n := 15) dX8_does_14 rfl rfl ?_
  refine v_getf (n := 18) dX8_does_15 rfl fl_X8_28 zokc_10 rfl ?_
  refine v_iload_n (n := 19) dX8_does_18 rfl rfl ?_
  refine v_iald (n := 20) (j := e) dX8_does_19 rfl zokc_32 (by decide) rfl rfl (show e < 60 by omega) (rfl) ?_
  refine v_bipush (n := 22) (x := nI 119) dX8_does_20 rfl (by decide) ?_
  refine v_icmp_ne (n := 25) (t := 34) dX8_does_22 rfl (by decide) (fun hq => ?_) (fun hq => ?_)
  · replace h := h.1 hq
    refine v_aload_n (n := 35) dX8_does_34 rfl rfl ?_
    refine v_getf (n := 38) dX8_does_35 rfl fl_X8_28 zokc_10 rfl ?_
    refine v_iload_n (n := 39) dX8_does_38 rfl rfl ?_
    refine v_iald (n := 40) (j := e) dX8_does_39 rfl zokc_32 (by decide) rfl rfl (show e < 60 by omega) (rfl) ?_
    refine v_bipush (n := 42) (x := nI 116) dX8_does_40 rfl (by decide) ?_
    refine v_icmp_ne (n := 45) (t := 98) dX8_does_42 rfl (by decide) (fun hq => ?_) (fun hq => ?_)
    · replace h := h.1 hq
      refine v_aload_n (n := 99) dX8_does_98 rfl rfl ?_
      refine v_getf (n := 102) dX8_does_99 rfl fl_X8_28 zokc_10 rfl ?_
      refine v_iload_n (n := 103) dX8_does_102 rfl rfl ?_
      refine v_iald (n := 104) (j := e) dX8_does_103 rfl zokc_32 (by decide) rfl rfl (show e < 60 by omega) (rfl) ?_
      refine v_bipush (n := 106) (x := nI 103) dX8_does_104 rfl (by decide) ?_
      refine v_icmp_ne (n := 109) (t := 155) dX8_does_106 rfl (by decide) (fun hq => ?_) (fun hq => ?_)
      · replace h := h.1 hq
        refine v_aload_n (n := 156) dX8_does_155 rfl rfl ?_
        refine v_getf (n := 159) dX8_does_156 rfl fl_X8_28 zokc_10 rfl ?_
        refine v_iload_n (n := 160) dX8_does_159 rfl rfl ?_
        refine v_iald (n := 161) (j := e) dX8_does_160 rfl zokc_32 (by decide) rfl rfl (show e < 60 by omega) (rfl) ?_
        refine v_bipush (n := 163) (x := nI 113) dX8_does_161 rfl (by decide) ?_
        refine v_icmp_ne (n := 166) (t := 170) dX8_does_163 rfl (by decide) (fun hq => ?_) (fun hq => ?_)
        · replace h := h.1 hq
          refine v_iconst (n := 171) (x := nI 0) dX8_does_170 rfl (by decide) ?_
          refine v_istore (n := 173) (L' := [(0, .ref (zad G.1 10 0 0)), (1, .int (nI e)), (2, .int (μ 33 0 0 e)), (3, .int (μ 34 0 0 e)), (4, .int (nI 0))]) dX8_does_171 rfl (by decide) rfl ?_
          refine v_aload_n (n := 174) dX8_does_173 rfl rfl ?_
          refine v_iload_n (n := 175) dX8_does_174 rfl rfl ?_
          refine v_callV (n := 178) (k := 10) (b := 0) (i := 0) (As := [.int (μ 33 0 0 e)]) (rest := []) dX8_does_175 rfl lk_X8_92 rfl rfl (Nat.le_of_ble_eq_true rfl) ⟨Nat.le_of_ble_eq_true rfl, Nat.le_of_ble_eq_true rfl, Nat.le_of_ble_eq_true rfl, Nat.le_of_ble_eq_true rfl⟩ zokc_10 (s_X8_isGuest G (μ 33 0 0 e) μ) (fun v μ9 hp => ?_) (fun _ _ hp => False.elim hp)
          rw [hp.1, hp.2]
          refine v_norm (st' := [.int (bI (mix μ 5 (μ 33 0 0 e)))]) (cells' := 0) (slots' := 0) rfl rfl rfl ?_
          refine v_if_eq (n := 181) (t := 205) dX8_does_178 rfl (by decide) (fun hq => ?_) (fun hq => ?_)
          · replace h := h.1 (bI_f hq)
            refine v_iconst (n := 206) (x := nI 0) dX8_does_205 rfl (by decide) ?_
            exact v_zret dX8_does_206 rfl (by decide) (Nat.le_of_ble_eq_true rfl) (Nat.le_of_ble_eq_true rfl) h
          · replace h := h.2 (bI_nf hq)
            refine v_iload (n := 183) dX8_does_181 rfl rfl ?_
            refine v_if_eq (n := 186) (t := 197) dX8_does_183 rfl (by decide) (fun _ => ?_) (fun hq => absurd (by decide) hq)
            refine v_aload_n (n := 198) dX8_does_197 rfl rfl ?_
            refine v_iload_n (n := 199) dX8_does_198 rfl rfl ?_
            refine v_callV (n := 202) (k := 10) (b := 0) (i := 0) (As := [.int (μ 34 0 0 e)]) (rest := []) dX8_does_199 rfl lk_X8_81 rfl rfl (Nat.le_of_ble_eq_true rfl) ⟨Nat.le_of_ble_eq_true rfl, Nat.le_of_ble_eq_true rfl, Nat.le_of_ble_eq_true rfl, Nat.le_of_ble_eq_true rfl⟩ zokc_10 (s_X8_isPiste G (μ 34 0 0 e) μ) (fun v μ9 hp => ?_) (fun _ _ hp => False.elim hp)
            rw [hp.1, hp.2]
            refine v_norm (st' := [.int (bI (mix μ 4 (μ 34 0 0 e)))]) (cells' := 0) (slots' := 0) rfl rfl rfl ?_
            refine v_if_ne (n := 205) (t := 207) dX8_does_202 rfl (by decide) (fun hq => ?_) (fun hq => ?_)
            · replace h := h.1 (bI_nf hq)
              refine v_iload (n := 209) dX8_does_207 rfl rfl ?_
              refine v_if_eq (n := 212) (t := 221) dX8_does_209 rfl (by decide) (fun _ => ?_) (fun hq => absurd (by decide) hq)
              refine v_aload_n (n := 222) dX8_does_221 rfl rfl ?_
              refine v_iload_n (n := 223) dX8_does_222 rfl rfl ?_
              refine v_iload_n (n := 224) dX8_does_223 rfl rfl ?_
              obtain ⟨j1, ej1, hj1, h⟩ := h
              obtain ⟨j2, ej2, hj2, h⟩ := h
              refine v_callV (n := 227) (k := 10) (b := 0) (i := 0) (As := [.int (μ 33 0 0 e), .int (μ 34 0 0 e)]) (rest := []) dX8_does_224 rfl lk_X8_114 rfl rfl (Nat.le_of_ble_eq_true rfl) ⟨Nat.le_of_ble_eq_true rfl, Nat.le_of_ble_eq_true rfl, Nat.le_of_ble_eq_true rfl, Nat.le_of_ble_eq_true rfl⟩ zokc_10 (s_X8_whyNoPiste G (μ 33 0 0 e) j1 ej1 hj1 (μ 34 0 0 e) j2 ej2 hj2 μ) (fun v μ9 hp => ?_) (fun _ _ hp => False.elim hp)
              rw [hp.1, hp.2]
              refine v_norm (st' := [.int (mnp μ j1 j2)]) (cells' := 0) (slots' := 0) rfl rfl rfl ?_
              refine v_istore (n := 229) (L' := [(0, .ref (zad G.1 10 0 0)), (1, .int (nI e)), (2, .int (μ 33 0 0 e)), (3, .int (μ 34 0 0 e)), (4, .int (nI 0)), (5, .int (mnp μ j1 j2))]) dX8_does_227 rfl (by decide) rfl ?_
              refine v_aload_n (n := 230) dX8_does_229 rfl rfl ?_
              refine v_iload (n := 232) dX8_does_230 rfl rfl ?_
              refine v_if_le (n := 235) (t := 240) dX8_does_232 rfl (by decide) (fun hq => ?_) (fun hq => ?_)
              · replace h := h.1 hq
                refine v_aload_n (n := 241) dX8_does_240 rfl rfl ?_
                refine v_getf (n := 244) dX8_does_241 rfl fl_X8_37 zokc_10 (rfl) ?_
                refine v_putf (n := 247) dX8_does_244 rfl fw_X8_37 zokc_10 (fun _ => rfl) rfl rfl ?_
                refine v_iload (n := 249) dX8_does_247 rfl rfl ?_
                refine v_if_ne (n := 252) (t := 285) dX8_does_249 rfl (by decide) (fun hq => ?_) (fun hq => ?_)
                · replace h := h.1 hq
                  refine v_iconst (n := 286) (x := nI 0) dX8_does_285 rfl (by decide) ?_
                  exact v_zret dX8_does_286 rfl (by decide) (Nat.le_of_ble_eq_true rfl) (Nat.le_of_ble_eq_true rfl) h
                · replace h := h.2 hq
                  refine v_iload (n := 254) dX8_does_252 rfl rfl ?_
                  refine v_if_eq (n := 257) (t := 266) dX8_does_254 rfl (by decide) (fun _ => ?_) (fun hq => absurd (by decide) hq)
                  refine v_aload_n (n := 267) dX8_does_266 rfl rfl ?_
                  refine v_iload_n (n := 268) dX8_does_267 rfl rfl ?_
                  refine v_iload_n (n := 269) dX8_does_268 rfl rfl ?_
                  refine v_callV (n := 272) (k := 10) (b := 0) (i := 0) (As := [.int (μ 33 0 0 e), .int (μ 34 0 0 e)]) (rest := []) dX8_does_269 rfl lk_X8_117 rfl rfl (Nat.le_of_ble_eq_true rfl) ⟨Nat.le_of_ble_eq_true rfl, Nat.le_of_ble_eq_true rfl, Nat.le_of_ble_eq_true rfl, Nat.le_of_ble_eq_true rfl⟩ zokc_10 h (fun v μ1 h => ?_) (fun _ _ hp => False.elim hp)
                  obtain ⟨r1, rfl, h⟩ := h
                  refine v_norm (st' := [.int r1]) (cells' := 0) (slots' := 0) rfl rfl rfl ?_
                  refine v_istore (n := 274) (L' := [(0, .ref (zad G.1 10 0 0)), (1, .int (nI e)), (2, .int (μ 33 0 0 e)), (3, .int (μ 34 0 0 e)), (4, .int (nI 0)), (5, .int (mnp μ j1 j2)), (6, .int r1)]) dX8_does_272 rfl (by decide) rfl ?_
                  refine v_iload (n := 276) dX8_does_274 rfl rfl ?_
                  refine v_if_lt (n := 279) (t := 283) dX8_does_276 rfl (by decide) (fun hq => ?_) (fun hq => ?_)
                  · replace h := h.1 hq
                    refine v_iconst (n := 284) (x := nI 0) dX8_does_283 rfl (by decide) ?_
                    exact v_zret dX8_does_284 rfl (by decide) (Nat.le_of_ble_eq_true rfl) (Nat.le_of_ble_eq_true rfl) h
                  · replace h := h.2 hq
                    refine v_iconst (n := 280) (x := nI 1) dX8_does_279 rfl (by decide) ?_
                    refine v_goto (n := 284) dX8_does_280 (by decide) ?_
                    exact v_zret dX8_does_284 rfl (by decide) (Nat.le_of_ble_eq_true rfl) (Nat.le_of_ble_eq_true rfl) h
              · replace h := h.2 hq
                refine v_iload (n := 237) dX8_does_235 rfl rfl ?_
                refine v_goto (n := 244) dX8_does_237 (by decide) ?_
                refine v_putf (n := 247) dX8_does_244 rfl fw_X8_37 zokc_10 (fun _ => rfl) rfl rfl ?_
                refine v_iload (n := 249) dX8_does_247 rfl rfl ?_
                refine v_if_ne (n := 252) (t := 285) dX8_does_249 rfl (by decide) (fun hq => ?_) (fun hq => ?_)
                · replace h := h.1 hq
                  refine v_iconst (n := 286) (x := nI 0) dX8_does_285 rfl (by decide) ?_
                  exact v_zret dX8_does_286 rfl (by decide) (Nat.le_of_ble_eq_true rfl) (Nat.le_of_ble_eq_true rfl) h
                · replace h := h.2 hq
                  refine v_iload (n := 254) dX8_does_252 rfl rfl ?_
                  refine v_if_eq (n := 257) (t := 266) dX8_does_254 rfl (by decide) (fun _ => ?_) (fun hq => absurd (by decide) hq)
                  refine v_aload_n (n := 267) dX8_does_266 rfl rfl ?_
                  refine v_iload_n (n := 268) dX8_does_267 rfl rfl ?_
                  refine v_iload_n (n := 269) dX8_does_268 rfl rfl ?_
                  refine v_callV (n := 272) (k := 10) (b := 0) (i := 0) (As := [.int (μ 33 0 0 e), .int (μ 34 0 0 e)]) (rest := []) dX8_does_269 rfl lk_X8_117 rfl rfl (Nat.le_of_ble_eq_true rfl) ⟨Nat.le_of_ble_eq_true rfl, Nat.le_of_ble_eq_true rfl, Nat.le_of_ble_eq_true rfl, Nat.le_of_ble_eq_true rfl⟩ zokc_10 h (fun v μ2 h => ?_) (fun _ _ hp => False.elim hp)
                  obtain ⟨r2, rfl, h⟩ := h
                  refine v_norm (st' := [.int r2]) (cells' := 0) (slots' := 0) rfl rfl rfl ?_
                  refine v_istore (n := 274) (L' := [(0, .ref (zad G.1 10 0 0)), (1, .int (nI e)), (2, .int (μ 33 0 0 e)), (3, .int (μ 34 0 0 e)), (4, .int (nI 0)), (5, .int (mnp μ j1 j2)), (6, .int r2)]) dX8_does_272 rfl (by decide) rfl ?_
                  refine v_iload (n := 276) dX8_does_274 rfl rfl ?_
                  refine v_if_lt (n := 279) (t := 283) dX8_does_276 rfl (by decide) (fun hq => ?_) (fun hq => ?_)
                  · replace h := h.1 hq
                    refine v_iconst (n := 284) (x := nI 0) dX8_does_283 rfl (by decide) ?_
                    exact v_zret dX8_does_284 rfl (by decide) (Nat.le_of_ble_eq_true rfl) (Nat.le_of_ble_eq_true rfl) h
                  · replace h := h.2 hq
                    refine v_iconst (n := 280) (x := nI 1) dX8_does_279 rfl (by decide) ?_
                    refine v_goto (n := 284) dX8_does_280 (by decide) ?_
                    exact v_zret dX8_does_284 rfl (by decide) (Nat.le_of_ble_eq_true rfl) (Nat.le_of_ble_eq_true rfl) h
            · replace h := h.2 (bI_f hq)
              refine v_iconst (n := 206) (x := nI 0) dX8_does_205 rfl (by decide) ?_
              exact v_zret dX8_does_206 rfl (by decide) (Nat.le_of_ble_eq_true rfl) (Nat.le_of_ble_eq_true rfl) h
        · replace h := h.2 hq
          refine v_iconst (n := 167) (x := nI 1) dX8_does_166 rfl (by decide) ?_
          refine v_goto (n := 171) dX8_does_167 (by decide) ?_
          refine v_istore (n := 173) (L' := [(0, .ref (zad G.1 10 0 0)), (1, .int (nI e)), (2, .int (μ 33 0 0 e)), (3, .int (μ 34 0 0 e)), (4, .int (nI 1))]) dX8_does_171 rfl (by decide) rfl ?_
          refine v_aload_n (n := 174) dX8_does_173 rfl rfl ?_
          refine v_iload_n (n := 175) dX8_does_174 rfl rfl ?_
          refine v_callV (n := 178) (k := 10) (b := 0) (i := 0) (As := [.int (μ 33 0 0 e)]) (rest := []) dX8_does_175 rfl lk_X8_92 rfl rfl (Nat.le_of_ble_eq_true rfl) ⟨Nat.le_of_ble_eq_true rfl, Nat.le_of_ble_eq_true rfl, Nat.le_of_ble_eq_true rfl, Nat.le_of_ble_eq_true rfl⟩ zokc_10 (s_X8_isGuest G (μ 33 0 0 e) μ) (fun v μ9 hp => ?_) (fun _ _ hp => False.elim hp)
          rw [hp.1, hp.2]
          refine v_norm (st' := [.int (bI (mix μ 5 (μ 33 0 0 e)))]) (cells' := 0) (slots' := 0) rfl rfl rfl ?_
          refine v_if_eq (n := 181) (t := 205) dX8_does_178 rfl (by decide) (fun hq => ?_) (fun hq => ?_)
          · replace h := h.1 (bI_f hq)
            refine v_iconst (n := 206) (x := nI 0) dX8_does_205 rfl (by decide) ?_
            exact v_zret dX8_does_206 rfl (by decide) (Nat.le_of_ble_eq_true rfl) (Nat.le_of_ble_eq_true rfl) h
          · replace h := h.2 (bI_nf hq)
            refine v_iload (n := 183) dX8_does_181 rfl rfl ?_
            refine v_if_eq (n := 186) (t := 197) dX8_does_183 rfl (by decide) (fun hq => absurd hq (by decide)) (fun _ => ?_)
            refine v_aload_n (n := 187) dX8_does_186 rfl rfl ?_
            refine v_iload_n (n := 188) dX8_does_187 rfl rfl ?_
            refine v_callV (n := 191) (k := 10) (b := 0) (i := 0) (As := [.int (μ 34 0 0 e)]) (rest := []) dX8_does_188 rfl lk_X8_74 rfl rfl (Nat.le_of_ble_eq_true rfl) ⟨Nat.le_of_ble_eq_true rfl, Nat.le_of_ble_eq_true rfl, Nat.le_of_ble_eq_true rfl, Nat.le_of_ble_eq_true rfl⟩ zokc_10 (s_X8_isLift G (μ 34 0 0 e) μ) (fun v μ9 hp => ?_) (fun _ _ hp => False.elim hp)
            rw [hp.1, hp.2]
            refine v_norm (st' := [.int (bI (mix μ 3 (μ 34 0 0 e)))]) (cells' := 0) (slots' := 0) rfl rfl rfl ?_
            refine v_if_eq (n := 194) (t := 205) dX8_does_191 rfl (by decide) (fun hq => ?_) (fun hq => ?_)
            · replace h := h.1 (bI_f hq)
              refine v_iconst (n := 206) (x := nI 0) dX8_does_205 rfl (by decide) ?_
              exact v_zret dX8_does_206 rfl (by decide) (Nat.le_of_ble_eq_true rfl) (Nat.le_of_ble_eq_true rfl) h
            · replace h := h.2 (bI_nf hq)
              refine v_goto (n := 207) dX8_does_194 (by decide) ?_
              refine v_iload (n := 209) dX8_does_207 rfl rfl ?_
              refine v_if_eq (n := 212) (t := 221) dX8_does_209 rfl (by decide) (fun hq => absurd hq (by decide)) (fun _ => ?_)
              refine v_aload_n (n := 213) dX8_does_212 rfl rfl ?_
              refine v_iload_n (n := 214) dX8_does_213 rfl rfl ?_
              refine v_iload_n (n := 215) dX8_does_214 rfl rfl ?_
              obtain ⟨j3, ej3, hj3, h⟩ := h
              obtain ⟨j4, ej4, hj4, h⟩ := h
              refine v_callV (n := 218) (k := 10) (b := 0) (i := 0) (As := [.int (μ 33 0 0 e), .int (μ 34 0 0 e)]) (rest := []) dX8_does_215 rfl lk_X8_105 rfl rfl (Nat.le_of_ble_eq_true rfl) ⟨Nat.le_of_ble_eq_true rfl, Nat.le_of_ble_eq_true rfl, Nat.le_of_ble_eq_true rfl, Nat.le_of_ble_eq_true rfl⟩ zokc_10 (s_X8_whyNoLift G (μ 33 0 0 e) j3 ej3 hj3 (μ 34 0 0 e) j4 ej4 hj4 μ) (fun v μ9 hp => ?_) (fun _ _ hp => False.elim hp)
              rw [hp.1, hp.2]
              refine v_norm (st' := [.int (mnl μ j3 j4)]) (cells' := 0) (slots' := 0) rfl rfl rfl ?_
              refine v_goto (n := 227) dX8_does_218 (by decide) ?_
              refine v_istore (n := 229) (L' := [(0, .ref (zad G.1 10 0 0)), (1, .int (nI e)), (2, .int (μ 33 0 0 e)), (3, .int (μ 34 0 0 e)), (4, .int (nI 1)), (5, .int (mnl μ j3 j4))]) dX8_does_227 rfl (by decide) rfl ?_
              refine v_aload_n (n := 230) dX8_does_229 rfl rfl ?_
              refine v_iload (n := 232) dX8_does_230 rfl rfl ?_
              refine v_if_le (n := 235) (t := 240) dX8_does_232 rfl (by decide) (fun hq => ?_) (fun hq => ?_)
              · replace h := h.1 hq
                refine v_aload_n (n := 241) dX8_does_240 rfl rfl ?_
                refine v_getf (n := 244) dX8_does_241 rfl fl_X8_37 zokc_10 (rfl) ?_
                refine v_putf (n := 247) dX8_does_244 rfl fw_X8_37 zokc_10 (fun _ => rfl) rfl rfl ?_
                refine v_iload (n := 249) dX8_does_247 rfl rfl ?_
                refine v_if_ne (n := 252) (t := 285) dX8_does_249 rfl (by decide) (fun hq => ?_) (fun hq => ?_)
                · replace h := h.1 hq
                  refine v_iconst (n := 286) (x := nI 0) dX8_does_285 rfl (by decide) ?_
                  exact v_zret dX8_does_286 rfl (by decide) (Nat.le_of_ble_eq_true rfl) (Nat.le_of_ble_eq_true rfl) h
                · replace h := h.2 hq
                  refine v_iload (n := 254) dX8_does_252 rfl rfl ?_
                  refine v_if_eq (n := 257) (t := 266) dX8_does_254 rfl (by decide) (fun hq => absurd hq (by decide)) (fun _ => ?_)
                  refine v_aload_n (n := 258) dX8_does_257 rfl rfl ?_
                  refine v_iload_n (n := 259) dX8_does_258 rfl rfl ?_
                  refine v_iload_n (n := 260) dX8_does_259 rfl rfl ?_
                  refine v_callV (n := 263) (k := 10) (b := 0) (i := 0) (As := [.int (μ 33 0 0 e), .int (μ 34 0 0 e)]) (rest := []) dX8_does_260 rfl lk_X8_111 rfl rfl (Nat.le_of_ble_eq_true rfl) ⟨Nat.le_of_ble_eq_true rfl, Nat.le_of_ble_eq_true rfl, Nat.le_of_ble_eq_true rfl, Nat.le_of_ble_eq_true rfl⟩ zokc_10 h (fun v μ3 h => ?_) (fun _ _ hp => False.elim hp)
                  obtain ⟨r3, rfl, h⟩ := h
                  refine v_norm (st' := [.int r3]) (cells' := 0) (slots' := 0) rfl rfl rfl ?_
                  refine v_goto (n := 272) dX8_does_263 (by decide) ?_
                  refine v_istore (n := 274) (L' := [(0, .ref (zad G.1 10 0 0)), (1, .int (nI e)), (2, .int (μ 33 0 0 e)), (3, .int (μ 34 0 0 e)), (4, .int (nI 1)), (5, .int (mnl μ j3 j4)), (6, .int r3)]) dX8_does_272 rfl (by decide) rfl ?_
                  refine v_iload (n := 276) dX8_does_274 rfl rfl ?_
                  refine v_if_lt (n := 279) (t := 283) dX8_does_276 rfl (by decide) (fun hq => ?_) (fun hq => ?_)
                  · replace h := h.1 hq
                    refine v_iconst (n := 284) (x := nI 0) dX8_does_283 rfl (by decide) ?_
                    exact v_zret dX8_does_284 rfl (by decide) (Nat.le_of_ble_eq_true rfl) (Nat.le_of_ble_eq_true rfl) h
                  · replace h := h.2 hq
                    refine v_iconst (n := 280) (x := nI 1) dX8_does_279 rfl (by decide) ?_
                    refine v_goto (n := 284) dX8_does_280 (by decide) ?_
                    exact v_zret dX8_does_284 rfl (by decide) (Nat.le_of_ble_eq_true rfl) (Nat.le_of_ble_eq_true rfl) h
              · replace h := h.2 hq
                refine v_iload (n := 237) dX8_does_235 rfl rfl ?_
                refine v_goto (n := 244) dX8_does_237 (by decide) ?_
                refine v_putf (n := 247) dX8_does_244 rfl fw_X8_37 zokc_10 (fun _ => rfl) rfl rfl ?_
                refine v_iload (n := 249) dX8_does_247 rfl rfl ?_
                refine v_if_ne (n := 252) (t := 285) dX8_does_249 rfl (by decide) (fun hq => ?_) (fun hq => ?_)
                · replace h := h.1 hq
                  refine v_iconst (n := 286) (x := nI 0) dX8_does_285 rfl (by decide) ?_
                  exact v_zret dX8_does_286 rfl (by decide) (Nat.le_of_ble_eq_true rfl) (Nat.le_of_ble_eq_true rfl) h
                · replace h := h.2 hq
                  refine v_iload (n := 254) dX8_does_252 rfl rfl ?_
                  refine v_if_eq (n := 257) (t := 266) dX8_does_254 rfl (by decide) (fun hq => absurd hq (by decide)) (fun _ => ?_)
                  refine v_aload_n (n := 258) dX8_does_257 rfl rfl ?_
                  refine v_iload_n (n := 259) dX8_does_258 rfl rfl ?_
                  refine v_iload_n (n := 260) dX8_does_259 rfl rfl ?_
                  refine v_callV (n := 263) (k := 10) (b := 0) (i := 0) (As := [.int (μ 33 0 0 e), .int (μ 34 0 0 e)]) (rest := []) dX8_does_260 rfl lk_X8_111 rfl rfl (Nat.le_of_ble_eq_true rfl) ⟨Nat.le_of_ble_eq_true rfl, Nat.le_of_ble_eq_true rfl, Nat.le_of_ble_eq_true rfl, Nat.le_of_ble_eq_true rfl⟩ zokc_10 h (fun v μ4 h => ?_) (fun _ _ hp => False.elim hp)
                  obtain ⟨r4, rfl, h⟩ := h
                  refine v_norm (st' := [.int r4]) (cells' := 0) (slots' := 0) rfl rfl rfl ?_
                  refine v_goto (n := 272) dX8_does_263 (by decide) ?_
                  refine v_istore (n := 274) (L' := [(0, .ref (zad G.1 10 0 0)), (1, .int (nI e)), (2, .int (μ 33 0 0 e)), (3, .int (μ 34 0 0 e)), (4, .int (nI 1)), (5, .int (mnl μ j3 j4)), (6, .int r4)]) dX8_does_272 rfl (by decide) rfl ?_
                  refine v_iload (n := 276) dX8_does_274 rfl rfl ?_
                  refine v_if_lt (n := 279) (t := 283) dX8_does_276 rfl (by decide) (fun hq => ?_) (fun hq => ?_)
                  · replace h := h.1 hq
                    refine v_iconst (n := 284) (x := nI 0) dX8_does_283 rfl (by decide) ?_
                    exact v_zret dX8_does_284 rfl (by decide) (Nat.le_of_ble_eq_true rfl) (Nat.le_of_ble_eq_true rfl) h
                  · replace h := h.2 hq
                    refine v_iconst (n := 280) (x := nI 1) dX8_does_279 rfl (by decide) ?_
                    refine v_goto (n := 284) dX8_does_280 (by decide) ?_
                    exact v_zret dX8_does_284 rfl (by decide) (Nat.le_of_ble_eq_true rfl) (Nat.le_of_ble_eq_true rfl) h
      · replace h := h.2 hq
        refine v_aload_n (n := 110) dX8_does_109 rfl rfl ?_
        refine v_getf (n := 113) dX8_does_110 rfl fl_X8_9 zokc_10 rfl ?_
        refine v_iconst (n := 114) (x := nI 5) dX8_does_113 rfl (by decide) ?_
        refine v_iald (n := 115) (j := 5) dX8_does_114 rfl zokc_26 (by decide) rfl rfl (by decide) (rfl) ?_
        refine v_bipush (n := 117) (x := nI 16) dX8_does_115 rfl (by decide) ?_
        refine v_icmp_ge (n := 120) (t := 124) dX8_does_117 rfl (by decide) (fun hq => ?_) (fun hq => ?_)
        · replace h := h.1 hq
          refine v_iconst (n := 125) (x := nI 0) dX8_does_124 rfl (by decide) ?_
          refine v_istore (n := 127) (L' := [(0, .ref (zad G.1 10 0 0)), (1, .int (nI e)), (2, .int (μ 33 0 0 e)), (3, .int (μ 34 0 0 e)), (4, .int (nI 0))]) dX8_does_125 rfl (by decide) rfl ?_
          refine v_iload (n := 129) dX8_does_127 rfl rfl ?_
          refine v_if_eq (n := 132) (t := 152) dX8_does_129 rfl (by decide) (fun _ => ?_) (fun hq => absurd (by decide) hq)
          refine v_iload (n := 154) dX8_does_152 rfl rfl ?_
          exact v_zret dX8_does_154 rfl (by decide) (Nat.le_of_ble_eq_true rfl) (Nat.le_of_ble_eq_true rfl) h
        · replace h := h.2 hq
          refine v_iconst (n := 121) (x := nI 1) dX8_does_120 rfl (by decide) ?_
          refine v_goto (n := 125) dX8_does_121 (by decide) ?_
          refine v_istore (n := 127) (L' := [(0, .ref (zad G.1 10 0 0)), (1, .int (nI e)), (2, .int (μ 33 0 0 e)), (3, .int (μ 34 0 0 e)), (4, .int (nI 1))]) dX8_does_125 rfl (by decide) rfl ?_
          refine v_iload (n := 129) dX8_does_127 rfl rfl ?_
          refine v_if_eq (n := 132) (t := 152) dX8_does_129 rfl (by decide) (fun hq => absurd hq (by decide)) (fun _ => ?_)
          refine v_aload_n (n := 133) dX8_does_132 rfl rfl ?_
          refine v_iload_n (n := 134) dX8_does_133 rfl rfl ?_
          refine v_iload_n (n := 135) dX8_does_134 rfl rfl ?_
          refine v_bipush (n := 137) (x := nI 15) dX8_does_135 rfl (by decide) ?_
          refine v_aload_n (n := 138) dX8_does_137 rfl rfl ?_
          refine v_getf (n := 141) dX8_does_138 rfl fl_X8_9 zokc_10 rfl ?_
          refine v_iconst (n := 142) (x := nI 2) dX8_does_141 rfl (by decide) ?_
          refine v_iald (n := 143) (j := 2) dX8_does_142 rfl zokc_26 (by decide) rfl rfl (by decide) (rfl) ?_
          refine v_aload_n (n := 144) dX8_does_143 rfl rfl ?_
          refine v_getf (n := 147) dX8_does_144 rfl fl_X8_9 zokc_10 rfl ?_
          refine v_iconst (n := 148) (x := nI 2) dX8_does_147 rfl (by decide) ?_
          refine v_iald (n := 149) (j := 2) dX8_does_148 rfl zokc_26 (by decide) rfl rfl (by decide) (rfl) ?_
          refine v_callV (n := 152) (k := 10) (b := 0) (i := 0) (As := [.int (μ 33 0 0 e), .int (μ 34 0 0 e), .int (nI 15), .int (μ 26 0 0 2), .int (μ 26 0 0 2)]) (rest := []) dX8_does_149 rfl lk_X8_88 rfl rfl (Nat.le_of_ble_eq_true rfl) ⟨Nat.le_of_ble_eq_true rfl, Nat.le_of_ble_eq_true rfl, Nat.le_of_ble_eq_true rfl, Nat.le_of_ble_eq_true rfl⟩ zokc_10 h (fun v μ5 h => ?_) (fun _ _ hp => False.elim hp)
          obtain ⟨rfl, h⟩ := h
          refine v_norm (st' := []) (cells' := 0) (slots' := 0) rfl rfl rfl ?_
          refine v_iload (n := 154) dX8_does_152 rfl rfl ?_
          exact v_zret dX8_does_154 rfl (by decide) (Nat.le_of_ble_eq_true rfl) (Nat.le_of_ble_eq_true rfl) h
    · replace h := h.2 hq
      refine v_aload_n (n := 46) dX8_does_45 rfl rfl ?_
      refine v_getf (n := 49) dX8_does_46 rfl fl_X8_9 zokc_10 rfl ?_
      refine v_iconst (n := 50) (x := nI 1) dX8_does_49 rfl (by decide) ?_
      refine v_iald (n := 51) (j := 1) dX8_does_50 rfl zokc_26 (by decide) rfl rfl (by decide) (rfl) ?_
      refine v_iload_n (n := 52) dX8_does_51 rfl rfl ?_
      refine v_iadd (n := 53) dX8_does_52 rfl ?_
      refine v_sipush (n := 56) (x := nI 1000) dX8_does_53 rfl (by decide) ?_
      refine v_icmp_gt (n := 59) (t := 63) dX8_does_56 rfl (by decide) (fun hq => ?_) (fun hq => ?_)
      · replace h := h.1 hq
        refine v_iconst (n := 64) (x := nI 0) dX8_does_63 rfl (by decide) ?_
        refine v_istore (n := 66) (L' := [(0, .ref (zad G.1 10 0 0)), (1, .int (nI e)), (2, .int (μ 33 0 0 e)), (3, .int (μ 34 0 0 e)), (4, .int (nI 0))]) dX8_does_64 rfl (by decide) rfl ?_
        refine v_iload (n := 68) dX8_does_66 rfl rfl ?_
        refine v_if_eq (n := 71) (t := 79) dX8_does_68 rfl (by decide) (fun _ => ?_) (fun hq => absurd (by decide) hq)
        refine v_iconst (n := 80) (x := nI 0) dX8_does_79 rfl (by decide) ?_
        refine v_istore (n := 82) (L' := [(0, .ref (zad G.1 10 0 0)), (1, .int (nI e)), (2, .int (μ 33 0 0 e)), (3, .int (μ 34 0 0 e)), (4, .int (nI 0)), (5, .int (nI 0))]) dX8_does_80 rfl (by decide) rfl ?_
        refine v_iload (n := 84) dX8_does_82 rfl rfl ?_
        refine v_if_eq (n := 87) (t := 96) dX8_does_84 rfl (by decide) (fun _ => ?_) (fun hq => absurd (by decide) hq)
        refine v_iconst (n := 97) (x := nI 0) dX8_does_96 rfl (by decide) ?_
        exact v_zret dX8_does_97 rfl (by decide) (Nat.le_of_ble_eq_true rfl) (Nat.le_of_ble_eq_true rfl) h
      · replace h := h.2 hq
        refine v_iconst (n := 60) (x := nI 1) dX8_does_59 rfl (by decide) ?_
        refine v_goto (n := 64) dX8_does_60 (by decide) ?_
        refine v_istore (n := 66) (L' := [(0, .ref (zad G.1 10 0 0)), (1, .int (nI e)), (2, .int (μ 33 0 0 e)), (3, .int (μ 34 0 0 e)), (4, .int (nI 1))]) dX8_does_64 rfl (by decide) rfl ?_
        refine v_iload (n := 68) dX8_does_66 rfl rfl ?_
        refine v_if_eq (n := 71) (t := 79) dX8_does_68 rfl (by decide) (fun hq => absurd hq (by decide)) (fun _ => ?_)
        refine v_aload_n (n := 72) dX8_does_71 rfl rfl ?_
        refine v_iload_n (n := 73) dX8_does_72 rfl rfl ?_
        refine v_callV (n := 76) (k := 10) (b := 0) (i := 0) (As := [.int (μ 33 0 0 e)]) (rest := []) dX8_does_73 rfl lk_X8_146 rfl rfl (Nat.le_of_ble_eq_true rfl) ⟨Nat.le_of_ble_eq_true rfl, Nat.le_of_ble_eq_true rfl, Nat.le_of_ble_eq_true rfl, Nat.le_of_ble_eq_true rfl⟩ zokc_10 h (fun v μ6 h => ?_) (fun _ _ hp => False.elim hp)
        obtain ⟨r5, rfl, h⟩ := h
        refine v_norm (st' := [.int r5]) (cells' := 0) (slots' := 0) rfl rfl rfl ?_
        refine v_goto (n := 80) dX8_does_76 (by decide) ?_
        refine v_istore (n := 82) (L' := [(0, .ref (zad G.1 10 0 0)), (1, .int (nI e)), (2, .int (μ 33 0 0 e)), (3, .int (μ 34 0 0 e)), (4, .int (nI 1)), (5, .int r5)]) dX8_does_80 rfl (by decide) rfl ?_
        refine v_iload (n := 84) dX8_does_82 rfl rfl ?_
        refine v_if_eq (n := 87) (t := 96) dX8_does_84 rfl (by decide) (fun hq => absurd hq (by decide)) (fun _ => ?_)
        refine v_iload (n := 89) dX8_does_87 rfl rfl ?_
        refine v_if_lt (n := 92) (t := 96) dX8_does_89 rfl (by decide) (fun hq => ?_) (fun hq => ?_)
        · replace h := h.1 hq
          refine v_iconst (n := 97) (x := nI 0) dX8_does_96 rfl (by decide) ?_
          exact v_zret dX8_does_97 rfl (by decide) (Nat.le_of_ble_eq_true rfl) (Nat.le_of_ble_eq_true rfl) h
        · replace h := h.2 hq
          refine v_iconst (n := 93) (x := nI 1) dX8_does_92 rfl (by decide) ?_
          refine v_goto (n := 97) dX8_does_93 (by decide) ?_
          exact v_zret dX8_does_97 rfl (by decide) (Nat.le_of_ble_eq_true rfl) (Nat.le_of_ble_eq_true rfl) h
  · replace h := h.2 hq
    refine v_aload_n (n := 26) dX8_does_25 rfl rfl ?_
    refine v_getf (n := 29) dX8_does_26 rfl fl_X8_9 zokc_10 rfl ?_
    refine v_iconst (n := 30) (x := nI 0) dX8_does_29 rfl (by decide) ?_
    refine v_iload_n (n := 31) dX8_does_30 rfl rfl ?_
    refine v_iast (n := 32) (j := 0) dX8_does_31 rfl zokc_26 (by decide) (by decide) rfl rfl (by decide) (fun _ => rfl) ?_
    refine v_iconst (n := 33) (x := nI 1) dX8_does_32 rfl (by decide) ?_
    exact v_zret dX8_does_33 rfl (by decide) (Nat.le_of_ble_eq_true rfl) (Nat.le_of_ble_eq_true rfl) h

set_option maxRecDepth 20000 in
set_option maxHeartbeats 4000000 in
theorem wX8_read (G : Gl) {P : Option Value → St → Prop} {X : String → St → Prop}  (μ : St)
    (h : Con G mX8_isText [.ref (zad G.1 10 0 0)] (up μ 10 0 0 6 (nI 0)) (fun v μ1 => ∃ r1 : Bool, v = some (.int (bI r1)) ∧ ((r1 = true → Con G mX8_layAside [.ref (zad G.1 10 0 0)] (up μ1 10 0 0 10 (nI 0)) (fun v μ2 => v = none ∧ VL G mX8_read P X 44 [(0, .ref (zad G.1 10 0 0)), (1, .int (bI r1)), (2, .int (nI 0))] [] μ2) noX) ∧ (r1 = false → P (some (.int (nI 0))) (up (up (up (up μ1 10 0 0 10 (nI 0)) 10 0 0 14 (nI 1)) 10 0 0 15 (μ1 10 0 0 12)) 10 0 0 6 (nI 1))))) noX) :
    Con G mX8_read [.ref (zad G.1 10 0 0)] μ P X := by
  refine con_of pn_X8 rfl (Nat.le_of_ble_eq_true rfl) ?_
  show VL G mX8_read P X 0 [(0, .ref (zad G.1 10 0 0))] [] μ
  refine v_aload_n (n := 1) dX8_read_0 rfl rfl ?_
  refine v_iconst (n := 2) (x := nI 0) dX8_read_1 rfl (by decide) ?_
  refine v_putf (n := 5) dX8_read_2 rfl fw_X8_41 zokc_10 (fun _ => rfl) rfl rfl ?_
  refine v_aload_n (n := 6) dX8_read_5 rfl rfl ?_
  refine v_callV (n := 9) (k := 10) (b := 0) (i := 0) (As := []) (rest := []) dX8_read_6 rfl lk_X8_200 rfl rfl (Nat.le_of_ble_eq_true rfl) ⟨Nat.le_of_ble_eq_true rfl, Nat.le_of_ble_eq_true rfl, Nat.le_of_ble_eq_true rfl, Nat.le_of_ble_eq_true rfl⟩ zokc_10 h (fun v μ1 h => ?_) (fun _ _ hp => False.elim hp)
  obtain ⟨r1, rfl, h⟩ := h
  refine v_norm (st' := [.int (bI r1)]) (cells' := 0) (slots' := 0) rfl rfl rfl ?_
  refine v_istore_n (n := 10) (L' := [(0, .ref (zad G.1 10 0 0)), (1, .int (bI r1))]) dX8_read_9 rfl (by decide) rfl ?_
  refine v_aload_n (n := 11) dX8_read_10 rfl rfl ?_
  refine v_iconst (n := 12) (x := nI 0) dX8_read_11 rfl (by decide) ?_
  refine v_putf (n := 15) dX8_read_12 rfl fw_X8_172 zokc_10 (fun _ => rfl) rfl rfl ?_
  refine v_iload_n (n := 16) dX8_read_15 rfl rfl ?_
  refine v_if_ne (n := 19) (t := 38) dX8_read_16 rfl (by decide) (fun hq => ?_) (fun hq => ?_)
  · replace h := h.1 (bI_nf hq)
    refine v_aload_n (n := 39) dX8_read_38 rfl rfl ?_
    refine v_callV (n := 42) (k := 10) (b := 0) (i := 0) (As := []) (rest := []) dX8_read_39 rfl lk_X8_149 rfl rfl (Nat.le_of_ble_eq_true rfl) ⟨Nat.le_of_ble_eq_true rfl, Nat.le_of_ble_eq_true rfl, Nat.le_of_ble_eq_true rfl, Nat.le_of_ble_eq_true rfl⟩ zokc_10 h (fun v μ2 h => ?_) (fun _ _ hp => False.elim hp)
    obtain ⟨rfl, h⟩ := h
    refine v_norm (st' := []) (cells' := 0) (slots' := 0) rfl rfl rfl ?_
    refine v_iconst (n := 43) (x := nI 0) dX8_read_42 rfl (by decide) ?_
    refine v_istore_n (n := 44) (L' := [(0, .ref (zad G.1 10 0 0)), (1, .int (bI r1)), (2, .int (nI 0))]) dX8_read_43 rfl (by decide) rfl ?_
    exact h
  · replace h := h.2 (bI_f hq)
    refine v_aload_n (n := 20) dX8_read_19 rfl rfl ?_
    refine v_iconst (n := 21) (x := nI 1) dX8_read_20 rfl (by decide) ?_
    refine v_putf (n := 24) dX8_read_21 rfl fw_X8_204 zokc_10 (fun _ => rfl) (by decide) (by decide) ?_
    refine v_aload_n (n := 25) dX8_read_24 rfl rfl ?_
    refine v_aload_n (n := 26) dX8_read_25 rfl rfl ?_
    refine v_getf (n := 29) dX8_read_26 rfl fl_X8_175 zokc_10 (congrArg Value.int ((up_sl (by decide)).trans (up_sl (by decide)))) ?_
    refine v_putf (n := 32) dX8_read_29 rfl fw_X8_207 zokc_10 (fun _ => rfl) rfl rfl ?_
    refine v_aload_n (n := 33) dX8_read_32 rfl rfl ?_
    refine v_iconst (n := 34) (x := nI 1) dX8_read_33 rfl (by decide) ?_
    refine v_callV (n := 37) (k := 10) (b := 0) (i := 0) (As := [.int (nI 1)]) (rest := []) dX8_read_34 rfl lk_X8_62 rfl rfl (Nat.le_of_ble_eq_true rfl) ⟨Nat.le_of_ble_eq_true rfl, Nat.le_of_ble_eq_true rfl, Nat.le_of_ble_eq_true rfl, Nat.le_of_ble_eq_true rfl⟩ zokc_10 (s_X8_refuse G (nI 1) (up (up (up μ1 10 0 0 10 (nI 0)) 10 0 0 14 (nI 1)) 10 0 0 15 (μ1 10 0 0 12))) (fun v μ9 hp => ?_) (fun _ _ hp => False.elim hp)
    rw [hp.1, hp.2]
    refine v_norm (st' := [.int (nI 0)]) (cells' := 0) (slots' := 0) rfl rfl rfl ?_
    exact v_iret dX8_read_37 rfl (Nat.le_of_ble_eq_true rfl) (Nat.le_of_ble_eq_true rfl) h

set_option maxRecDepth 20000 in
set_option maxHeartbeats 4000000 in
theorem wX8_read_44 (G : Gl) {P : Option Value → St → Prop} {X : String → St → Prop} (y1 : Bool) (i2 : Nat) (μ : St)
    (h : ((μ 10 0 0 16 ≤ nI i2 → ((¬ μ 10 0 0 4 = nI 8 → VL G mX8_read P X 128 [(0, .ref (zad G.1 10 0 0)), (1, .int (bI y1)), (2, .int (nI 0))] [] μ) ∧ (μ 10 0 0 4 = nI 8 → VL G mX8_read P X 87 [(0, .ref (zad G.1 10 0 0)), (1, .int (bI y1)), (2, .int (nI 0))] [] μ))) ∧ (¬ μ 10 0 0 16 ≤ nI i2 → Con G mX8_does [.ref (zad G.1 10 0 0), .int (nI i2)] μ (fun v μ1 => ∃ r1 : Bool, v = some (.int (bI r1)) ∧ ((r1 = true → VL G mX8_read P X 44 [(0, .ref (zad G.1 10 0 0)), (1, .int (bI y1)), (2, .int (nI (i2 + 1)))] [] μ1) ∧ (r1 = false → Con G mX8_takeBack [.ref (zad G.1 10 0 0)] μ1 (fun v μ2 => v = none ∧ P (some (.int (nI 0))) (up μ2 10 0 0 6 (nI 2))) noX))) noX))) :
    VL G mX8_read P X 44 [(0, .ref (zad G.1 10 0 0)), (1, .int (bI y1)), (2, .int (nI i2))] [] μ := by
  refine v_iload_n (n := 45) dX8_read_44 rfl rfl ?_
  refine v_aload_n (n := 46) dX8_read_45 rfl rfl ?_
  refine v_getf (n := 49) dX8_read_46 rfl fl_X8_188 zokc_10 (rfl) ?_
  refine v_icmp_ge (n := 52) (t := 76) dX8_read_49 rfl (by decide) (fun hq => ?_) (fun hq => ?_)
  · replace h := h.1 hq
    refine v_aload_n (n := 77) dX8_read_76 rfl rfl ?_
    refine v_getf (n := 80) dX8_read_77 rfl fl_X8_44 zokc_10 (rfl) ?_
    refine v_bipush (n := 82) (x := nI 8) dX8_read_80 rfl (by decide) ?_
    refine v_icmp_ne (n := 85) (t := 126) dX8_read_82 rfl (by decide) (fun hq => ?_) (fun hq => ?_)
    · replace h := h.1 hq
      refine v_iconst (n := 127) (x := nI 0) dX8_read_126 rfl (by decide) ?_
      refine v_istore_n (n := 128) (L' := [(0, .ref (zad G.1 10 0 0)), (1, .int (bI y1)), (2, .int (nI 0))]) dX8_read_127 rfl (by decide) rfl ?_
      exact h
    · replace h := h.2 hq
      refine v_iconst (n := 86) (x := nI 0) dX8_read_85 rfl (by decide) ?_
      refine v_istore_n (n := 87) (L' := [(0, .ref (zad G.1 10 0 0)), (1, .int (bI y1)), (2, .int (nI 0))]) dX8_read_86 rfl (by decide) rfl ?_
      exact h
  · replace h := h.2 hq
    refine v_aload_n (n := 53) dX8_read_52 rfl rfl ?_
    refine v_iload_n (n := 54) dX8_read_53 rfl rfl ?_
    refine v_callV (n := 57) (k := 10) (b := 0) (i := 0) (As := [.int (nI i2)]) (rest := []) dX8_read_54 rfl lk_X8_210 rfl rfl (Nat.le_of_ble_eq_true rfl) ⟨Nat.le_of_ble_eq_true rfl, Nat.le_of_ble_eq_true rfl, Nat.le_of_ble_eq_true rfl, Nat.le_of_ble_eq_true rfl⟩ zokc_10 h (fun v μ1 h => ?_) (fun _ _ hp => False.elim hp)
    obtain ⟨r1, rfl, h⟩ := h
    refine v_norm (st' := [.int (bI r1)]) (cells' := 0) (slots' := 0) rfl rfl rfl ?_
    refine v_if_ne (n := 60) (t := 70) dX8_read_57 rfl (by decide) (fun hq => ?_) (fun hq => ?_)
    · replace h := h.1 (bI_nf hq)
      refine v_iinc (n := 73) (x := nI i2) (y := nI (i2 + 1)) (L' := [(0, .ref (zad G.1 10 0 0)), (1, .int (bI y1)), (2, .int (nI (i2 + 1)))]) dX8_read_70 rfl rfl (nI_1 i2) (by decide) rfl ?_
      refine v_goto (n := 44) dX8_read_73 (by decide) ?_
      exact h
    · replace h := h.2 (bI_f hq)
      refine v_aload_n (n := 61) dX8_read_60 rfl rfl ?_
      refine v_callV (n := 64) (k := 10) (b := 0) (i := 0) (As := []) (rest := []) dX8_read_61 rfl lk_X8_152 rfl rfl (Nat.le_of_ble_eq_true rfl) ⟨Nat.le_of_ble_eq_true rfl, Nat.le_of_ble_eq_true rfl, Nat.le_of_ble_eq_true rfl, Nat.le_of_ble_eq_true rfl⟩ zokc_10 h (fun v μ2 h => ?_) (fun _ _ hp => False.elim hp)
      obtain ⟨rfl, h⟩ := h
      refine v_norm (st' := []) (cells' := 0) (slots' := 0) rfl rfl rfl ?_
      refine v_aload_n (n := 65) dX8_read_64 rfl rfl ?_
      refine v_iconst (n := 66) (x := nI 2) dX8_read_65 rfl (by decide) ?_
      refine v_callV (n := 69) (k := 10) (b := 0) (i := 0) (As := [.int (nI 2)]) (rest := []) dX8_read_66 rfl lk_X8_62 rfl rfl (Nat.le_of_ble_eq_true rfl) ⟨Nat.le_of_ble_eq_true rfl, Nat.le_of_ble_eq_true rfl, Nat.le_of_ble_eq_true rfl, Nat.le_of_ble_eq_true rfl⟩ zokc_10 (s_X8_refuse G (nI 2) μ2) (fun v μ9 hp => ?_) (fun _ _ hp => False.elim hp)
      rw [hp.1, hp.2]
      refine v_norm (st' := [.int (nI 0)]) (cells' := 0) (slots' := 0) rfl rfl rfl ?_
      exact v_iret dX8_read_69 rfl (Nat.le_of_ble_eq_true rfl) (Nat.le_of_ble_eq_true rfl) h

set_option maxRecDepth 20000 in
set_option maxHeartbeats 4000000 in
theorem wX8_read_87 (G : Gl) {P : Option Value → St → Prop} {X : String → St → Prop} (y1 : Bool) (i2 : Nat) (μ : St)
    (h : ((nI 2604 ≤ nI i2 → VL G mX8_read P X 128 [(0, .ref (zad G.1 10 0 0)), (1, .int (bI y1)), (2, .int (nI 0))] [] (up μ 10 0 0 4 ((μ 10 0 0 4) - (nI 1)))) ∧ (¬ nI 2604 ≤ nI i2 → i2 + 372 < 2976 ∧ i2 < 2976 ∧ VL G mX8_read P X 87 [(0, .ref (zad G.1 10 0 0)), (1, .int (bI y1)), (2, .int (nI (i2 + 1)))] [] (up μ 28 0 0 i2 (μ 28 0 0 (i2 + 372)))))) :
    VL G mX8_read P X 87 [(0, .ref (zad G.1 10 0 0)), (1, .int (bI y1)), (2, .int (nI i2))] [] μ := by
  refine v_iload_n (n := 88) dX8_read_87 rfl rfl ?_
  refine v_sipush (n := 91) (x := nI 2604) dX8_read_88 rfl (by decide) ?_
  refine v_icmp_ge (n := 94) (t := 116) dX8_read_91 rfl (by decide) (fun hq => ?_) (fun hq => ?_)
  · replace h := h.1 hq
    refine v_aload_n (n := 117) dX8_read_116 rfl rfl ?_
    refine v_dup (n := 118) dX8_read_117 rfl rfl ?_
    refine v_getf (n := 121) dX8_read_118 rfl fl_X8_44 zokc_10 (rfl) ?_
    refine v_iconst (n := 122) (x := nI 1) dX8_read_121 rfl (by decide) ?_
    refine v_isub (n := 123) dX8_read_122 rfl ?_
    refine v_putf (n := 126) dX8_read_123 rfl fw_X8_44 zokc_10 (fun _ => rfl) rfl rfl ?_
    refine v_iconst (n := 127) (x := nI 0) dX8_read_126 rfl (by decide) ?_
    refine v_istore_n (n := 128) (L' := [(0, .ref (zad G.1 10 0 0)), (1, .int (bI y1)), (2, .int (nI 0))]) dX8_read_127 rfl (by decide) rfl ?_
    exact h
  · replace h := h.2 hq
    refine v_aload_n (n := 95) dX8_read_94 rfl rfl ?_
    refine v_getf (n := 98) dX8_read_95 rfl fl_X8_16 zokc_10 rfl ?_
    refine v_iload_n (n := 99) dX8_read_98 rfl rfl ?_
    refine v_aload_n (n := 100) dX8_read_99 rfl rfl ?_
    refine v_getf (n := 103) dX8_read_100 rfl fl_X8_16 zokc_10 rfl ?_
    refine v_iload_n (n := 104) dX8_read_103 rfl rfl ?_
    refine v_sipush (n := 107) (x := nI 372) dX8_read_104 rfl (by decide) ?_
    refine v_iadd (n := 108) dX8_read_107 rfl ?_
    refine v_top (y := nI (i2 + 372)) (nI_add i2 372) ?_
    obtain ⟨hf1, h⟩ := h
    refine v_iald (n := 109) (j := (i2 + 372)) dX8_read_108 rfl zokc_28 (by decide) rfl rfl hf1 (rfl) ?_
    obtain ⟨hf2, h⟩ := h
    refine v_iast (n := 110) (j := i2) dX8_read_109 rfl zokc_28 (by decide) (by decide) rfl rfl hf2 (fun _ => rfl) ?_
    refine v_iinc (n := 113) (x := nI i2) (y := nI (i2 + 1)) (L' := [(0, .ref (zad G.1 10 0 0)), (1, .int (bI y1)), (2, .int (nI (i2 + 1)))]) dX8_read_110 rfl rfl (nI_1 i2) (by decide) rfl ?_
    refine v_goto (n := 87) dX8_read_113 (by decide) ?_
    exact h

set_option maxRecDepth 20000 in
set_option maxHeartbeats 4000000 in
theorem wX8_read_128 (G : Gl) {P : Option Value → St → Prop} {X : String → St → Prop} (y1 : Bool) (i2 : Nat) (μ : St)
    (h : ((nI 372 ≤ nI i2 → P (some (.int (μ 10 0 0 16))) (up μ 10 0 0 4 ((μ 10 0 0 4) + (nI 1)))) ∧ (¬ nI 372 ≤ nI i2 → i2 < 372 ∧ ∃ j1 : Nat, ((nI 372) * (μ 10 0 0 4)) + (nI i2) = nI j1 ∧ j1 < 2976 ∧ VL G mX8_read P X 128 [(0, .ref (zad G.1 10 0 0)), (1, .int (bI y1)), (2, .int (nI (i2 + 1)))] [] (up μ 28 0 0 j1 (μ 29 0 0 i2))))) :
    VL G mX8_read P X 128 [(0, .ref (zad G.1 10 0 0)), (1, .int (bI y1)), (2, .int (nI i2))] [] μ := by
  refine v_iload_n (n := 129) dX8_read_128 rfl rfl ?_
  refine v_sipush (n := 132) (x := nI 372) dX8_read_129 rfl (by decide) ?_
  refine v_icmp_ge (n := 135) (t := 162) dX8_read_132 rfl (by decide) (fun hq => ?_) (fun hq => ?_)
  · replace h := h.1 hq
    refine v_aload_n (n := 163) dX8_read_162 rfl rfl ?_
    refine v_dup (n := 164) dX8_read_163 rfl rfl ?_
    refine v_getf (n := 167) dX8_read_164 rfl fl_X8_44 zokc_10 (rfl) ?_
    refine v_iconst (n := 168) (x := nI 1) dX8_read_167 rfl (by decide) ?_
    refine v_iadd (n := 169) dX8_read_168 rfl ?_
    refine v_putf (n := 172) dX8_read_169 rfl fw_X8_44 zokc_10 (fun _ => rfl) rfl rfl ?_
    refine v_aload_n (n := 173) dX8_read_172 rfl rfl ?_
    refine v_getf (n := 176) dX8_read_173 rfl fl_X8_188 zokc_10 (congrArg Value.int (up_sl (by decide))) ?_
    exact v_iret dX8_read_176 rfl (Nat.le_of_ble_eq_true rfl) (Nat.le_of_ble_eq_true rfl) h
  · replace h := h.2 hq
    refine v_aload_n (n := 136) dX8_read_135 rfl rfl ?_
    refine v_getf (n := 139) dX8_read_136 rfl fl_X8_16 zokc_10 rfl ?_
    refine v_sipush (n := 142) (x := nI 372) dX8_read_139 rfl (by decide) ?_
    refine v_aload_n (n := 143) dX8_read_142 rfl rfl ?_
    refine v_getf (n := 146) dX8_read_143 rfl fl_X8_44 zokc_10 (rfl) ?_
    refine v_imul (n := 147) dX8_read_146 rfl ?_
    refine v_iload_n (n := 148) dX8_read_147 rfl rfl ?_
    refine v_iadd (n := 149) dX8_read_148 rfl ?_
    refine v_aload_n (n := 150) dX8_read_149 rfl rfl ?_
    refine v_getf (n := 153) dX8_read_150 rfl fl_X8_19 zokc_10 rfl ?_
    refine v_iload_n (n := 154) dX8_read_153 rfl rfl ?_
    obtain ⟨hf1, h⟩ := h
    refine v_iald (n := 155) (j := i2) dX8_read_154 rfl zokc_29 (by decide) rfl rfl hf1 (rfl) ?_
    obtain ⟨j1, ej1, hj1, h⟩ := h
    refine v_iast (n := 156) (j := j1) dX8_read_155 rfl zokc_28 (by decide) (by decide) rfl ej1 hj1 (fun _ => rfl) ?_
    refine v_iinc (n := 159) (x := nI i2) (y := nI (i2 + 1)) (L' := [(0, .ref (zad G.1 10 0 0)), (1, .int (bI y1)), (2, .int (nI (i2 + 1)))]) dX8_read_156 rfl rfl (nI_1 i2) (by decide) rfl ?_
    refine v_goto (n := 128) dX8_read_159 (by decide) ?_
    exact h

set_option maxRecDepth 20000 in
set_option maxHeartbeats 4000000 in
theorem wX8_errorPosition (G : Gl) {P : Option Value → St → Prop} {X : String → St → Prop}  (μ : St)
    (h : ((μ 10 0 0 14 = 0 → ((μ 10 0 0 14 = 0 → P (some (.int (nI 0))) (up μ 10 0 0 6 (nI 1))) ∧ (¬ μ 10 0 0 14 = 0 → P (some (.int (μ 10 0 0 15))) (up μ 10 0 0 6 (nI 1))))) ∧ (¬ μ 10 0 0 14 = 0 → ((μ 10 0 0 14 = 0 → P (some (.int (nI 0))) (up μ 10 0 0 6 (nI 0))) ∧ (¬ μ 10 0 0 14 = 0 → P (some (.int (μ 10 0 0 15))) (up μ 10 0 0 6 (nI 0))))))) :
    Con G mX8_errorPosition [.ref (zad G.1 10 0 0)] μ P X := by
  refine con_of pn_X8 rfl (Nat.le_of_ble_eq_true rfl) ?_
  show VL G mX8_errorPosition P X 0 [(0, .ref (zad G.1 10 0 0))] [] μ
  refine v_aload_n (n := 1) dX8_errorPosition_0 rfl rfl ?_
  refine v_aload_n (n := 2) dX8_errorPosition_1 rfl rfl ?_
  refine v_getf (n := 5) dX8_errorPosition_2 rfl fl_X8_204 zokc_10 (rfl) ?_
  refine v_if_eq (n := 8) (t := 12) dX8_errorPosition_5 rfl (by decide) (fun hq => ?_) (fun hq => ?_)
  · replace h := h.1 hq
    refine v_iconst (n := 13) (x := nI 1) dX8_errorPosition_12 rfl (by decide) ?_
    refine v_putf (n := 16) dX8_errorPosition_13 rfl fw_X8_41 zokc_10 (fun _ => rfl) rfl rfl ?_
    refine v_aload_n (n := 17) dX8_errorPosition_16 rfl rfl ?_
    refine v_getf (n := 20) dX8_errorPosition_17 rfl fl_X8_204 zokc_10 (congrArg Value.int (up_sl (by decide))) ?_
    refine v_if_eq (n := 23) (t := 30) dX8_errorPosition_20 rfl (by decide) (fun hq => ?_) (fun hq => ?_)
    · replace h := h.1 hq
      refine v_iconst (n := 31) (x := nI 0) dX8_errorPosition_30 rfl (by decide) ?_
      exact v_iret dX8_errorPosition_31 rfl (Nat.le_of_ble_eq_true rfl) (Nat.le_of_ble_eq_true rfl) h
    · replace h := h.2 hq
      refine v_aload_n (n := 24) dX8_errorPosition_23 rfl rfl ?_
      refine v_getf (n := 27) dX8_errorPosition_24 rfl fl_X8_207 zokc_10 (congrArg Value.int (up_sl (by decide))) ?_
      refine v_goto (n := 31) dX8_errorPosition_27 (by decide) ?_
      exact v_iret dX8_errorPosition_31 rfl (Nat.le_of_ble_eq_true rfl) (Nat.le_of_ble_eq_true rfl) h
  · replace h := h.2 hq
    refine v_iconst (n := 9) (x := nI 0) dX8_errorPosition_8 rfl (by decide) ?_
    refine v_goto (n := 13) dX8_errorPosition_9 (by decide) ?_
    refine v_putf (n := 16) dX8_errorPosition_13 rfl fw_X8_41 zokc_10 (fun _ => rfl) rfl rfl ?_
    refine v_aload_n (n := 17) dX8_errorPosition_16 rfl rfl ?_
    refine v_getf (n := 20) dX8_errorPosition_17 rfl fl_X8_204 zokc_10 (congrArg Value.int (up_sl (by decide))) ?_
    refine v_if_eq (n := 23) (t := 30) dX8_errorPosition_20 rfl (by decide) (fun hq => ?_) (fun hq => ?_)
    · replace h := h.1 hq
      refine v_iconst (n := 31) (x := nI 0) dX8_errorPosition_30 rfl (by decide) ?_
      exact v_iret dX8_errorPosition_31 rfl (Nat.le_of_ble_eq_true rfl) (Nat.le_of_ble_eq_true rfl) h
    · replace h := h.2 hq
      refine v_aload_n (n := 24) dX8_errorPosition_23 rfl rfl ?_
      refine v_getf (n := 27) dX8_errorPosition_24 rfl fl_X8_207 zokc_10 (congrArg Value.int (up_sl (by decide))) ?_
      refine v_goto (n := 31) dX8_errorPosition_27 (by decide) ?_
      exact v_iret dX8_errorPosition_31 rfl (Nat.le_of_ble_eq_true rfl) (Nat.le_of_ble_eq_true rfl) h

set_option maxRecDepth 20000 in
set_option maxHeartbeats 4000000 in
theorem wX8_undo (G : Gl) {P : Option Value → St → Prop} {X : String → St → Prop}  (μ : St)
    (h : ((¬ μ 10 0 0 4 = 0 → VL G mX8_undo P X 30 [(0, .ref (zad G.1 10 0 0)), (1, .int (nI 0))] [] (up (up μ 10 0 0 6 (nI 0)) 10 0 0 4 ((μ 10 0 0 4) - (nI 1)))) ∧ (μ 10 0 0 4 = 0 → P (some (.int (nI 0))) (up (up μ 10 0 0 6 (nI 0)) 10 0 0 6 (nI 1))))) :
    Con G mX8_undo [.ref (zad G.1 10 0 0)] μ P X := by
  refine con_of pn_X8 rfl (Nat.le_of_ble_eq_true rfl) ?_
  show VL G mX8_undo P X 0 [(0, .ref (zad G.1 10 0 0))] [] μ
  refine v_aload_n (n := 1) dX8_undo_0 rfl rfl ?_
  refine v_iconst (n := 2) (x := nI 0) dX8_undo_1 rfl (by decide) ?_
  refine v_putf (n := 5) dX8_undo_2 rfl fw_X8_41 zokc_10 (fun _ => rfl) rfl rfl ?_
  refine v_aload_n (n := 6) dX8_undo_5 rfl rfl ?_
  refine v_getf (n := 9) dX8_undo_6 rfl fl_X8_44 zokc_10 (congrArg Value.int (up_sl (by decide))) ?_
  refine v_if_ne (n := 12) (t := 18) dX8_undo_9 rfl (by decide) (fun hq => ?_) (fun hq => ?_)
  · replace h := h.1 hq
    refine v_aload_n (n := 19) dX8_undo_18 rfl rfl ?_
    refine v_dup (n := 20) dX8_undo_19 rfl rfl ?_
    refine v_getf (n := 23) dX8_undo_20 rfl fl_X8_44 zokc_10 (congrArg Value.int (up_sl (by decide))) ?_
    refine v_iconst (n := 24) (x := nI 1) dX8_undo_23 rfl (by decide) ?_
    refine v_isub (n := 25) dX8_undo_24 rfl ?_
    refine v_putf (n := 28) dX8_undo_25 rfl fw_X8_44 zokc_10 (fun _ => rfl) rfl rfl ?_
    refine v_iconst (n := 29) (x := nI 0) dX8_undo_28 rfl (by decide) ?_
    refine v_istore_n (n := 30) (L' := [(0, .ref (zad G.1 10 0 0)), (1, .int (nI 0))]) dX8_undo_29 rfl (by decide) rfl ?_
    exact h
  · replace h := h.2 hq
    refine v_aload_n (n := 13) dX8_undo_12 rfl rfl ?_
    refine v_iconst (n := 14) (x := nI 1) dX8_undo_13 rfl (by decide) ?_
    refine v_callV (n := 17) (k := 10) (b := 0) (i := 0) (As := [.int (nI 1)]) (rest := []) dX8_undo_14 rfl lk_X8_62 rfl rfl (Nat.le_of_ble_eq_true rfl) ⟨Nat.le_of_ble_eq_true rfl, Nat.le_of_ble_eq_true rfl, Nat.le_of_ble_eq_true rfl, Nat.le_of_ble_eq_true rfl⟩ zokc_10 (s_X8_refuse G (nI 1) (up μ 10 0 0 6 (nI 0))) (fun v μ9 hp => ?_) (fun _ _ hp => False.elim hp)
    rw [hp.1, hp.2]
    refine v_norm (st' := [.int (nI 0)]) (cells' := 0) (slots' := 0) rfl rfl rfl ?_
    exact v_iret dX8_undo_17 rfl (Nat.le_of_ble_eq_true rfl) (Nat.le_of_ble_eq_true rfl) h

set_option maxRecDepth 20000 in
set_option maxHeartbeats 4000000 in
theorem wX8_undo_30 (G : Gl) {P : Option Value → St → Prop} {X : String → St → Prop} (i1 : Nat) (μ : St)
    (h : ((nI 372 ≤ nI i1 → P (some (.int (μ 10 0 0 4))) μ) ∧ (¬ nI 372 ≤ nI i1 → ∃ j1 : Nat, ((nI 372) * (μ 10 0 0 4)) + (nI i1) = nI j1 ∧ j1 < 2976 ∧ i1 < 372 ∧ VL G mX8_undo P X 30 [(0, .ref (zad G.1 10 0 0)), (1, .int (nI (i1 + 1)))] [] (up μ 26 0 0 i1 (μ 28 0 0 j1))))) :
    VL G mX8_undo P X 30 [(0, .ref (zad G.1 10 0 0)), (1, .int (nI i1))] [] μ := by
  refine v_iload_n (n := 31) dX8_undo_30 rfl rfl ?_
  refine v_sipush (n := 34) (x := nI 372) dX8_undo_31 rfl (by decide) ?_
  refine v_icmp_ge (n := 37) (t := 64) dX8_undo_34 rfl (by decide) (fun hq => ?_) (fun hq => ?_)
  · replace h := h.1 hq
    refine v_aload_n (n := 65) dX8_undo_64 rfl rfl ?_
    refine v_getf (n := 68) dX8_undo_65 rfl fl_X8_44 zokc_10 (rfl) ?_
    exact v_iret dX8_undo_68 rfl (Nat.le_of_ble_eq_true rfl) (Nat.le_of_ble_eq_true rfl) h
  · replace h := h.2 hq
    refine v_aload_n (n := 38) dX8_undo_37 rfl rfl ?_
    refine v_getf (n := 41) dX8_undo_38 rfl fl_X8_9 zokc_10 rfl ?_
    refine v_iload_n (n := 42) dX8_undo_41 rfl rfl ?_
    refine v_aload_n (n := 43) dX8_undo_42 rfl rfl ?_
    refine v_getf (n := 46) dX8_undo_43 rfl fl_X8_16 zokc_10 rfl ?_
    refine v_sipush (n := 49) (x := nI 372) dX8_undo_46 rfl (by decide) ?_
    refine v_aload_n (n := 50) dX8_undo_49 rfl rfl ?_
    refine v_getf (n := 53) dX8_undo_50 rfl fl_X8_44 zokc_10 (rfl) ?_
    refine v_imul (n := 54) dX8_undo_53 rfl ?_
    refine v_iload_n (n := 55) dX8_undo_54 rfl rfl ?_
    refine v_iadd (n := 56) dX8_undo_55 rfl ?_
    obtain ⟨j1, ej1, hj1, h⟩ := h
    refine v_iald (n := 57) (j := j1) dX8_undo_56 rfl zokc_28 (by decide) rfl ej1 hj1 (rfl) ?_
    obtain ⟨hf1, h⟩ := h
    refine v_iast (n := 58) (j := i1) dX8_undo_57 rfl zokc_26 (by decide) (by decide) rfl rfl hf1 (fun _ => rfl) ?_
    refine v_iinc (n := 61) (x := nI i1) (y := nI (i1 + 1)) (L' := [(0, .ref (zad G.1 10 0 0)), (1, .int (nI (i1 + 1)))]) dX8_undo_58 rfl rfl (nI_1 i1) (by decide) rfl ?_
    refine v_goto (n := 30) dX8_undo_61 (by decide) ?_
    exact h

set_option maxRecDepth 20000 in
set_option maxHeartbeats 4000000 in
theorem wX8_save (G : Gl) {P : Option Value → St → Prop} {X : String → St → Prop}  (μ : St)
    (h : VL G mX8_save P X 7 [(0, .ref (zad G.1 10 0 0)), (1, .int (nI 0))] [] (up μ 10 0 0 6 (nI 0))) :
    Con G mX8_save [.ref (zad G.1 10 0 0)] μ P X := by
  refine con_of pn_X8 rfl (Nat.le_of_ble_eq_true rfl) ?_
  show VL G mX8_save P X 0 [(0, .ref (zad G.1 10 0 0))] [] μ
  refine v_aload_n (n := 1) dX8_save_0 rfl rfl ?_
  refine v_iconst (n := 2) (x := nI 0) dX8_save_1 rfl (by decide) ?_
  refine v_putf (n := 5) dX8_save_2 rfl fw_X8_41 zokc_10 (fun _ => rfl) rfl rfl ?_
  refine v_iconst (n := 6) (x := nI 0) dX8_save_5 rfl (by decide) ?_
  refine v_istore_n (n := 7) (L' := [(0, .ref (zad G.1 10 0 0)), (1, .int (nI 0))]) dX8_save_6 rfl (by decide) rfl ?_
  exact h

set_option maxRecDepth 20000 in
set_option maxHeartbeats 4000000 in
theorem wX8_save_7 (G : Gl) {P : Option Value → St → Prop} {X : String → St → Prop} (i1 : Nat) (μ : St)
    (h : ((nI 372 ≤ nI i1 → P (some (.int (μ 26 0 0 5))) (up μ 10 0 0 2 (nI 1))) ∧ (¬ nI 372 ≤ nI i1 → i1 < 372 ∧ VL G mX8_save P X 7 [(0, .ref (zad G.1 10 0 0)), (1, .int (nI (i1 + 1)))] [] (up μ 27 0 0 i1 (μ 26 0 0 i1))))) :
    VL G mX8_save P X 7 [(0, .ref (zad G.1 10 0 0)), (1, .int (nI i1))] [] μ := by
  refine v_iload_n (n := 8) dX8_save_7 rfl rfl ?_
  refine v_sipush (n := 11) (x := nI 372) dX8_save_8 rfl (by decide) ?_
  refine v_icmp_ge (n := 14) (t := 32) dX8_save_11 rfl (by decide) (fun hq => ?_) (fun hq => ?_)
  · replace h := h.1 hq
    refine v_aload_n (n := 33) dX8_save_32 rfl rfl ?_
    refine v_iconst (n := 34) (x := nI 1) dX8_save_33 rfl (by decide) ?_
    refine v_putf (n := 37) dX8_save_34 rfl fw_X8_213 zokc_10 (fun _ => rfl) (by decide) (by decide) ?_
    refine v_aload_n (n := 38) dX8_save_37 rfl rfl ?_
    refine v_getf (n := 41) dX8_save_38 rfl fl_X8_9 zokc_10 rfl ?_
    refine v_iconst (n := 42) (x := nI 5) dX8_save_41 rfl (by decide) ?_
    refine v_iald (n := 43) (j := 5) dX8_save_42 rfl zokc_26 (by decide) rfl rfl (by decide) (congrArg Value.int (up_k (by decide))) ?_
    exact v_iret dX8_save_43 rfl (Nat.le_of_ble_eq_true rfl) (Nat.le_of_ble_eq_true rfl) h
  · replace h := h.2 hq
    refine v_aload_n (n := 15) dX8_save_14 rfl rfl ?_
    refine v_getf (n := 18) dX8_save_15 rfl fl_X8_13 zokc_10 rfl ?_
    refine v_iload_n (n := 19) dX8_save_18 rfl rfl ?_
    refine v_aload_n (n := 20) dX8_save_19 rfl rfl ?_
    refine v_getf (n := 23) dX8_save_20 rfl fl_X8_9 zokc_10 rfl ?_
    refine v_iload_n (n := 24) dX8_save_23 rfl rfl ?_
    obtain ⟨hf1, h⟩ := h
    refine v_iald (n := 25) (j := i1) dX8_save_24 rfl zokc_26 (by decide) rfl rfl hf1 (rfl) ?_
    refine v_iast (n := 26) (j := i1) dX8_save_25 rfl zokc_27 (by decide) (by decide) rfl rfl hf1 (fun _ => rfl) ?_
    refine v_iinc (n := 29) (x := nI i1) (y := nI (i1 + 1)) (L' := [(0, .ref (zad G.1 10 0 0)), (1, .int (nI (i1 + 1)))]) dX8_save_26 rfl rfl (nI_1 i1) (by decide) rfl ?_
    refine v_goto (n := 7) dX8_save_29 (by decide) ?_
    exact h

set_option maxRecDepth 20000 in
set_option maxHeartbeats 4000000 in
theorem wX8_restore (G : Gl) {P : Option Value → St → Prop} {X : String → St → Prop}  (μ : St)
    (h : ((¬ μ 10 0 0 2 = 0 → VL G mX8_restore P X 20 [(0, .ref (zad G.1 10 0 0)), (1, .int (nI 0))] [] (up μ 10 0 0 6 (nI 0))) ∧ (μ 10 0 0 2 = 0 → P (some (.int (nI 0))) (up (up μ 10 0 0 6 (nI 0)) 10 0 0 6 (nI 1))))) :
    Con G mX8_restore [.ref (zad G.1 10 0 0)] μ P X := by
  refine con_of pn_X8 rfl (Nat.le_of_ble_eq_true rfl) ?_
  show VL G mX8_restore P X 0 [(0, .ref (zad G.1 10 0 0))] [] μ
  refine v_aload_n (n := 1) dX8_restore_0 rfl rfl ?_
  refine v_iconst (n := 2) (x := nI 0) dX8_restore_1 rfl (by decide) ?_
  refine v_putf (n := 5) dX8_restore_2 rfl fw_X8_41 zokc_10 (fun _ => rfl) rfl rfl ?_
  refine v_aload_n (n := 6) dX8_restore_5 rfl rfl ?_
  refine v_getf (n := 9) dX8_restore_6 rfl fl_X8_213 zokc_10 (congrArg Value.int (up_sl (by decide))) ?_
  refine v_if_ne (n := 12) (t := 18) dX8_restore_9 rfl (by decide) (fun hq => ?_) (fun hq => ?_)
  · replace h := h.1 hq
    refine v_iconst (n := 19) (x := nI 0) dX8_restore_18 rfl (by decide) ?_
    refine v_istore_n (n := 20) (L' := [(0, .ref (zad G.1 10 0 0)), (1, .int (nI 0))]) dX8_restore_19 rfl (by decide) rfl ?_
    exact h
  · replace h := h.2 hq
    refine v_aload_n (n := 13) dX8_restore_12 rfl rfl ?_
    refine v_iconst (n := 14) (x := nI 1) dX8_restore_13 rfl (by decide) ?_
    refine v_callV (n := 17) (k := 10) (b := 0) (i := 0) (As := [.int (nI 1)]) (rest := []) dX8_restore_14 rfl lk_X8_62 rfl rfl (Nat.le_of_ble_eq_true rfl) ⟨Nat.le_of_ble_eq_true rfl, Nat.le_of_ble_eq_true rfl, Nat.le_of_ble_eq_true rfl, Nat.le_of_ble_eq_true rfl⟩ zokc_10 (s_X8_refuse G (nI 1) (up μ 10 0 0 6 (nI 0))) (fun v μ9 hp => ?_) (fun _ _ hp => False.elim hp)
    rw [hp.1, hp.2]
    refine v_norm (st' := [.int (nI 0)]) (cells' := 0) (slots' := 0) rfl rfl rfl ?_
    exact v_iret dX8_restore_17 rfl (Nat.le_of_ble_eq_true rfl) (Nat.le_of_ble_eq_true rfl) h

set_option maxRecDepth 20000 in
set_option maxHeartbeats 4000000 in
theorem wX8_restore_20 (G : Gl) {P : Option Value → St → Prop} {X : String → St → Prop} (i1 : Nat) (μ : St)
    (h : ((nI 372 ≤ nI i1 → P (some (.int (μ 26 0 0 5))) (up μ 10 0 0 4 (nI 0))) ∧ (¬ nI 372 ≤ nI i1 → i1 < 372 ∧ VL G mX8_restore P X 20 [(0, .ref (zad G.1 10 0 0)), (1, .int (nI (i1 + 1)))] [] (up μ 26 0 0 i1 (μ 27 0 0 i1))))) :
    VL G mX8_restore P X 20 [(0, .ref (zad G.1 10 0 0)), (1, .int (nI i1))] [] μ := by
  refine v_iload_n (n := 21) dX8_restore_20 rfl rfl ?_
  refine v_sipush (n := 24) (x := nI 372) dX8_restore_21 rfl (by decide) ?_
  refine v_icmp_ge (n := 27) (t := 45) dX8_restore_24 rfl (by decide) (fun hq => ?_) (fun hq => ?_)
  · replace h := h.1 hq
    refine v_aload_n (n := 46) dX8_restore_45 rfl rfl ?_
    refine v_iconst (n := 47) (x := nI 0) dX8_restore_46 rfl (by decide) ?_
    refine v_putf (n := 50) dX8_restore_47 rfl fw_X8_44 zokc_10 (fun _ => rfl) rfl rfl ?_
    refine v_aload_n (n := 51) dX8_restore_50 rfl rfl ?_
    refine v_getf (n := 54) dX8_restore_51 rfl fl_X8_9 zokc_10 rfl ?_
    refine v_iconst (n := 55) (x := nI 5) dX8_restore_54 rfl (by decide) ?_
    refine v_iald (n := 56) (j := 5) dX8_restore_55 rfl zokc_26 (by decide) rfl rfl (by decide) (congrArg Value.int (up_k (by decide))) ?_
    exact v_iret dX8_restore_56 rfl (Nat.le_of_ble_eq_true rfl) (Nat.le_of_ble_eq_true rfl) h
  · replace h := h.2 hq
    refine v_aload_n (n := 28) dX8_restore_27 rfl rfl ?_
    refine v_getf (n := 31) dX8_restore_28 rfl fl_X8_9 zokc_10 rfl ?_
    refine v_iload_n (n := 32) dX8_restore_31 rfl rfl ?_
    refine v_aload_n (n := 33) dX8_restore_32 rfl rfl ?_
    refine v_getf (n := 36) dX8_restore_33 rfl fl_X8_13 zokc_10 rfl ?_
    refine v_iload_n (n := 37) dX8_restore_36 rfl rfl ?_
    obtain ⟨hf1, h⟩ := h
    refine v_iald (n := 38) (j := i1) dX8_restore_37 rfl zokc_27 (by decide) rfl rfl hf1 (rfl) ?_
    refine v_iast (n := 39) (j := i1) dX8_restore_38 rfl zokc_26 (by decide) (by decide) rfl rfl hf1 (fun _ => rfl) ?_
    refine v_iinc (n := 42) (x := nI i1) (y := nI (i1 + 1)) (L' := [(0, .ref (zad G.1 10 0 0)), (1, .int (nI (i1 + 1)))]) dX8_restore_39 rfl rfl (nI_1 i1) (by decide) rfl ?_
    refine v_goto (n := 20) dX8_restore_42 (by decide) ?_
    exact h

