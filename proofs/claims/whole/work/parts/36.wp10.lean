/-! wp-lemmas by program (wip/whole/wp.py) -/
set_option maxRecDepth 20000 in
set_option maxHeartbeats 4000000 in
theorem wX8_isWayLift (G : Gl) {P : Option Value → St → Prop} {X : String → St → Prop} (g : Nat) (hg : g < 16) (l : Nat) (hl : l < 6) (μ : St)
    (h : ((mop μ g l = false → P (some (.int (nI 0))) μ) ∧ (mop μ g l = true → ((nI 2 ≤ msf μ l → P (some (.int (nI 0))) μ) ∧ (¬ nI 2 ≤ msf μ l → P (some (.int (nI 1))) μ))))) :
    Con G mX8_isWayLift [.ref (zad G.1 10 0 0), .int (nI g), .int (nI l)] μ P X := by
  refine con_of pn_X8 rfl (Nat.le_of_ble_eq_true rfl) ?_
  show VL G mX8_isWayLift P X 0 [(0, .ref (zad G.1 10 0 0)), (1, .int (nI g)), (2, .int (nI l))] [] μ
  refine v_aload_n (n := 1) dX8_isWayLift_0 rfl rfl ?_
  refine v_iload_n (n := 2) dX8_isWayLift_1 rfl rfl ?_
  refine v_iload_n (n := 3) dX8_isWayLift_2 rfl rfl ?_
  refine v_callV (n := 6) (k := 10) (b := 0) (i := 0) (As := [.int (nI g), .int (nI l)]) (rest := []) dX8_isWayLift_3 rfl lk_X8_98 rfl rfl (Nat.le_of_ble_eq_true rfl) ⟨Nat.le_of_ble_eq_true rfl, Nat.le_of_ble_eq_true rfl, Nat.le_of_ble_eq_true rfl, Nat.le_of_ble_eq_true rfl⟩ zokc_10 (s_X8_isOpenTo G (nI g) g rfl (show g < 16 by omega) (nI l) l rfl (show l < 6 by omega) μ) (fun v μ9 hp => ?_) (fun _ _ hp => False.elim hp)
  rw [hp.1, hp.2]
  refine v_norm (st' := [.int (bI (mop μ g l))]) (cells' := 0) (slots' := 0) rfl rfl rfl ?_
  refine v_if_eq (n := 9) (t := 22) dX8_isWayLift_6 rfl (by decide) (fun hq => ?_) (fun hq => ?_)
  · replace h := h.1 (bI_f hq)
    refine v_iconst (n := 23) (x := nI 0) dX8_isWayLift_22 rfl (by decide) ?_
    exact v_zret dX8_isWayLift_23 rfl (by decide) (Nat.le_of_ble_eq_true rfl) (Nat.le_of_ble_eq_true rfl) h
  · replace h := h.2 (bI_nf hq)
    refine v_aload_n (n := 10) dX8_isWayLift_9 rfl rfl ?_
    refine v_iload_n (n := 11) dX8_isWayLift_10 rfl rfl ?_
    refine v_callV (n := 14) (k := 10) (b := 0) (i := 0) (As := [.int (nI l)]) (rest := []) dX8_isWayLift_11 rfl lk_X8_55 rfl rfl (Nat.le_of_ble_eq_true rfl) ⟨Nat.le_of_ble_eq_true rfl, Nat.le_of_ble_eq_true rfl, Nat.le_of_ble_eq_true rfl, Nat.le_of_ble_eq_true rfl⟩ zokc_10 (s_X8_stateOf G (nI l) l rfl (show l < 6 by omega) μ) (fun v μ9 hp => ?_) (fun _ _ hp => False.elim hp)
    rw [hp.1, hp.2]
    refine v_norm (st' := [.int (msf μ l)]) (cells' := 0) (slots' := 0) rfl rfl rfl ?_
    refine v_iconst (n := 15) (x := nI 2) dX8_isWayLift_14 rfl (by decide) ?_
    refine v_icmp_ge (n := 18) (t := 22) dX8_isWayLift_15 rfl (by decide) (fun hq => ?_) (fun hq => ?_)
    · replace h := h.1 hq
      refine v_iconst (n := 23) (x := nI 0) dX8_isWayLift_22 rfl (by decide) ?_
      exact v_zret dX8_isWayLift_23 rfl (by decide) (Nat.le_of_ble_eq_true rfl) (Nat.le_of_ble_eq_true rfl) h
    · replace h := h.2 hq
      refine v_iconst (n := 19) (x := nI 1) dX8_isWayLift_18 rfl (by decide) ?_
      refine v_goto (n := 23) dX8_isWayLift_19 (by decide) ?_
      exact v_zret dX8_isWayLift_23 rfl (by decide) (Nat.le_of_ble_eq_true rfl) (Nat.le_of_ble_eq_true rfl) h

set_option maxRecDepth 20000 in
set_option maxHeartbeats 4000000 in
theorem wX8_whyNoLift (G : Gl) {P : Option Value → St → Prop} {X : String → St → Prop} (g : Nat) (hg : g < 16) (l : Nat) (hl : l < 6) (μ : St)
    (h : ((μ 26 0 0 (212 + 10 * g + 4) = 0 → ((μ 26 0 0 (212 + 10 * g + 5) = μ 26 0 0 (6 + 21 * l) → ((mop μ g l = true → ((¬ msf μ l = nI 2 → ((¬ μ 26 0 0 (6 + 21 * l + 10) = nI 10 → P (some (.int (nI 0))) μ) ∧ (μ 26 0 0 (6 + 21 * l + 10) = nI 10 → P (some (.int (nI 5))) μ))) ∧ (msf μ l = nI 2 → P (some (.int (nI 4))) μ))) ∧ (mop μ g l = false → P (some (.int (nI 3))) μ))) ∧ (¬ μ 26 0 0 (212 + 10 * g + 5) = μ 26 0 0 (6 + 21 * l) → P (some (.int (nI 2))) μ))) ∧ (¬ μ 26 0 0 (212 + 10 * g + 4) = 0 → P (some (.int (nI 1))) μ))) :
    Con G mX8_whyNoLift [.ref (zad G.1 10 0 0), .int (nI g), .int (nI l)] μ P X := by
  refine con_of pn_X8 rfl (Nat.le_of_ble_eq_true rfl) ?_
  show VL G mX8_whyNoLift P X 0 [(0, .ref (zad G.1 10 0 0)), (1, .int (nI g)), (2, .int (nI l))] [] μ
  refine v_iload_n (n := 1) dX8_whyNoLift_0 rfl rfl ?_
  refine v_callS (n := 4) (As := [.int (nI g)]) (rest := []) dX8_whyNoLift_1 rfl lk_X8_71 rfl rfl (Nat.le_of_ble_eq_true rfl) ⟨Nat.le_of_ble_eq_true rfl, Nat.le_of_ble_eq_true rfl, Nat.le_of_ble_eq_true rfl, Nat.le_of_ble_eq_true rfl⟩ (s_X8_guest0N G g μ) (fun v μ9 hp => ?_) (fun _ _ hp => False.elim hp)
  rw [hp.1, hp.2]
  refine v_norm (st' := [.int (nI (212 + 10 * g))]) (cells' := 0) (slots' := 0) rfl rfl rfl ?_
  refine v_istore_n (n := 5) (L' := [(0, .ref (zad G.1 10 0 0)), (1, .int (nI g)), (2, .int (nI l)), (3, .int (nI (212 + 10 * g)))]) dX8_whyNoLift_4 rfl (by decide) rfl ?_
  refine v_aload_n (n := 6) dX8_whyNoLift_5 rfl rfl ?_
  refine v_getf (n := 9) dX8_whyNoLift_6 rfl fl_X8_9 zokc_10 rfl ?_
  refine v_iload_n (n := 10) dX8_whyNoLift_9 rfl rfl ?_
  refine v_iconst (n := 11) (x := nI 4) dX8_whyNoLift_10 rfl (by decide) ?_
  refine v_iadd (n := 12) dX8_whyNoLift_11 rfl ?_
  refine v_top (y := nI (212 + 10 * g + 4)) (nI_add (212 + 10 * g) 4) ?_
  refine v_iald (n := 13) (j := (212 + 10 * g + 4)) dX8_whyNoLift_12 rfl zokc_26 (by decide) rfl rfl (show 212 + 10 * g + 4 < 372 by omega) (rfl) ?_
  refine v_if_eq (n := 16) (t := 20) dX8_whyNoLift_13 rfl (by decide) (fun hq => ?_) (fun hq => ?_)
  · replace h := h.1 hq
    refine v_aload_n (n := 21) dX8_whyNoLift_20 rfl rfl ?_
    refine v_getf (n := 24) dX8_whyNoLift_21 rfl fl_X8_9 zokc_10 rfl ?_
    refine v_iload_n (n := 25) dX8_whyNoLift_24 rfl rfl ?_
    refine v_iconst (n := 26) (x := nI 5) dX8_whyNoLift_25 rfl (by decide) ?_
    refine v_iadd (n := 27) dX8_whyNoLift_26 rfl ?_
    refine v_top (y := nI (212 + 10 * g + 5)) (nI_add (212 + 10 * g) 5) ?_
    refine v_iald (n := 28) (j := (212 + 10 * g + 5)) dX8_whyNoLift_27 rfl zokc_26 (by decide) rfl rfl (show 212 + 10 * g + 5 < 372 by omega) (rfl) ?_
    refine v_aload_n (n := 29) dX8_whyNoLift_28 rfl rfl ?_
    refine v_getf (n := 32) dX8_whyNoLift_29 rfl fl_X8_9 zokc_10 rfl ?_
    refine v_iload_n (n := 33) dX8_whyNoLift_32 rfl rfl ?_
    refine v_callS (n := 36) (As := [.int (nI l)]) (rest := [.ref (zad G.1 26 0 0), .int (μ 26 0 0 (212 + 10 * g + 5))]) dX8_whyNoLift_33 rfl lk_X8_51 rfl rfl (Nat.le_of_ble_eq_true rfl) ⟨Nat.le_of_ble_eq_true rfl, Nat.le_of_ble_eq_true rfl, Nat.le_of_ble_eq_true rfl, Nat.le_of_ble_eq_true rfl⟩ (s_X8_lift0N G l μ) (fun v μ9 hp => ?_) (fun _ _ hp => False.elim hp)
    rw [hp.1, hp.2]
    refine v_norm (st' := [.int (nI (6 + 21 * l)), .ref (zad G.1 26 0 0), .int (μ 26 0 0 (212 + 10 * g + 5))]) (cells' := 0) (slots' := 0) rfl rfl rfl ?_
    refine v_iald (n := 37) (j := (6 + 21 * l)) dX8_whyNoLift_36 rfl zokc_26 (by decide) rfl rfl (show 6 + 21 * l < 372 by omega) (rfl) ?_
    refine v_icmp_eq (n := 40) (t := 44) dX8_whyNoLift_37 rfl (by decide) (fun hq => ?_) (fun hq => ?_)
    · replace h := h.1 hq
      refine v_aload_n (n := 45) dX8_whyNoLift_44 rfl rfl ?_
      refine v_iload_n (n := 46) dX8_whyNoLift_45 rfl rfl ?_
      refine v_iload_n (n := 47) dX8_whyNoLift_46 rfl rfl ?_
      refine v_callV (n := 50) (k := 10) (b := 0) (i := 0) (As := [.int (nI g), .int (nI l)]) (rest := []) dX8_whyNoLift_47 rfl lk_X8_98 rfl rfl (Nat.le_of_ble_eq_true rfl) ⟨Nat.le_of_ble_eq_true rfl, Nat.le_of_ble_eq_true rfl, Nat.le_of_ble_eq_true rfl, Nat.le_of_ble_eq_true rfl⟩ zokc_10 (s_X8_isOpenTo G (nI g) g rfl (show g < 16 by omega) (nI l) l rfl (show l < 6 by omega) μ) (fun v μ9 hp => ?_) (fun _ _ hp => False.elim hp)
      rw [hp.1, hp.2]
      refine v_norm (st' := [.int (bI (mop μ g l))]) (cells' := 0) (slots' := 0) rfl rfl rfl ?_
      refine v_if_ne (n := 53) (t := 57) dX8_whyNoLift_50 rfl (by decide) (fun hq => ?_) (fun hq => ?_)
      · replace h := h.1 (bI_nf hq)
        refine v_aload_n (n := 58) dX8_whyNoLift_57 rfl rfl ?_
        refine v_iload_n (n := 59) dX8_whyNoLift_58 rfl rfl ?_
        refine v_callV (n := 62) (k := 10) (b := 0) (i := 0) (As := [.int (nI l)]) (rest := []) dX8_whyNoLift_59 rfl lk_X8_55 rfl rfl (Nat.le_of_ble_eq_true rfl) ⟨Nat.le_of_ble_eq_true rfl, Nat.le_of_ble_eq_true rfl, Nat.le_of_ble_eq_true rfl, Nat.le_of_ble_eq_true rfl⟩ zokc_10 (s_X8_stateOf G (nI l) l rfl (show l < 6 by omega) μ) (fun v μ9 hp => ?_) (fun _ _ hp => False.elim hp)
        rw [hp.1, hp.2]
        refine v_norm (st' := [.int (msf μ l)]) (cells' := 0) (slots' := 0) rfl rfl rfl ?_
        refine v_iconst (n := 63) (x := nI 2) dX8_whyNoLift_62 rfl (by decide) ?_
        refine v_icmp_ne (n := 66) (t := 70) dX8_whyNoLift_63 rfl (by decide) (fun hq => ?_) (fun hq => ?_)
        · replace h := h.1 hq
          refine v_aload_n (n := 71) dX8_whyNoLift_70 rfl rfl ?_
          refine v_getf (n := 74) dX8_whyNoLift_71 rfl fl_X8_9 zokc_10 rfl ?_
          refine v_iload_n (n := 75) dX8_whyNoLift_74 rfl rfl ?_
          refine v_callS (n := 78) (As := [.int (nI l)]) (rest := [.ref (zad G.1 26 0 0)]) dX8_whyNoLift_75 rfl lk_X8_51 rfl rfl (Nat.le_of_ble_eq_true rfl) ⟨Nat.le_of_ble_eq_true rfl, Nat.le_of_ble_eq_true rfl, Nat.le_of_ble_eq_true rfl, Nat.le_of_ble_eq_true rfl⟩ (s_X8_lift0N G l μ) (fun v μ9 hp => ?_) (fun _ _ hp => False.elim hp)
          rw [hp.1, hp.2]
          refine v_norm (st' := [.int (nI (6 + 21 * l)), .ref (zad G.1 26 0 0)]) (cells' := 0) (slots' := 0) rfl rfl rfl ?_
          refine v_bipush (n := 80) (x := nI 10) dX8_whyNoLift_78 rfl (by decide) ?_
          refine v_iadd (n := 81) dX8_whyNoLift_80 rfl ?_
          refine v_top (y := nI (6 + 21 * l + 10)) (nI_add (6 + 21 * l) 10) ?_
          refine v_iald (n := 82) (j := (6 + 21 * l + 10)) dX8_whyNoLift_81 rfl zokc_26 (by decide) rfl rfl (show 6 + 21 * l + 10 < 372 by omega) (rfl) ?_
          refine v_bipush (n := 84) (x := nI 10) dX8_whyNoLift_82 rfl (by decide) ?_
          refine v_icmp_ne (n := 87) (t := 91) dX8_whyNoLift_84 rfl (by decide) (fun hq => ?_) (fun hq => ?_)
          · replace h := h.1 hq
            refine v_iconst (n := 92) (x := nI 0) dX8_whyNoLift_91 rfl (by decide) ?_
            exact v_iret dX8_whyNoLift_92 rfl (Nat.le_of_ble_eq_true rfl) (Nat.le_of_ble_eq_true rfl) h
          · replace h := h.2 hq
            refine v_iconst (n := 88) (x := nI 5) dX8_whyNoLift_87 rfl (by decide) ?_
            refine v_goto (n := 92) dX8_whyNoLift_88 (by decide) ?_
            exact v_iret dX8_whyNoLift_92 rfl (Nat.le_of_ble_eq_true rfl) (Nat.le_of_ble_eq_true rfl) h
        · replace h := h.2 hq
          refine v_iconst (n := 67) (x := nI 4) dX8_whyNoLift_66 rfl (by decide) ?_
          refine v_goto (n := 92) dX8_whyNoLift_67 (by decide) ?_
          exact v_iret dX8_whyNoLift_92 rfl (Nat.le_of_ble_eq_true rfl) (Nat.le_of_ble_eq_true rfl) h
      · replace h := h.2 (bI_f hq)
        refine v_iconst (n := 54) (x := nI 3) dX8_whyNoLift_53 rfl (by decide) ?_
        refine v_goto (n := 92) dX8_whyNoLift_54 (by decide) ?_
        exact v_iret dX8_whyNoLift_92 rfl (Nat.le_of_ble_eq_true rfl) (Nat.le_of_ble_eq_true rfl) h
    · replace h := h.2 hq
      refine v_iconst (n := 41) (x := nI 2) dX8_whyNoLift_40 rfl (by decide) ?_
      refine v_goto (n := 92) dX8_whyNoLift_41 (by decide) ?_
      exact v_iret dX8_whyNoLift_92 rfl (Nat.le_of_ble_eq_true rfl) (Nat.le_of_ble_eq_true rfl) h
  · replace h := h.2 hq
    refine v_iconst (n := 17) (x := nI 1) dX8_whyNoLift_16 rfl (by decide) ?_
    refine v_goto (n := 92) dX8_whyNoLift_17 (by decide) ?_
    exact v_iret dX8_whyNoLift_92 rfl (Nat.le_of_ble_eq_true rfl) (Nat.le_of_ble_eq_true rfl) h

set_option maxRecDepth 20000 in
set_option maxHeartbeats 4000000 in
theorem wX8_whyNoPiste (G : Gl) {P : Option Value → St → Prop} {X : String → St → Prop} (g : Nat) (hg : g < 16) (pi : Nat) (hpi : pi < 10) (μ : St)
    (h : ((μ 26 0 0 (212 + 10 * g + 4) = 0 → ((μ 26 0 0 (212 + 10 * g + 5) = μ 26 0 0 (132 + 8 * pi) → ((μ 26 0 0 (132 + 8 * pi + 4) = 0 → ((μ 26 0 0 (132 + 8 * pi + 2) ≤ (μ 26 0 0 (212 + 10 * g)) + (nI 1) → P (some (.int (nI 0))) μ) ∧ (¬ μ 26 0 0 (132 + 8 * pi + 2) ≤ (μ 26 0 0 (212 + 10 * g)) + (nI 1) → P (some (.int (nI 7))) μ))) ∧ (¬ μ 26 0 0 (132 + 8 * pi + 4) = 0 → P (some (.int (nI 6))) μ))) ∧ (¬ μ 26 0 0 (212 + 10 * g + 5) = μ 26 0 0 (132 + 8 * pi) → P (some (.int (nI 2))) μ))) ∧ (¬ μ 26 0 0 (212 + 10 * g + 4) = 0 → P (some (.int (nI 1))) μ))) :
    Con G mX8_whyNoPiste [.ref (zad G.1 10 0 0), .int (nI g), .int (nI pi)] μ P X := by
  refine con_of pn_X8 rfl (Nat.le_of_ble_eq_true rfl) ?_
  show VL G mX8_whyNoPiste P X 0 [(0, .ref (zad G.1 10 0 0)), (1, .int (nI g)), (2, .int (nI pi))] [] μ
  refine v_iload_n (n := 1) dX8_whyNoPiste_0 rfl rfl ?_
  refine v_callS (n := 4) (As := [.int (nI g)]) (rest := []) dX8_whyNoPiste_1 rfl lk_X8_71 rfl rfl (Nat.le_of_ble_eq_true rfl) ⟨Nat.le_of_ble_eq_true rfl, Nat.le_of_ble_eq_true rfl, Nat.le_of_ble_eq_true rfl, Nat.le_of_ble_eq_true rfl⟩ (s_X8_guest0N G g μ) (fun v μ9 hp => ?_) (fun _ _ hp => False.elim hp)
  rw [hp.1, hp.2]
  refine v_norm (st' := [.int (nI (212 + 10 * g))]) (cells' := 0) (slots' := 0) rfl rfl rfl ?_
  refine v_istore_n (n := 5) (L' := [(0, .ref (zad G.1 10 0 0)), (1, .int (nI g)), (2, .int (nI pi)), (3, .int (nI (212 + 10 * g)))]) dX8_whyNoPiste_4 rfl (by decide) rfl ?_
  refine v_aload_n (n := 6) dX8_whyNoPiste_5 rfl rfl ?_
  refine v_getf (n := 9) dX8_whyNoPiste_6 rfl fl_X8_9 zokc_10 rfl ?_
  refine v_iload_n (n := 10) dX8_whyNoPiste_9 rfl rfl ?_
  refine v_iconst (n := 11) (x := nI 4) dX8_whyNoPiste_10 rfl (by decide) ?_
  refine v_iadd (n := 12) dX8_whyNoPiste_11 rfl ?_
  refine v_top (y := nI (212 + 10 * g + 4)) (nI_add (212 + 10 * g) 4) ?_
  refine v_iald (n := 13) (j := (212 + 10 * g + 4)) dX8_whyNoPiste_12 rfl zokc_26 (by decide) rfl rfl (show 212 + 10 * g + 4 < 372 by omega) (rfl) ?_
  refine v_if_eq (n := 16) (t := 20) dX8_whyNoPiste_13 rfl (by decide) (fun hq => ?_) (fun hq => ?_)
  · replace h := h.1 hq
    refine v_aload_n (n := 21) dX8_whyNoPiste_20 rfl rfl ?_
    refine v_getf (n := 24) dX8_whyNoPiste_21 rfl fl_X8_9 zokc_10 rfl ?_
    refine v_iload_n (n := 25) dX8_whyNoPiste_24 rfl rfl ?_
    refine v_iconst (n := 26) (x := nI 5) dX8_whyNoPiste_25 rfl (by decide) ?_
    refine v_iadd (n := 27) dX8_whyNoPiste_26 rfl ?_
    refine v_top (y := nI (212 + 10 * g + 5)) (nI_add (212 + 10 * g) 5) ?_
    refine v_iald (n := 28) (j := (212 + 10 * g + 5)) dX8_whyNoPiste_27 rfl zokc_26 (by decide) rfl rfl (show 212 + 10 * g + 5 < 372 by omega) (rfl) ?_
    refine v_aload_n (n := 29) dX8_whyNoPiste_28 rfl rfl ?_
    refine v_getf (n := 32) dX8_whyNoPiste_29 rfl fl_X8_9 zokc_10 rfl ?_
    refine v_iload_n (n := 33) dX8_whyNoPiste_32 rfl rfl ?_
    refine v_callS (n := 36) (As := [.int (nI pi)]) (rest := [.ref (zad G.1 26 0 0), .int (μ 26 0 0 (212 + 10 * g + 5))]) dX8_whyNoPiste_33 rfl lk_X8_68 rfl rfl (Nat.le_of_ble_eq_true rfl) ⟨Nat.le_of_ble_eq_true rfl, Nat.le_of_ble_eq_true rfl, Nat.le_of_ble_eq_true rfl, Nat.le_of_ble_eq_true rfl⟩ (s_X8_piste0N G pi μ) (fun v μ9 hp => ?_) (fun _ _ hp => False.elim hp)
    rw [hp.1, hp.2]
    refine v_norm (st' := [.int (nI (132 + 8 * pi)), .ref (zad G.1 26 0 0), .int (μ 26 0 0 (212 + 10 * g + 5))]) (cells' := 0) (slots' := 0) rfl rfl rfl ?_
    refine v_iald (n := 37) (j := (132 + 8 * pi)) dX8_whyNoPiste_36 rfl zokc_26 (by decide) rfl rfl (show 132 + 8 * pi < 372 by omega) (rfl) ?_
    refine v_icmp_eq (n := 40) (t := 44) dX8_whyNoPiste_37 rfl (by decide) (fun hq => ?_) (fun hq => ?_)
    · replace h := h.1 hq
      refine v_aload_n (n := 45) dX8_whyNoPiste_44 rfl rfl ?_
      refine v_getf (n := 48) dX8_whyNoPiste_45 rfl fl_X8_9 zokc_10 rfl ?_
      refine v_iload_n (n := 49) dX8_whyNoPiste_48 rfl rfl ?_
      refine v_callS (n := 52) (As := [.int (nI pi)]) (rest := [.ref (zad G.1 26 0 0)]) dX8_whyNoPiste_49 rfl lk_X8_68 rfl rfl (Nat.le_of_ble_eq_true rfl) ⟨Nat.le_of_ble_eq_true rfl, Nat.le_of_ble_eq_true rfl, Nat.le_of_ble_eq_true rfl, Nat.le_of_ble_eq_true rfl⟩ (s_X8_piste0N G pi μ) (fun v μ9 hp => ?_) (fun _ _ hp => False.elim hp)
      rw [hp.1, hp.2]
      refine v_norm (st' := [.int (nI (132 + 8 * pi)), .ref (zad G.1 26 0 0)]) (cells' := 0) (slots' := 0) rfl rfl rfl ?_
      refine v_iconst (n := 53) (x := nI 4) dX8_whyNoPiste_52 rfl (by decide) ?_
      refine v_iadd (n := 54) dX8_whyNoPiste_53 rfl ?_
      refine v_top (y := nI (132 + 8 * pi + 4)) (nI_add (132 + 8 * pi) 4) ?_
      refine v_iald (n := 55) (j := (132 + 8 * pi + 4)) dX8_whyNoPiste_54 rfl zokc_26 (by decide) rfl rfl (show 132 + 8 * pi + 4 < 372 by omega) (rfl) ?_
      refine v_if_eq (n := 58) (t := 63) dX8_whyNoPiste_55 rfl (by decide) (fun hq => ?_) (fun hq => ?_)
      · replace h := h.1 hq
        refine v_aload_n (n := 64) dX8_whyNoPiste_63 rfl rfl ?_
        refine v_getf (n := 67) dX8_whyNoPiste_64 rfl fl_X8_9 zokc_10 rfl ?_
        refine v_iload_n (n := 68) dX8_whyNoPiste_67 rfl rfl ?_
        refine v_callS (n := 71) (As := [.int (nI pi)]) (rest := [.ref (zad G.1 26 0 0)]) dX8_whyNoPiste_68 rfl lk_X8_68 rfl rfl (Nat.le_of_ble_eq_true rfl) ⟨Nat.le_of_ble_eq_true rfl, Nat.le_of_ble_eq_true rfl, Nat.le_of_ble_eq_true rfl, Nat.le_of_ble_eq_true rfl⟩ (s_X8_piste0N G pi μ) (fun v μ9 hp => ?_) (fun _ _ hp => False.elim hp)
        rw [hp.1, hp.2]
        refine v_norm (st' := [.int (nI (132 + 8 * pi)), .ref (zad G.1 26 0 0)]) (cells' := 0) (slots' := 0) rfl rfl rfl ?_
        refine v_iconst (n := 72) (x := nI 2) dX8_whyNoPiste_71 rfl (by decide) ?_
        refine v_iadd (n := 73) dX8_whyNoPiste_72 rfl ?_
        refine v_top (y := nI (132 + 8 * pi + 2)) (nI_add (132 + 8 * pi) 2) ?_
        refine v_iald (n := 74) (j := (132 + 8 * pi + 2)) dX8_whyNoPiste_73 rfl zokc_26 (by decide) rfl rfl (show 132 + 8 * pi + 2 < 372 by omega) (rfl) ?_
        refine v_aload_n (n := 75) dX8_whyNoPiste_74 rfl rfl ?_
        refine v_getf (n := 78) dX8_whyNoPiste_75 rfl fl_X8_9 zokc_10 rfl ?_
        refine v_iload_n (n := 79) dX8_whyNoPiste_78 rfl rfl ?_
        refine v_iald (n := 80) (j := (212 + 10 * g)) dX8_whyNoPiste_79 rfl zokc_26 (by decide) rfl rfl (show 212 + 10 * g < 372 by omega) (rfl) ?_
        refine v_iconst (n := 81) (x := nI 1) dX8_whyNoPiste_80 rfl (by decide) ?_
        refine v_iadd (n := 82) dX8_whyNoPiste_81 rfl ?_
        refine v_icmp_le (n := 85) (t := 90) dX8_whyNoPiste_82 rfl (by decide) (fun hq => ?_) (fun hq => ?_)
        · replace h := h.1 hq
          refine v_iconst (n := 91) (x := nI 0) dX8_whyNoPiste_90 rfl (by decide) ?_
          exact v_iret dX8_whyNoPiste_91 rfl (Nat.le_of_ble_eq_true rfl) (Nat.le_of_ble_eq_true rfl) h
        · replace h := h.2 hq
          refine v_bipush (n := 87) (x := nI 7) dX8_whyNoPiste_85 rfl (by decide) ?_
          refine v_goto (n := 91) dX8_whyNoPiste_87 (by decide) ?_
          exact v_iret dX8_whyNoPiste_91 rfl (Nat.le_of_ble_eq_true rfl) (Nat.le_of_ble_eq_true rfl) h
      · replace h := h.2 hq
        refine v_bipush (n := 60) (x := nI 6) dX8_whyNoPiste_58 rfl (by decide) ?_
        refine v_goto (n := 91) dX8_whyNoPiste_60 (by decide) ?_
        exact v_iret dX8_whyNoPiste_91 rfl (Nat.le_of_ble_eq_true rfl) (Nat.le_of_ble_eq_true rfl) h
    · replace h := h.2 hq
      refine v_iconst (n := 41) (x := nI 2) dX8_whyNoPiste_40 rfl (by decide) ?_
      refine v_goto (n := 91) dX8_whyNoPiste_41 (by decide) ?_
      exact v_iret dX8_whyNoPiste_91 rfl (Nat.le_of_ble_eq_true rfl) (Nat.le_of_ble_eq_true rfl) h
  · replace h := h.2 hq
    refine v_iconst (n := 17) (x := nI 1) dX8_whyNoPiste_16 rfl (by decide) ?_
    refine v_goto (n := 91) dX8_whyNoPiste_17 (by decide) ?_
    exact v_iret dX8_whyNoPiste_91 rfl (Nat.le_of_ble_eq_true rfl) (Nat.le_of_ble_eq_true rfl) h

