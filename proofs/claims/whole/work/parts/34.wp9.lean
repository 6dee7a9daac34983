/-! wp-lemmas by program (wip/whole/wp.py) -/
set_option maxRecDepth 20000 in
set_option maxHeartbeats 4000000 in
theorem wX8_stepOf (G : Gl) {P : Option Value → St → Prop} {X : String → St → Prop} (l : Nat) (hl : l < 6) (μ : St)
    (h : P (some (.int ((nI 2) - (msf μ l)))) μ) :
    Con G mX8_stepOf [.ref (zad G.1 10 0 0), .int (nI l)] μ P X := by
  refine con_of pn_X8 rfl (Nat.le_of_ble_eq_true rfl) ?_
  show VL G mX8_stepOf P X 0 [(0, .ref (zad G.1 10 0 0)), (1, .int (nI l))] [] μ
  refine v_iconst (n := 1) (x := nI 2) dX8_stepOf_0 rfl (by decide) ?_
  refine v_aload_n (n := 2) dX8_stepOf_1 rfl rfl ?_
  refine v_iload_n (n := 3) dX8_stepOf_2 rfl rfl ?_
  refine v_callV (n := 6) (k := 10) (b := 0) (i := 0) (As := [.int (nI l)]) (rest := [.int (nI 2)]) dX8_stepOf_3 rfl lk_X8_55 rfl rfl (Nat.le_of_ble_eq_true rfl) ⟨Nat.le_of_ble_eq_true rfl, Nat.le_of_ble_eq_true rfl, Nat.le_of_ble_eq_true rfl, Nat.le_of_ble_eq_true rfl⟩ zokc_10 (s_X8_stateOf G (nI l) l rfl (show l < 6 by omega) μ) (fun v μ9 hp => ?_) (fun _ _ hp => False.elim hp)
  rw [hp.1, hp.2]
  refine v_norm (st' := [.int (msf μ l), .int (nI 2)]) (cells' := 0) (slots' := 0) rfl rfl rfl ?_
  refine v_isub (n := 7) dX8_stepOf_6 rfl ?_
  exact v_iret dX8_stepOf_7 rfl (Nat.le_of_ble_eq_true rfl) (Nat.le_of_ble_eq_true rfl) h

set_option maxRecDepth 20000 in
set_option maxHeartbeats 4000000 in
theorem wX8_isOpenTo (G : Gl) {P : Option Value → St → Prop} {X : String → St → Prop} (g : Nat) (hg : g < 16) (l : Nat) (hl : l < 6) (μ : St)
    (h : ((¬ ((μ 26 0 0 (212 + 10 * g + 1)) >>> ((μ 26 0 0 (6 + 21 * l + 2)) &&& 31)) &&& (nI 1) = nI 1 → P (some (.int (nI 0))) μ) ∧ (((μ 26 0 0 (212 + 10 * g + 1)) >>> ((μ 26 0 0 (6 + 21 * l + 2)) &&& 31)) &&& (nI 1) = nI 1 → ((btw (μ 26 0 0 2) (μ 26 0 0 (212 + 10 * g + 2)) (μ 26 0 0 (212 + 10 * g + 3)) = false → P (some (.int (nI 0))) μ) ∧ (btw (μ 26 0 0 2) (μ 26 0 0 (212 + 10 * g + 2)) (μ 26 0 0 (212 + 10 * g + 3)) = true → P (some (.int (nI 1))) μ))))) :
    Con G mX8_isOpenTo [.ref (zad G.1 10 0 0), .int (nI g), .int (nI l)] μ P X := by
  refine con_of pn_X8 rfl (Nat.le_of_ble_eq_true rfl) ?_
  show VL G mX8_isOpenTo P X 0 [(0, .ref (zad G.1 10 0 0)), (1, .int (nI g)), (2, .int (nI l))] [] μ
  refine v_iload_n (n := 1) dX8_isOpenTo_0 rfl rfl ?_
  refine v_callS (n := 4) (As := [.int (nI g)]) (rest := []) dX8_isOpenTo_1 rfl lk_X8_71 rfl rfl (Nat.le_of_ble_eq_true rfl) ⟨Nat.le_of_ble_eq_true rfl, Nat.le_of_ble_eq_true rfl, Nat.le_of_ble_eq_true rfl, Nat.le_of_ble_eq_true rfl⟩ (s_X8_guest0N G g μ) (fun v μ9 hp => ?_) (fun _ _ hp => False.elim hp)
  rw [hp.1, hp.2]
  refine v_norm (st' := [.int (nI (212 + 10 * g))]) (cells' := 0) (slots' := 0) rfl rfl rfl ?_
  refine v_istore_n (n := 5) (L' := [(0, .ref (zad G.1 10 0 0)), (1, .int (nI g)), (2, .int (nI l)), (3, .int (nI (212 + 10 * g)))]) dX8_isOpenTo_4 rfl (by decide) rfl ?_
  refine v_aload_n (n := 6) dX8_isOpenTo_5 rfl rfl ?_
  refine v_getf (n := 9) dX8_isOpenTo_6 rfl fl_X8_9 zokc_10 rfl ?_
  refine v_iload_n (n := 10) dX8_isOpenTo_9 rfl rfl ?_
  refine v_iconst (n := 11) (x := nI 1) dX8_isOpenTo_10 rfl (by decide) ?_
  refine v_iadd (n := 12) dX8_isOpenTo_11 rfl ?_
  refine v_top (y := nI (212 + 10 * g + 1)) (nI_add (212 + 10 * g) 1) ?_
  refine v_iald (n := 13) (j := (212 + 10 * g + 1)) dX8_isOpenTo_12 rfl zokc_26 (by decide) rfl rfl (show 212 + 10 * g + 1 < 372 by omega) (rfl) ?_
  refine v_aload_n (n := 14) dX8_isOpenTo_13 rfl rfl ?_
  refine v_getf (n := 17) dX8_isOpenTo_14 rfl fl_X8_9 zokc_10 rfl ?_
  refine v_iload_n (n := 18) dX8_isOpenTo_17 rfl rfl ?_
  refine v_callS (n := 21) (As := [.int (nI l)]) (rest := [.ref (zad G.1 26 0 0), .int (μ 26 0 0 (212 + 10 * g + 1))]) dX8_isOpenTo_18 rfl lk_X8_51 rfl rfl (Nat.le_of_ble_eq_true rfl) ⟨Nat.le_of_ble_eq_true rfl, Nat.le_of_ble_eq_true rfl, Nat.le_of_ble_eq_true rfl, Nat.le_of_ble_eq_true rfl⟩ (s_X8_lift0N G l μ) (fun v μ9 hp => ?_) (fun _ _ hp => False.elim hp)
  rw [hp.1, hp.2]
  refine v_norm (st' := [.int (nI (6 + 21 * l)), .ref (zad G.1 26 0 0), .int (μ 26 0 0 (212 + 10 * g + 1))]) (cells' := 0) (slots' := 0) rfl rfl rfl ?_
  refine v_iconst (n := 22) (x := nI 2) dX8_isOpenTo_21 rfl (by decide) ?_
  refine v_iadd (n := 23) dX8_isOpenTo_22 rfl ?_
  refine v_top (y := nI (6 + 21 * l + 2)) (nI_add (6 + 21 * l) 2) ?_
  refine v_iald (n := 24) (j := (6 + 21 * l + 2)) dX8_isOpenTo_23 rfl zokc_26 (by decide) rfl rfl (show 6 + 21 * l + 2 < 372 by omega) (rfl) ?_
  refine v_ishr (n := 25) dX8_isOpenTo_24 rfl ?_
  refine v_iconst (n := 26) (x := nI 1) dX8_isOpenTo_25 rfl (by decide) ?_
  refine v_iand (n := 27) dX8_isOpenTo_26 rfl ?_
  refine v_iconst (n := 28) (x := nI 1) dX8_isOpenTo_27 rfl (by decide) ?_
  refine v_icmp_ne (n := 31) (t := 63) dX8_isOpenTo_28 rfl (by decide) (fun hq => ?_) (fun hq => ?_)
  · replace h := h.1 hq
    refine v_iconst (n := 64) (x := nI 0) dX8_isOpenTo_63 rfl (by decide) ?_
    exact v_zret dX8_isOpenTo_64 rfl (by decide) (Nat.le_of_ble_eq_true rfl) (Nat.le_of_ble_eq_true rfl) h
  · replace h := h.2 hq
    refine v_aload_n (n := 32) dX8_isOpenTo_31 rfl rfl ?_
    refine v_getf (n := 35) dX8_isOpenTo_32 rfl fl_X8_9 zokc_10 rfl ?_
    refine v_iconst (n := 36) (x := nI 2) dX8_isOpenTo_35 rfl (by decide) ?_
    refine v_iald (n := 37) (j := 2) dX8_isOpenTo_36 rfl zokc_26 (by decide) rfl rfl (by decide) (rfl) ?_
    refine v_aload_n (n := 38) dX8_isOpenTo_37 rfl rfl ?_
    refine v_getf (n := 41) dX8_isOpenTo_38 rfl fl_X8_9 zokc_10 rfl ?_
    refine v_iload_n (n := 42) dX8_isOpenTo_41 rfl rfl ?_
    refine v_iconst (n := 43) (x := nI 2) dX8_isOpenTo_42 rfl (by decide) ?_
    refine v_iadd (n := 44) dX8_isOpenTo_43 rfl ?_
    refine v_top (y := nI (212 + 10 * g + 2)) (nI_add (212 + 10 * g) 2) ?_
    refine v_iald (n := 45) (j := (212 + 10 * g + 2)) dX8_isOpenTo_44 rfl zokc_26 (by decide) rfl rfl (show 212 + 10 * g + 2 < 372 by omega) (rfl) ?_
    refine v_aload_n (n := 46) dX8_isOpenTo_45 rfl rfl ?_
    refine v_getf (n := 49) dX8_isOpenTo_46 rfl fl_X8_9 zokc_10 rfl ?_
    refine v_iload_n (n := 50) dX8_isOpenTo_49 rfl rfl ?_
    refine v_iconst (n := 51) (x := nI 3) dX8_isOpenTo_50 rfl (by decide) ?_
    refine v_iadd (n := 52) dX8_isOpenTo_51 rfl ?_
    refine v_top (y := nI (212 + 10 * g + 3)) (nI_add (212 + 10 * g) 3) ?_
    refine v_iald (n := 53) (j := (212 + 10 * g + 3)) dX8_isOpenTo_52 rfl zokc_26 (by decide) rfl rfl (show 212 + 10 * g + 3 < 372 by omega) (rfl) ?_
    refine v_callS (n := 56) (As := [.int (μ 26 0 0 2), .int (μ 26 0 0 (212 + 10 * g + 2)), .int (μ 26 0 0 (212 + 10 * g + 3))]) (rest := []) dX8_isOpenTo_53 rfl lk_X8_47 rfl rfl (Nat.le_of_ble_eq_true rfl) ⟨Nat.le_of_ble_eq_true rfl, Nat.le_of_ble_eq_true rfl, Nat.le_of_ble_eq_true rfl, Nat.le_of_ble_eq_true rfl⟩ (s_X8_in G (μ 26 0 0 2) (μ 26 0 0 (212 + 10 * g + 2)) (μ 26 0 0 (212 + 10 * g + 3)) μ) (fun v μ9 hp => ?_) (fun _ _ hp => False.elim hp)
    rw [hp.1, hp.2]
    refine v_norm (st' := [.int (bI (btw (μ 26 0 0 2) (μ 26 0 0 (212 + 10 * g + 2)) (μ 26 0 0 (212 + 10 * g + 3))))]) (cells' := 0) (slots' := 0) rfl rfl rfl ?_
    refine v_if_eq (n := 59) (t := 63) dX8_isOpenTo_56 rfl (by decide) (fun hq => ?_) (fun hq => ?_)
    · replace h := h.1 (bI_f hq)
      refine v_iconst (n := 64) (x := nI 0) dX8_isOpenTo_63 rfl (by decide) ?_
      exact v_zret dX8_isOpenTo_64 rfl (by decide) (Nat.le_of_ble_eq_true rfl) (Nat.le_of_ble_eq_true rfl) h
    · replace h := h.2 (bI_nf hq)
      refine v_iconst (n := 60) (x := nI 1) dX8_isOpenTo_59 rfl (by decide) ?_
      refine v_goto (n := 64) dX8_isOpenTo_60 (by decide) ?_
      exact v_zret dX8_isOpenTo_64 rfl (by decide) (Nat.le_of_ble_eq_true rfl) (Nat.le_of_ble_eq_true rfl) h

set_option maxRecDepth 20000 in
set_option maxHeartbeats 4000000 in
theorem wX8_skiTime (G : Gl) {P : Option Value → St → Prop} {X : String → St → Prop} (g : Nat) (hg : g < 16) (pi : Nat) (hpi : pi < 10) (μ : St)
    (h : ((μ 26 0 0 (132 + 8 * pi + 2) ≤ μ 26 0 0 (212 + 10 * g) → P (some (.int (μ 26 0 0 (132 + 8 * pi + 3)))) μ) ∧ (¬ μ 26 0 0 (132 + 8 * pi + 2) ≤ μ 26 0 0 (212 + 10 * g) → P (some (.int ((nI 2) * (μ 26 0 0 (132 + 8 * pi + 3))))) μ))) :
    Con G mX8_skiTime [.ref (zad G.1 10 0 0), .int (nI g), .int (nI pi)] μ P X := by
  refine con_of pn_X8 rfl (Nat.le_of_ble_eq_true rfl) ?_
  show VL G mX8_skiTime P X 0 [(0, .ref (zad G.1 10 0 0)), (1, .int (nI g)), (2, .int (nI pi))] [] μ
  refine v_iload_n (n := 1) dX8_skiTime_0 rfl rfl ?_
  refine v_callS (n := 4) (As := [.int (nI pi)]) (rest := []) dX8_skiTime_1 rfl lk_X8_68 rfl rfl (Nat.le_of_ble_eq_true rfl) ⟨Nat.le_of_ble_eq_true rfl, Nat.le_of_ble_eq_true rfl, Nat.le_of_ble_eq_true rfl, Nat.le_of_ble_eq_true rfl⟩ (s_X8_piste0N G pi μ) (fun v μ9 hp => ?_) (fun _ _ hp => False.elim hp)
  rw [hp.1, hp.2]
  refine v_norm (st' := [.int (nI (132 + 8 * pi))]) (cells' := 0) (slots' := 0) rfl rfl rfl ?_
  refine v_istore_n (n := 5) (L' := [(0, .ref (zad G.1 10 0 0)), (1, .int (nI g)), (2, .int (nI pi)), (3, .int (nI (132 + 8 * pi)))]) dX8_skiTime_4 rfl (by decide) rfl ?_
  refine v_aload_n (n := 6) dX8_skiTime_5 rfl rfl ?_
  refine v_getf (n := 9) dX8_skiTime_6 rfl fl_X8_9 zokc_10 rfl ?_
  refine v_iload_n (n := 10) dX8_skiTime_9 rfl rfl ?_
  refine v_iconst (n := 11) (x := nI 2) dX8_skiTime_10 rfl (by decide) ?_
  refine v_iadd (n := 12) dX8_skiTime_11 rfl ?_
  refine v_top (y := nI (132 + 8 * pi + 2)) (nI_add (132 + 8 * pi) 2) ?_
  refine v_iald (n := 13) (j := (132 + 8 * pi + 2)) dX8_skiTime_12 rfl zokc_26 (by decide) rfl rfl (show 132 + 8 * pi + 2 < 372 by omega) (rfl) ?_
  refine v_aload_n (n := 14) dX8_skiTime_13 rfl rfl ?_
  refine v_getf (n := 17) dX8_skiTime_14 rfl fl_X8_9 zokc_10 rfl ?_
  refine v_iload_n (n := 18) dX8_skiTime_17 rfl rfl ?_
  refine v_callS (n := 21) (As := [.int (nI g)]) (rest := [.ref (zad G.1 26 0 0), .int (μ 26 0 0 (132 + 8 * pi + 2))]) dX8_skiTime_18 rfl lk_X8_71 rfl rfl (Nat.le_of_ble_eq_true rfl) ⟨Nat.le_of_ble_eq_true rfl, Nat.le_of_ble_eq_true rfl, Nat.le_of_ble_eq_true rfl, Nat.le_of_ble_eq_true rfl⟩ (s_X8_guest0N G g μ) (fun v μ9 hp => ?_) (fun _ _ hp => False.elim hp)
  rw [hp.1, hp.2]
  refine v_norm (st' := [.int (nI (212 + 10 * g)), .ref (zad G.1 26 0 0), .int (μ 26 0 0 (132 + 8 * pi + 2))]) (cells' := 0) (slots' := 0) rfl rfl rfl ?_
  refine v_iald (n := 22) (j := (212 + 10 * g)) dX8_skiTime_21 rfl zokc_26 (by decide) rfl rfl (show 212 + 10 * g < 372 by omega) (rfl) ?_
  refine v_icmp_le (n := 25) (t := 38) dX8_skiTime_22 rfl (by decide) (fun hq => ?_) (fun hq => ?_)
  · replace h := h.1 hq
    refine v_aload_n (n := 39) dX8_skiTime_38 rfl rfl ?_
    refine v_getf (n := 42) dX8_skiTime_39 rfl fl_X8_9 zokc_10 rfl ?_
    refine v_iload_n (n := 43) dX8_skiTime_42 rfl rfl ?_
    refine v_iconst (n := 44) (x := nI 3) dX8_skiTime_43 rfl (by decide) ?_
    refine v_iadd (n := 45) dX8_skiTime_44 rfl ?_
    refine v_top (y := nI (132 + 8 * pi + 3)) (nI_add (132 + 8 * pi) 3) ?_
    refine v_iald (n := 46) (j := (132 + 8 * pi + 3)) dX8_skiTime_45 rfl zokc_26 (by decide) rfl rfl (show 132 + 8 * pi + 3 < 372 by omega) (rfl) ?_
    exact v_iret dX8_skiTime_46 rfl (Nat.le_of_ble_eq_true rfl) (Nat.le_of_ble_eq_true rfl) h
  · replace h := h.2 hq
    refine v_iconst (n := 26) (x := nI 2) dX8_skiTime_25 rfl (by decide) ?_
    refine v_aload_n (n := 27) dX8_skiTime_26 rfl rfl ?_
    refine v_getf (n := 30) dX8_skiTime_27 rfl fl_X8_9 zokc_10 rfl ?_
    refine v_iload_n (n := 31) dX8_skiTime_30 rfl rfl ?_
    refine v_iconst (n := 32) (x := nI 3) dX8_skiTime_31 rfl (by decide) ?_
    refine v_iadd (n := 33) dX8_skiTime_32 rfl ?_
    refine v_top (y := nI (132 + 8 * pi + 3)) (nI_add (132 + 8 * pi) 3) ?_
    refine v_iald (n := 34) (j := (132 + 8 * pi + 3)) dX8_skiTime_33 rfl zokc_26 (by decide) rfl rfl (show 132 + 8 * pi + 3 < 372 by omega) (rfl) ?_
    refine v_imul (n := 35) dX8_skiTime_34 rfl ?_
    refine v_goto (n := 46) dX8_skiTime_35 (by decide) ?_
    exact v_iret dX8_skiTime_46 rfl (Nat.le_of_ble_eq_true rfl) (Nat.le_of_ble_eq_true rfl) h

set_option maxRecDepth 20000 in
set_option maxHeartbeats 4000000 in
theorem wX8_lacks (G : Gl) {P : Option Value → St → Prop} {X : String → St → Prop} (x1 : Int32) (x2 : Int32) (x3 : Int32) (μ : St)
    (h : ((mix μ 5 x1 = false → P (some (.int (nI 1))) μ) ∧ (mix μ 5 x1 = true → ((isSt x2 = false → P (some (.int (nI 1))) μ) ∧ (isSt x2 = true → ((isSt x3 = false → P (some (.int (nI 1))) μ) ∧ (isSt x3 = true → P (some (.int (nI 0))) μ))))))) :
    Con G mX8_lacks [.ref (zad G.1 10 0 0), .int x1, .int x2, .int x3] μ P X := by
  refine con_of pn_X8 rfl (Nat.le_of_ble_eq_true rfl) ?_
  show VL G mX8_lacks P X 0 [(0, .ref (zad G.1 10 0 0)), (1, .int x1), (2, .int x2), (3, .int x3)] [] μ
  refine v_aload_n (n := 1) dX8_lacks_0 rfl rfl ?_
  refine v_iload_n (n := 2) dX8_lacks_1 rfl rfl ?_
  refine v_callV (n := 5) (k := 10) (b := 0) (i := 0) (As := [.int x1]) (rest := []) dX8_lacks_2 rfl lk_X8_92 rfl rfl (Nat.le_of_ble_eq_true rfl) ⟨Nat.le_of_ble_eq_true rfl, Nat.le_of_ble_eq_true rfl, Nat.le_of_ble_eq_true rfl, Nat.le_of_ble_eq_true rfl⟩ zokc_10 (s_X8_isGuest G x1 μ) (fun v μ9 hp => ?_) (fun _ _ hp => False.elim hp)
  rw [hp.1, hp.2]
  refine v_norm (st' := [.int (bI (mix μ 5 x1))]) (cells' := 0) (slots' := 0) rfl rfl rfl ?_
  refine v_if_eq (n := 8) (t := 26) dX8_lacks_5 rfl (by decide) (fun hq => ?_) (fun hq => ?_)
  · replace h := h.1 (bI_f hq)
    refine v_iconst (n := 27) (x := nI 1) dX8_lacks_26 rfl (by decide) ?_
    exact v_iret dX8_lacks_27 rfl (Nat.le_of_ble_eq_true rfl) (Nat.le_of_ble_eq_true rfl) h
  · replace h := h.2 (bI_nf hq)
    refine v_iload_n (n := 9) dX8_lacks_8 rfl rfl ?_
    refine v_callS (n := 12) (As := [.int x2]) (rest := []) dX8_lacks_9 rfl lk_X8_58 rfl rfl (Nat.le_of_ble_eq_true rfl) ⟨Nat.le_of_ble_eq_true rfl, Nat.le_of_ble_eq_true rfl, Nat.le_of_ble_eq_true rfl, Nat.le_of_ble_eq_true rfl⟩ (s_X8_isStation G x2 μ) (fun v μ9 hp => ?_) (fun _ _ hp => False.elim hp)
    rw [hp.1, hp.2]
    refine v_norm (st' := [.int (bI (isSt x2))]) (cells' := 0) (slots' := 0) rfl rfl rfl ?_
    refine v_if_eq (n := 15) (t := 26) dX8_lacks_12 rfl (by decide) (fun hq => ?_) (fun hq => ?_)
    · replace h := h.1 (bI_f hq)
      refine v_iconst (n := 27) (x := nI 1) dX8_lacks_26 rfl (by decide) ?_
      exact v_iret dX8_lacks_27 rfl (Nat.le_of_ble_eq_true rfl) (Nat.le_of_ble_eq_true rfl) h
    · replace h := h.2 (bI_nf hq)
      refine v_iload_n (n := 16) dX8_lacks_15 rfl rfl ?_
      refine v_callS (n := 19) (As := [.int x3]) (rest := []) dX8_lacks_16 rfl lk_X8_58 rfl rfl (Nat.le_of_ble_eq_true rfl) ⟨Nat.le_of_ble_eq_true rfl, Nat.le_of_ble_eq_true rfl, Nat.le_of_ble_eq_true rfl, Nat.le_of_ble_eq_true rfl⟩ (s_X8_isStation G x3 μ) (fun v μ9 hp => ?_) (fun _ _ hp => False.elim hp)
      rw [hp.1, hp.2]
      refine v_norm (st' := [.int (bI (isSt x3))]) (cells' := 0) (slots' := 0) rfl rfl rfl ?_
      refine v_if_eq (n := 22) (t := 26) dX8_lacks_19 rfl (by decide) (fun hq => ?_) (fun hq => ?_)
      · replace h := h.1 (bI_f hq)
        refine v_iconst (n := 27) (x := nI 1) dX8_lacks_26 rfl (by decide) ?_
        exact v_iret dX8_lacks_27 rfl (Nat.le_of_ble_eq_true rfl) (Nat.le_of_ble_eq_true rfl) h
      · replace h := h.2 (bI_nf hq)
        refine v_iconst (n := 23) (x := nI 0) dX8_lacks_22 rfl (by decide) ?_
        refine v_goto (n := 27) dX8_lacks_23 (by decide) ?_
        exact v_iret dX8_lacks_27 rfl (Nat.le_of_ble_eq_true rfl) (Nat.le_of_ble_eq_true rfl) h

set_option maxRecDepth 20000 in
set_option maxHeartbeats 4000000 in
theorem wX8_isWayPiste (G : Gl) {P : Option Value → St → Prop} {X : String → St → Prop} (g : Nat) (hg : g < 16) (pi : Nat) (hpi : pi < 10) (μ : St)
    (h : ((¬ μ 26 0 0 (132 + 8 * pi + 4) = 0 → P (some (.int (nI 0))) μ) ∧ (μ 26 0 0 (132 + 8 * pi + 4) = 0 → (((μ 26 0 0 (212 + 10 * g)) + (nI 1) < μ 26 0 0 (132 + 8 * pi + 2) → P (some (.int (nI 0))) μ) ∧ (¬ (μ 26 0 0 (212 + 10 * g)) + (nI 1) < μ 26 0 0 (132 + 8 * pi + 2) → P (some (.int (nI 1))) μ))))) :
    Con G mX8_isWayPiste [.ref (zad G.1 10 0 0), .int (nI g), .int (nI pi)] μ P X := by
  refine con_of pn_X8 rfl (Nat.le_of_ble_eq_true rfl) ?_
  show VL G mX8_isWayPiste P X 0 [(0, .ref (zad G.1 10 0 0)), (1, .int (nI g)), (2, .int (nI pi))] [] μ
  refine v_aload_n (n := 1) dX8_isWayPiste_0 rfl rfl ?_
  refine v_getf (n := 4) dX8_isWayPiste_1 rfl fl_X8_9 zokc_10 rfl ?_
  refine v_iload_n (n := 5) dX8_isWayPiste_4 rfl rfl ?_
  refine v_callS (n := 8) (As := [.int (nI pi)]) (rest := [.ref (zad G.1 26 0 0)]) dX8_isWayPiste_5 rfl lk_X8_68 rfl rfl (Nat.le_of_ble_eq_true rfl) ⟨Nat.le_of_ble_eq_true rfl, Nat.le_of_ble_eq_true rfl, Nat.le_of_ble_eq_true rfl, Nat.le_of_ble_eq_true rfl⟩ (s_X8_piste0N G pi μ) (fun v μ9 hp => ?_) (fun _ _ hp => False.elim hp)
  rw [hp.1, hp.2]
  refine v_norm (st' := [.int (nI (132 + 8 * pi)), .ref (zad G.1 26 0 0)]) (cells' := 0) (slots' := 0) rfl rfl rfl ?_
  refine v_iconst (n := 9) (x := nI 4) dX8_isWayPiste_8 rfl (by decide) ?_
  refine v_iadd (n := 10) dX8_isWayPiste_9 rfl ?_
  refine v_top (y := nI (132 + 8 * pi + 4)) (nI_add (132 + 8 * pi) 4) ?_
  refine v_iald (n := 11) (j := (132 + 8 * pi + 4)) dX8_isWayPiste_10 rfl zokc_26 (by decide) rfl rfl (show 132 + 8 * pi + 4 < 372 by omega) (rfl) ?_
  refine v_if_ne (n := 14) (t := 43) dX8_isWayPiste_11 rfl (by decide) (fun hq => ?_) (fun hq => ?_)
  · replace h := h.1 hq
    refine v_iconst (n := 44) (x := nI 0) dX8_isWayPiste_43 rfl (by decide) ?_
    exact v_zret dX8_isWayPiste_44 rfl (by decide) (Nat.le_of_ble_eq_true rfl) (Nat.le_of_ble_eq_true rfl) h
  · replace h := h.2 hq
    refine v_aload_n (n := 15) dX8_isWayPiste_14 rfl rfl ?_
    refine v_getf (n := 18) dX8_isWayPiste_15 rfl fl_X8_9 zokc_10 rfl ?_
    refine v_iload_n (n := 19) dX8_isWayPiste_18 rfl rfl ?_
    refine v_callS (n := 22) (As := [.int (nI pi)]) (rest := [.ref (zad G.1 26 0 0)]) dX8_isWayPiste_19 rfl lk_X8_68 rfl rfl (Nat.le_of_ble_eq_true rfl) ⟨Nat.le_of_ble_eq_true rfl, Nat.le_of_ble_eq_true rfl, Nat.le_of_ble_eq_true rfl, Nat.le_of_ble_eq_true rfl⟩ (s_X8_piste0N G pi μ) (fun v μ9 hp => ?_) (fun _ _ hp => False.elim hp)
    rw [hp.1, hp.2]
    refine v_norm (st' := [.int (nI (132 + 8 * pi)), .ref (zad G.1 26 0 0)]) (cells' := 0) (slots' := 0) rfl rfl rfl ?_
    refine v_iconst (n := 23) (x := nI 2) dX8_isWayPiste_22 rfl (by decide) ?_
    refine v_iadd (n := 24) dX8_isWayPiste_23 rfl ?_
    refine v_top (y := nI (132 + 8 * pi + 2)) (nI_add (132 + 8 * pi) 2) ?_
    refine v_iald (n := 25) (j := (132 + 8 * pi + 2)) dX8_isWayPiste_24 rfl zokc_26 (by decide) rfl rfl (show 132 + 8 * pi + 2 < 372 by omega) (rfl) ?_
    refine v_aload_n (n := 26) dX8_isWayPiste_25 rfl rfl ?_
    refine v_getf (n := 29) dX8_isWayPiste_26 rfl fl_X8_9 zokc_10 rfl ?_
    refine v_iload_n (n := 30) dX8_isWayPiste_29 rfl rfl ?_
    refine v_callS (n := 33) (As := [.int (nI g)]) (rest := [.ref (zad G.1 26 0 0), .int (μ 26 0 0 (132 + 8 * pi + 2))]) dX8_isWayPiste_30 rfl lk_X8_71 rfl rfl (Nat.le_of_ble_eq_true rfl) ⟨Nat.le_of_ble_eq_true rfl, Nat.le_of_ble_eq_true rfl, Nat.le_of_ble_eq_true rfl, Nat.le_of_ble_eq_true rfl⟩ (s_X8_guest0N G g μ) (fun v μ9 hp => ?_) (fun _ _ hp => False.elim hp)
    rw [hp.1, hp.2]
    refine v_norm (st' := [.int (nI (212 + 10 * g)), .ref (zad G.1 26 0 0), .int (μ 26 0 0 (132 + 8 * pi + 2))]) (cells' := 0) (slots' := 0) rfl rfl rfl ?_
    refine v_iald (n := 34) (j := (212 + 10 * g)) dX8_isWayPiste_33 rfl zokc_26 (by decide) rfl rfl (show 212 + 10 * g < 372 by omega) (rfl) ?_
    refine v_iconst (n := 35) (x := nI 1) dX8_isWayPiste_34 rfl (by decide) ?_
    refine v_iadd (n := 36) dX8_isWayPiste_35 rfl ?_
    refine v_icmp_gt (n := 39) (t := 43) dX8_isWayPiste_36 rfl (by decide) (fun hq => ?_) (fun hq => ?_)
    · replace h := h.1 hq
      refine v_iconst (n := 44) (x := nI 0) dX8_isWayPiste_43 rfl (by decide) ?_
      exact v_zret dX8_isWayPiste_44 rfl (by decide) (Nat.le_of_ble_eq_true rfl) (Nat.le_of_ble_eq_true rfl) h
    · replace h := h.2 hq
      refine v_iconst (n := 40) (x := nI 1) dX8_isWayPiste_39 rfl (by decide) ?_
      refine v_goto (n := 44) dX8_isWayPiste_40 (by decide) ?_
      exact v_zret dX8_isWayPiste_44 rfl (by decide) (Nat.le_of_ble_eq_true rfl) (Nat.le_of_ble_eq_true rfl) h

