/-! wp-lemmas by program (wip/whole/wp.py) -/
set_option maxRecDepth 20000 in
set_option maxHeartbeats 4000000 in
theorem wX8_isStation (G : Gl) {P : Option Value → St → Prop} {X : String → St → Prop} (x0 : Int32) (μ : St)
    (h : P (some (.int (bI (btw x0 (nI 0) (nI 7))))) μ) :
    Con G mX8_isStation [.int x0] μ P X := by
  refine con_of pn_X8 rfl (Nat.le_of_ble_eq_true rfl) ?_
  show VL G mX8_isStation P X 0 [(0, .int x0)] [] μ
  refine v_iload_n (n := 1) dX8_isStation_0 rfl rfl ?_
  refine v_iconst (n := 2) (x := nI 0) dX8_isStation_1 rfl (by decide) ?_
  refine v_bipush (n := 4) (x := nI 7) dX8_isStation_2 rfl (by decide) ?_
  refine v_callS (n := 7) (As := [.int x0, .int (nI 0), .int (nI 7)]) (rest := []) dX8_isStation_4 rfl lk_X8_47 rfl rfl (Nat.le_of_ble_eq_true rfl) ⟨Nat.le_of_ble_eq_true rfl, Nat.le_of_ble_eq_true rfl, Nat.le_of_ble_eq_true rfl, Nat.le_of_ble_eq_true rfl⟩ (s_X8_in G x0 (nI 0) (nI 7) μ) (fun v μ9 hp => ?_) (fun _ _ hp => False.elim hp)
  rw [hp.1, hp.2]
  refine v_norm (st' := [.int (bI (btw x0 (nI 0) (nI 7)))]) (cells' := 0) (slots' := 0) rfl rfl rfl ?_
  exact v_zret dX8_isStation_7 rfl (nar_bI _) (Nat.le_of_ble_eq_true rfl) (Nat.le_of_ble_eq_true rfl) h

set_option maxRecDepth 20000 in
set_option maxHeartbeats 4000000 in
theorem wX8_isLift (G : Gl) {P : Option Value → St → Prop} {X : String → St → Prop} (x1 : Int32) (μ : St)
    (h : P (some (.int (bI (btw x1 (nI 0) ((μ 26 0 0 3) - (nI 1)))))) μ) :
    Con G mX8_isLift [.ref (zad G.1 10 0 0), .int x1] μ P X := by
  refine con_of pn_X8 rfl (Nat.le_of_ble_eq_true rfl) ?_
  show VL G mX8_isLift P X 0 [(0, .ref (zad G.1 10 0 0)), (1, .int x1)] [] μ
  refine v_iload_n (n := 1) dX8_isLift_0 rfl rfl ?_
  refine v_iconst (n := 2) (x := nI 0) dX8_isLift_1 rfl (by decide) ?_
  refine v_aload_n (n := 3) dX8_isLift_2 rfl rfl ?_
  refine v_getf (n := 6) dX8_isLift_3 rfl fl_X8_9 zokc_10 rfl ?_
  refine v_iconst (n := 7) (x := nI 3) dX8_isLift_6 rfl (by decide) ?_
  refine v_iald (n := 8) (j := 3) dX8_isLift_7 rfl zokc_26 (by decide) rfl rfl (by decide) (rfl) ?_
  refine v_iconst (n := 9) (x := nI 1) dX8_isLift_8 rfl (by decide) ?_
  refine v_isub (n := 10) dX8_isLift_9 rfl ?_
  refine v_callS (n := 13) (As := [.int x1, .int (nI 0), .int ((μ 26 0 0 3) - (nI 1))]) (rest := []) dX8_isLift_10 rfl lk_X8_47 rfl rfl (Nat.le_of_ble_eq_true rfl) ⟨Nat.le_of_ble_eq_true rfl, Nat.le_of_ble_eq_true rfl, Nat.le_of_ble_eq_true rfl, Nat.le_of_ble_eq_true rfl⟩ (s_X8_in G x1 (nI 0) ((μ 26 0 0 3) - (nI 1)) μ) (fun v μ9 hp => ?_) (fun _ _ hp => False.elim hp)
  rw [hp.1, hp.2]
  refine v_norm (st' := [.int (bI (btw x1 (nI 0) ((μ 26 0 0 3) - (nI 1))))]) (cells' := 0) (slots' := 0) rfl rfl rfl ?_
  exact v_zret dX8_isLift_13 rfl (nar_bI _) (Nat.le_of_ble_eq_true rfl) (Nat.le_of_ble_eq_true rfl) h

set_option maxRecDepth 20000 in
set_option maxHeartbeats 4000000 in
theorem wX8_isPiste (G : Gl) {P : Option Value → St → Prop} {X : String → St → Prop} (x1 : Int32) (μ : St)
    (h : P (some (.int (bI (btw x1 (nI 0) ((μ 26 0 0 4) - (nI 1)))))) μ) :
    Con G mX8_isPiste [.ref (zad G.1 10 0 0), .int x1] μ P X := by
  refine con_of pn_X8 rfl (Nat.le_of_ble_eq_true rfl) ?_
  show VL G mX8_isPiste P X 0 [(0, .ref (zad G.1 10 0 0)), (1, .int x1)] [] μ
  refine v_iload_n (n := 1) dX8_isPiste_0 rfl rfl ?_
  refine v_iconst (n := 2) (x := nI 0) dX8_isPiste_1 rfl (by decide) ?_
  refine v_aload_n (n := 3) dX8_isPiste_2 rfl rfl ?_
  refine v_getf (n := 6) dX8_isPiste_3 rfl fl_X8_9 zokc_10 rfl ?_
  refine v_iconst (n := 7) (x := nI 4) dX8_isPiste_6 rfl (by decide) ?_
  refine v_iald (n := 8) (j := 4) dX8_isPiste_7 rfl zokc_26 (by decide) rfl rfl (by decide) (rfl) ?_
  refine v_iconst (n := 9) (x := nI 1) dX8_isPiste_8 rfl (by decide) ?_
  refine v_isub (n := 10) dX8_isPiste_9 rfl ?_
  refine v_callS (n := 13) (As := [.int x1, .int (nI 0), .int ((μ 26 0 0 4) - (nI 1))]) (rest := []) dX8_isPiste_10 rfl lk_X8_47 rfl rfl (Nat.le_of_ble_eq_true rfl) ⟨Nat.le_of_ble_eq_true rfl, Nat.le_of_ble_eq_true rfl, Nat.le_of_ble_eq_true rfl, Nat.le_of_ble_eq_true rfl⟩ (s_X8_in G x1 (nI 0) ((μ 26 0 0 4) - (nI 1)) μ) (fun v μ9 hp => ?_) (fun _ _ hp => False.elim hp)
  rw [hp.1, hp.2]
  refine v_norm (st' := [.int (bI (btw x1 (nI 0) ((μ 26 0 0 4) - (nI 1))))]) (cells' := 0) (slots' := 0) rfl rfl rfl ?_
  exact v_zret dX8_isPiste_13 rfl (nar_bI _) (Nat.le_of_ble_eq_true rfl) (Nat.le_of_ble_eq_true rfl) h

set_option maxRecDepth 20000 in
set_option maxHeartbeats 4000000 in
theorem wX8_isGuest (G : Gl) {P : Option Value → St → Prop} {X : String → St → Prop} (x1 : Int32) (μ : St)
    (h : P (some (.int (bI (btw x1 (nI 0) ((μ 26 0 0 5) - (nI 1)))))) μ) :
    Con G mX8_isGuest [.ref (zad G.1 10 0 0), .int x1] μ P X := by
  refine con_of pn_X8 rfl (Nat.le_of_ble_eq_true rfl) ?_
  show VL G mX8_isGuest P X 0 [(0, .ref (zad G.1 10 0 0)), (1, .int x1)] [] μ
  refine v_iload_n (n := 1) dX8_isGuest_0 rfl rfl ?_
  refine v_iconst (n := 2) (x := nI 0) dX8_isGuest_1 rfl (by decide) ?_
  refine v_aload_n (n := 3) dX8_isGuest_2 rfl rfl ?_
  refine v_getf (n := 6) dX8_isGuest_3 rfl fl_X8_9 zokc_10 rfl ?_
  refine v_iconst (n := 7) (x := nI 5) dX8_isGuest_6 rfl (by decide) ?_
  refine v_iald (n := 8) (j := 5) dX8_isGuest_7 rfl zokc_26 (by decide) rfl rfl (by decide) (rfl) ?_
  refine v_iconst (n := 9) (x := nI 1) dX8_isGuest_8 rfl (by decide) ?_
  refine v_isub (n := 10) dX8_isGuest_9 rfl ?_
  refine v_callS (n := 13) (As := [.int x1, .int (nI 0), .int ((μ 26 0 0 5) - (nI 1))]) (rest := []) dX8_isGuest_10 rfl lk_X8_47 rfl rfl (Nat.le_of_ble_eq_true rfl) ⟨Nat.le_of_ble_eq_true rfl, Nat.le_of_ble_eq_true rfl, Nat.le_of_ble_eq_true rfl, Nat.le_of_ble_eq_true rfl⟩ (s_X8_in G x1 (nI 0) ((μ 26 0 0 5) - (nI 1)) μ) (fun v μ9 hp => ?_) (fun _ _ hp => False.elim hp)
  rw [hp.1, hp.2]
  refine v_norm (st' := [.int (bI (btw x1 (nI 0) ((μ 26 0 0 5) - (nI 1))))]) (cells' := 0) (slots' := 0) rfl rfl rfl ?_
  exact v_zret dX8_isGuest_13 rfl (nar_bI _) (Nat.le_of_ble_eq_true rfl) (Nat.le_of_ble_eq_true rfl) h

set_option maxRecDepth 20000 in
set_option maxHeartbeats 4000000 in
theorem wX8_stateOf (G : Gl) {P : Option Value → St → Prop} {X : String → St → Prop} (l : Nat) (hl : l < 6) (μ : St)
    (h : ((nI 6 ≤ (μ 26 0 0 0) + (μ 26 0 0 (6 + 21 * l + 6)) → ((nI 9 ≤ (μ 26 0 0 0) + (μ 26 0 0 (6 + 21 * l + 6)) → P (some (.int (nI 2))) μ) ∧ (¬ nI 9 ≤ (μ 26 0 0 0) + (μ 26 0 0 (6 + 21 * l + 6)) → P (some (.int (nI 1))) μ))) ∧ (¬ nI 6 ≤ (μ 26 0 0 0) + (μ 26 0 0 (6 + 21 * l + 6)) → P (some (.int (nI 0))) μ))) :
    Con G mX8_stateOf [.ref (zad G.1 10 0 0), .int (nI l)] μ P X := by
  refine con_of pn_X8 rfl (Nat.le_of_ble_eq_true rfl) ?_
  show VL G mX8_stateOf P X 0 [(0, .ref (zad G.1 10 0 0)), (1, .int (nI l))] [] μ
  refine v_aload_n (n := 1) dX8_stateOf_0 rfl rfl ?_
  refine v_getf (n := 4) dX8_stateOf_1 rfl fl_X8_9 zokc_10 rfl ?_
  refine v_iconst (n := 5) (x := nI 0) dX8_stateOf_4 rfl (by decide) ?_
  refine v_iald (n := 6) (j := 0) dX8_stateOf_5 rfl zokc_26 (by decide) rfl rfl (by decide) (rfl) ?_
  refine v_aload_n (n := 7) dX8_stateOf_6 rfl rfl ?_
  refine v_getf (n := 10) dX8_stateOf_7 rfl fl_X8_9 zokc_10 rfl ?_
  refine v_iload_n (n := 11) dX8_stateOf_10 rfl rfl ?_
  refine v_callS (n := 14) (As := [.int (nI l)]) (rest := [.ref (zad G.1 26 0 0), .int (μ 26 0 0 0)]) dX8_stateOf_11 rfl lk_X8_51 rfl rfl (Nat.le_of_ble_eq_true rfl) ⟨Nat.le_of_ble_eq_true rfl, Nat.le_of_ble_eq_true rfl, Nat.le_of_ble_eq_true rfl, Nat.le_of_ble_eq_true rfl⟩ (s_X8_lift0N G l μ) (fun v μ9 hp => ?_) (fun _ _ hp => False.elim hp)
  rw [hp.1, hp.2]
  refine v_norm (st' := [.int (nI (6 + 21 * l)), .ref (zad G.1 26 0 0), .int (μ 26 0 0 0)]) (cells' := 0) (slots' := 0) rfl rfl rfl ?_
  refine v_bipush (n := 16) (x := nI 6) dX8_stateOf_14 rfl (by decide) ?_
  refine v_iadd (n := 17) dX8_stateOf_16 rfl ?_
  refine v_top (y := nI (6 + 21 * l + 6)) (nI_add (6 + 21 * l) 6) ?_
  refine v_iald (n := 18) (j := (6 + 21 * l + 6)) dX8_stateOf_17 rfl zokc_26 (by decide) rfl rfl (show 6 + 21 * l + 6 < 372 by omega) (rfl) ?_
  refine v_iadd (n := 19) dX8_stateOf_18 rfl ?_
  refine v_istore_n (n := 20) (L' := [(0, .ref (zad G.1 10 0 0)), (1, .int (nI l)), (2, .int ((μ 26 0 0 0) + (μ 26 0 0 (6 + 21 * l + 6))))]) dX8_stateOf_19 rfl (by decide) rfl ?_
  refine v_iload_n (n := 21) dX8_stateOf_20 rfl rfl ?_
  refine v_bipush (n := 23) (x := nI 6) dX8_stateOf_21 rfl (by decide) ?_
  refine v_icmp_ge (n := 26) (t := 30) dX8_stateOf_23 rfl (by decide) (fun hq => ?_) (fun hq => ?_)
  · replace h := h.1 hq
    refine v_iload_n (n := 31) dX8_stateOf_30 rfl rfl ?_
    refine v_bipush (n := 33) (x := nI 9) dX8_stateOf_31 rfl (by decide) ?_
    refine v_icmp_ge (n := 36) (t := 40) dX8_stateOf_33 rfl (by decide) (fun hq => ?_) (fun hq => ?_)
    · replace h := h.1 hq
      refine v_iconst (n := 41) (x := nI 2) dX8_stateOf_40 rfl (by decide) ?_
      exact v_iret dX8_stateOf_41 rfl (Nat.le_of_ble_eq_true rfl) (Nat.le_of_ble_eq_true rfl) h
    · replace h := h.2 hq
      refine v_iconst (n := 37) (x := nI 1) dX8_stateOf_36 rfl (by decide) ?_
      refine v_goto (n := 41) dX8_stateOf_37 (by decide) ?_
      exact v_iret dX8_stateOf_41 rfl (Nat.le_of_ble_eq_true rfl) (Nat.le_of_ble_eq_true rfl) h
  · replace h := h.2 hq
    refine v_iconst (n := 27) (x := nI 0) dX8_stateOf_26 rfl (by decide) ?_
    refine v_goto (n := 41) dX8_stateOf_27 (by decide) ?_
    exact v_iret dX8_stateOf_41 rfl (Nat.le_of_ble_eq_true rfl) (Nat.le_of_ble_eq_true rfl) h

