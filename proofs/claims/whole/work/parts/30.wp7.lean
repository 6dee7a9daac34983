/-! wp-lemmas by program (wip/whole/wp.py) -/
set_option maxRecDepth 20000 in
set_option maxHeartbeats 4000000 in
theorem wX8_in (G : Gl) {P : Option Value → St → Prop} {X : String → St → Prop} (x0 : Int32) (x1 : Int32) (x2 : Int32) (μ : St)
    (h : ((x0 < x1 → P (some (.int (nI 0))) μ) ∧ (¬ x0 < x1 → ((x2 < x0 → P (some (.int (nI 0))) μ) ∧ (¬ x2 < x0 → P (some (.int (nI 1))) μ))))) :
    Con G mX8_in [.int x0, .int x1, .int x2] μ P X := by
  refine con_of pn_X8 rfl (Nat.le_of_ble_eq_true rfl) ?_
  show VL G mX8_in P X 0 [(0, .int x0), (1, .int x1), (2, .int x2)] [] μ
  refine v_iload_n (n := 1) dX8_in_0 rfl rfl ?_
  refine v_iload_n (n := 2) dX8_in_1 rfl rfl ?_
  refine v_icmp_lt (n := 5) (t := 14) dX8_in_2 rfl (by decide) (fun hq => ?_) (fun hq => ?_)
  · replace h := h.1 hq
    refine v_iconst (n := 15) (x := nI 0) dX8_in_14 rfl (by decide) ?_
    exact v_zret dX8_in_15 rfl (by decide) (Nat.le_of_ble_eq_true rfl) (Nat.le_of_ble_eq_true rfl) h
  · replace h := h.2 hq
    refine v_iload_n (n := 6) dX8_in_5 rfl rfl ?_
    refine v_iload_n (n := 7) dX8_in_6 rfl rfl ?_
    refine v_icmp_gt (n := 10) (t := 14) dX8_in_7 rfl (by decide) (fun hq => ?_) (fun hq => ?_)
    · replace h := h.1 hq
      refine v_iconst (n := 15) (x := nI 0) dX8_in_14 rfl (by decide) ?_
      exact v_zret dX8_in_15 rfl (by decide) (Nat.le_of_ble_eq_true rfl) (Nat.le_of_ble_eq_true rfl) h
    · replace h := h.2 hq
      refine v_iconst (n := 11) (x := nI 1) dX8_in_10 rfl (by decide) ?_
      refine v_goto (n := 15) dX8_in_11 (by decide) ?_
      exact v_zret dX8_in_15 rfl (by decide) (Nat.le_of_ble_eq_true rfl) (Nat.le_of_ble_eq_true rfl) h

set_option maxRecDepth 20000 in
set_option maxHeartbeats 4000000 in
theorem wX8_lift0 (G : Gl) {P : Option Value → St → Prop} {X : String → St → Prop} (x0 : Int32) (μ : St)
    (h : P (some (.int ((nI 6) + ((nI 21) * x0)))) μ) :
    Con G mX8_lift0 [.int x0] μ P X := by
  refine con_of pn_X8 rfl (Nat.le_of_ble_eq_true rfl) ?_
  show VL G mX8_lift0 P X 0 [(0, .int x0)] [] μ
  refine v_bipush (n := 2) (x := nI 6) dX8_lift0_0 rfl (by decide) ?_
  refine v_bipush (n := 4) (x := nI 21) dX8_lift0_2 rfl (by decide) ?_
  refine v_iload_n (n := 5) dX8_lift0_4 rfl rfl ?_
  refine v_imul (n := 6) dX8_lift0_5 rfl ?_
  refine v_iadd (n := 7) dX8_lift0_6 rfl ?_
  exact v_iret dX8_lift0_7 rfl (Nat.le_of_ble_eq_true rfl) (Nat.le_of_ble_eq_true rfl) h

set_option maxRecDepth 20000 in
set_option maxHeartbeats 4000000 in
theorem wX8_piste0 (G : Gl) {P : Option Value → St → Prop} {X : String → St → Prop} (x0 : Int32) (μ : St)
    (h : P (some (.int ((nI 132) + ((nI 8) * x0)))) μ) :
    Con G mX8_piste0 [.int x0] μ P X := by
  refine con_of pn_X8 rfl (Nat.le_of_ble_eq_true rfl) ?_
  show VL G mX8_piste0 P X 0 [(0, .int x0)] [] μ
  refine v_sipush (n := 3) (x := nI 132) dX8_piste0_0 rfl (by decide) ?_
  refine v_bipush (n := 5) (x := nI 8) dX8_piste0_3 rfl (by decide) ?_
  refine v_iload_n (n := 6) dX8_piste0_5 rfl rfl ?_
  refine v_imul (n := 7) dX8_piste0_6 rfl ?_
  refine v_iadd (n := 8) dX8_piste0_7 rfl ?_
  exact v_iret dX8_piste0_8 rfl (Nat.le_of_ble_eq_true rfl) (Nat.le_of_ble_eq_true rfl) h

set_option maxRecDepth 20000 in
set_option maxHeartbeats 4000000 in
theorem wX8_guest0 (G : Gl) {P : Option Value → St → Prop} {X : String → St → Prop} (x0 : Int32) (μ : St)
    (h : P (some (.int ((nI 212) + ((nI 10) * x0)))) μ) :
    Con G mX8_guest0 [.int x0] μ P X := by
  refine con_of pn_X8 rfl (Nat.le_of_ble_eq_true rfl) ?_
  show VL G mX8_guest0 P X 0 [(0, .int x0)] [] μ
  refine v_sipush (n := 3) (x := nI 212) dX8_guest0_0 rfl (by decide) ?_
  refine v_bipush (n := 5) (x := nI 10) dX8_guest0_3 rfl (by decide) ?_
  refine v_iload_n (n := 6) dX8_guest0_5 rfl rfl ?_
  refine v_imul (n := 7) dX8_guest0_6 rfl ?_
  refine v_iadd (n := 8) dX8_guest0_7 rfl ?_
  exact v_iret dX8_guest0_8 rfl (Nat.le_of_ble_eq_true rfl) (Nat.le_of_ble_eq_true rfl) h

set_option maxRecDepth 20000 in
set_option maxHeartbeats 4000000 in
theorem wX8_refuse (G : Gl) {P : Option Value → St → Prop} {X : String → St → Prop} (x1 : Int32) (μ : St)
    (h : P (some (.int (nI 0))) (up μ 10 0 0 6 x1)) :
    Con G mX8_refuse [.ref (zad G.1 10 0 0), .int x1] μ P X := by
  refine con_of pn_X8 rfl (Nat.le_of_ble_eq_true rfl) ?_
  show VL G mX8_refuse P X 0 [(0, .ref (zad G.1 10 0 0)), (1, .int x1)] [] μ
  refine v_aload_n (n := 1) dX8_refuse_0 rfl rfl ?_
  refine v_iload_n (n := 2) dX8_refuse_1 rfl rfl ?_
  refine v_putf (n := 5) dX8_refuse_2 rfl fw_X8_41 zokc_10 (fun _ => rfl) rfl rfl ?_
  refine v_iconst (n := 6) (x := nI 0) dX8_refuse_5 rfl (by decide) ?_
  exact v_iret dX8_refuse_6 rfl (Nat.le_of_ble_eq_true rfl) (Nat.le_of_ble_eq_true rfl) h

set_option maxRecDepth 20000 in
set_option maxHeartbeats 4000000 in
theorem wX8_thrown (G : Gl) {P : Option Value → St → Prop} {X : String → St → Prop}  (μ : St)
    (h : P (some (.int (μ 10 0 0 6))) μ) :
    Con G mX8_thrown [.ref (zad G.1 10 0 0)] μ P X := by
  refine con_of pn_X8 rfl (Nat.le_of_ble_eq_true rfl) ?_
  show VL G mX8_thrown P X 0 [(0, .ref (zad G.1 10 0 0))] [] μ
  refine v_aload_n (n := 1) dX8_thrown_0 rfl rfl ?_
  refine v_getf (n := 4) dX8_thrown_1 rfl fl_X8_41 zokc_10 (rfl) ?_
  exact v_iret dX8_thrown_4 rfl (Nat.le_of_ble_eq_true rfl) (Nat.le_of_ble_eq_true rfl) h

