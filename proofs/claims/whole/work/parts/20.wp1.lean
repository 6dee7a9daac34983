/-! wp-lemmas by program (wip/whole/wp.py) -/
set_option maxRecDepth 20000 in
set_option maxHeartbeats 4000000 in
theorem wX7_isBetween (G : Gl) {P : Option Value → St → Prop} {X : String → St → Prop} (x0 : Int32) (x1 : Int32) (x2 : Int32) (μ : St)
    (h : ((x0 < x1 → P (some (.int (nI 0))) μ) ∧ (¬ x0 < x1 → ((x2 < x0 → P (some (.int (nI 0))) μ) ∧ (¬ x2 < x0 → P (some (.int (nI 1))) μ))))) :
    Con G mX7_isBetween [.int x0, .int x1, .int x2] μ P X := by
  refine con_of pn_X7 rfl (Nat.le_of_ble_eq_true rfl) ?_
  show VL G mX7_isBetween P X 0 [(0, .int x0), (1, .int x1), (2, .int x2)] [] μ
  refine v_iload_n (n := 1) dX7_isBetween_0 rfl rfl ?_
  refine v_iload_n (n := 2) dX7_isBetween_1 rfl rfl ?_
  refine v_icmp_lt (n := 5) (t := 14) dX7_isBetween_2 rfl (by decide) (fun hq => ?_) (fun hq => ?_)
  · replace h := h.1 hq
    refine v_iconst (n := 15) (x := nI 0) dX7_isBetween_14 rfl (by decide) ?_
    exact v_zret dX7_isBetween_15 rfl (by decide) (Nat.le_of_ble_eq_true rfl) (Nat.le_of_ble_eq_true rfl) h
  · replace h := h.2 hq
    refine v_iload_n (n := 6) dX7_isBetween_5 rfl rfl ?_
    refine v_iload_n (n := 7) dX7_isBetween_6 rfl rfl ?_
    refine v_icmp_gt (n := 10) (t := 14) dX7_isBetween_7 rfl (by decide) (fun hq => ?_) (fun hq => ?_)
    · replace h := h.1 hq
      refine v_iconst (n := 15) (x := nI 0) dX7_isBetween_14 rfl (by decide) ?_
      exact v_zret dX7_isBetween_15 rfl (by decide) (Nat.le_of_ble_eq_true rfl) (Nat.le_of_ble_eq_true rfl) h
    · replace h := h.2 hq
      refine v_iconst (n := 11) (x := nI 1) dX7_isBetween_10 rfl (by decide) ?_
      refine v_goto (n := 15) dX7_isBetween_11 (by decide) ?_
      exact v_zret dX7_isBetween_15 rfl (by decide) (Nat.le_of_ble_eq_true rfl) (Nat.le_of_ble_eq_true rfl) h

set_option maxRecDepth 20000 in
set_option maxHeartbeats 4000000 in
theorem wX7_ticksFor (G : Gl) {P : Option Value → St → Prop} {X : String → St → Prop} (x0 : Int32) (x1 : Int32) (μ : St)
    (h : ((¬ x1 = nI 2 → P (some (.int x0)) μ) ∧ (x1 = nI 2 → P (some (.int ((x0 + (nI 1)) / (nI 2)))) μ))) :
    Con G mX7_ticksFor [.int x0, .int x1] μ P X := by
  refine con_of pn_X7 rfl (Nat.le_of_ble_eq_true rfl) ?_
  show VL G mX7_ticksFor P X 0 [(0, .int x0), (1, .int x1)] [] μ
  refine v_iload_n (n := 1) dX7_ticksFor_0 rfl rfl ?_
  refine v_iconst (n := 2) (x := nI 2) dX7_ticksFor_1 rfl (by decide) ?_
  refine v_icmp_ne (n := 5) (t := 13) dX7_ticksFor_2 rfl (by decide) (fun hq => ?_) (fun hq => ?_)
  · replace h := h.1 hq
    refine v_iload_n (n := 14) dX7_ticksFor_13 rfl rfl ?_
    exact v_iret dX7_ticksFor_14 rfl (Nat.le_of_ble_eq_true rfl) (Nat.le_of_ble_eq_true rfl) h
  · replace h := h.2 hq
    refine v_iload_n (n := 6) dX7_ticksFor_5 rfl rfl ?_
    refine v_iconst (n := 7) (x := nI 1) dX7_ticksFor_6 rfl (by decide) ?_
    refine v_iadd (n := 8) dX7_ticksFor_7 rfl ?_
    refine v_iconst (n := 9) (x := nI 2) dX7_ticksFor_8 rfl (by decide) ?_
    refine v_idiv (n := 10) dX7_ticksFor_9 rfl (by decide) ?_
    refine v_goto (n := 14) dX7_ticksFor_10 (by decide) ?_
    exact v_iret dX7_ticksFor_14 rfl (Nat.le_of_ble_eq_true rfl) (Nat.le_of_ble_eq_true rfl) h

set_option maxRecDepth 20000 in
set_option maxHeartbeats 4000000 in
theorem wJ9_floorMod_7cf53 (G : Gl) {P : Option Value → St → Prop} {X : String → St → Prop} (x0 : Int32) (x1 : Int32) (μ : St)
    (h : ¬ x1 = 0 ∧ ((0 ≤ x0 ^^^ x1 → P (some (.int (x0 - x0 / x1 * x1))) μ) ∧ (¬ 0 ≤ x0 ^^^ x1 → ((x0 - x0 / x1 * x1 = 0 → P (some (.int (x0 - x0 / x1 * x1))) μ) ∧ (¬ x0 - x0 / x1 * x1 = 0 → P (some (.int ((x0 - x0 / x1 * x1) + x1))) μ))))) :
    Con G mJ9_floorMod_7cf53 [.int x0, .int x1] μ P X := by
  refine con_ofF pf_floorMod rfl (Nat.le_of_ble_eq_true rfl) ?_
  show VL G mJ9_floorMod_7cf53 P X 0 [(0, .int x0), (1, .int x1)] [] μ
  refine v_iload_n (n := 1) dJ9_floorMod_7cf53_0 rfl rfl ?_
  refine v_iload_n (n := 2) dJ9_floorMod_7cf53_1 rfl rfl ?_
  obtain ⟨hf1, h⟩ := h
  refine v_irem (n := 3) dJ9_floorMod_7cf53_2 rfl hf1 ?_
  refine v_istore_n (n := 4) (L' := [(0, .int x0), (1, .int x1), (2, .int (x0 - x0 / x1 * x1))]) dJ9_floorMod_7cf53_3 rfl (by decide) rfl ?_
  refine v_iload_n (n := 5) dJ9_floorMod_7cf53_4 rfl rfl ?_
  refine v_iload_n (n := 6) dJ9_floorMod_7cf53_5 rfl rfl ?_
  refine v_ixor (n := 7) dJ9_floorMod_7cf53_6 rfl ?_
  refine v_if_ge (n := 10) (t := 18) dJ9_floorMod_7cf53_7 rfl (by decide) (fun hq => ?_) (fun hq => ?_)
  · replace h := h.1 hq
    refine v_iload_n (n := 19) dJ9_floorMod_7cf53_18 rfl rfl ?_
    exact v_iret dJ9_floorMod_7cf53_19 rfl (Nat.le_of_ble_eq_true rfl) (Nat.le_of_ble_eq_true rfl) h
  · replace h := h.2 hq
    refine v_iload_n (n := 11) dJ9_floorMod_7cf53_10 rfl rfl ?_
    refine v_if_eq (n := 14) (t := 18) dJ9_floorMod_7cf53_11 rfl (by decide) (fun hq => ?_) (fun hq => ?_)
    · replace h := h.1 hq
      refine v_iload_n (n := 19) dJ9_floorMod_7cf53_18 rfl rfl ?_
      exact v_iret dJ9_floorMod_7cf53_19 rfl (Nat.le_of_ble_eq_true rfl) (Nat.le_of_ble_eq_true rfl) h
    · replace h := h.2 hq
      refine v_iload_n (n := 15) dJ9_floorMod_7cf53_14 rfl rfl ?_
      refine v_iload_n (n := 16) dJ9_floorMod_7cf53_15 rfl rfl ?_
      refine v_iadd (n := 17) dJ9_floorMod_7cf53_16 rfl ?_
      exact v_iret dJ9_floorMod_7cf53_17 rfl (Nat.le_of_ble_eq_true rfl) (Nat.le_of_ble_eq_true rfl) h

set_option maxRecDepth 20000 in
set_option maxHeartbeats 4000000 in
theorem wJ9_abs_0f7a4 (G : Gl) {P : Option Value → St → Prop} {X : String → St → Prop} (x0 : Int32) (μ : St)
    (h : ((0 ≤ x0 → P (some (.int x0)) μ) ∧ (¬ 0 ≤ x0 → P (some (.int (-x0))) μ))) :
    Con G mJ9_abs_0f7a4 [.int x0] μ P X := by
  refine con_ofF pf_abs rfl (Nat.le_of_ble_eq_true rfl) ?_
  show VL G mJ9_abs_0f7a4 P X 0 [(0, .int x0)] [] μ
  refine v_iload_n (n := 1) dJ9_abs_0f7a4_0 rfl rfl ?_
  refine v_if_ge (n := 4) (t := 9) dJ9_abs_0f7a4_1 rfl (by decide) (fun hq => ?_) (fun hq => ?_)
  · replace h := h.1 hq
    refine v_iload_n (n := 10) dJ9_abs_0f7a4_9 rfl rfl ?_
    exact v_iret dJ9_abs_0f7a4_10 rfl (Nat.le_of_ble_eq_true rfl) (Nat.le_of_ble_eq_true rfl) h
  · replace h := h.2 hq
    refine v_iload_n (n := 5) dJ9_abs_0f7a4_4 rfl rfl ?_
    refine v_ineg (n := 6) dJ9_abs_0f7a4_5 rfl ?_
    refine v_goto (n := 10) dJ9_abs_0f7a4_6 (by decide) ?_
    exact v_iret dJ9_abs_0f7a4_10 rfl (Nat.le_of_ble_eq_true rfl) (Nat.le_of_ble_eq_true rfl) h

set_option maxRecDepth 20000 in
set_option maxHeartbeats 4000000 in
theorem wJ9_min_7cf53 (G : Gl) {P : Option Value → St → Prop} {X : String → St → Prop} (x0 : Int32) (x1 : Int32) (μ : St)
    (h : ((x1 < x0 → P (some (.int x1)) μ) ∧ (¬ x1 < x0 → P (some (.int x0)) μ))) :
    Con G mJ9_min_7cf53 [.int x0, .int x1] μ P X := by
  refine con_ofF pf_min rfl (Nat.le_of_ble_eq_true rfl) ?_
  show VL G mJ9_min_7cf53 P X 0 [(0, .int x0), (1, .int x1)] [] μ
  refine v_iload_n (n := 1) dJ9_min_7cf53_0 rfl rfl ?_
  refine v_iload_n (n := 2) dJ9_min_7cf53_1 rfl rfl ?_
  refine v_icmp_gt (n := 5) (t := 9) dJ9_min_7cf53_2 rfl (by decide) (fun hq => ?_) (fun hq => ?_)
  · replace h := h.1 hq
    refine v_iload_n (n := 10) dJ9_min_7cf53_9 rfl rfl ?_
    exact v_iret dJ9_min_7cf53_10 rfl (Nat.le_of_ble_eq_true rfl) (Nat.le_of_ble_eq_true rfl) h
  · replace h := h.2 hq
    refine v_iload_n (n := 6) dJ9_min_7cf53_5 rfl rfl ?_
    refine v_goto (n := 10) dJ9_min_7cf53_6 (by decide) ?_
    exact v_iret dJ9_min_7cf53_10 rfl (Nat.le_of_ble_eq_true rfl) (Nat.le_of_ble_eq_true rfl) h

set_option maxRecDepth 20000 in
set_option maxHeartbeats 4000000 in
theorem wX4_stepsToCabin (G : Gl) {P : Option Value → St → Prop} {X : String → St → Prop} (b : Nat) (hb : b < 11) (i : Nat) (hi : i < 6) (x1 : Int32) (μ : St)
    (h : P (some (.int ((((nI 2) * (μ 6 b i 3)) * x1) - (μ 6 b i 7)))) μ) :
    Con G mX4_stepsToCabin [.ref (zad G.1 6 b i), .int x1] μ P X := by
  refine con_of pn_X4 rfl (Nat.le_of_ble_eq_true rfl) ?_
  show VL G mX4_stepsToCabin P X 0 [(0, .ref (zad G.1 6 b i)), (1, .int x1)] [] μ
  refine v_iconst (n := 1) (x := nI 2) dX4_stepsToCabin_0 rfl (by decide) ?_
  refine v_aload_n (n := 2) dX4_stepsToCabin_1 rfl rfl ?_
  refine v_getf (n := 5) dX4_stepsToCabin_2 rfl fl_X4_19 (zok_6 hb hi) (rfl) ?_
  refine v_imul (n := 6) dX4_stepsToCabin_5 rfl ?_
  refine v_iload_n (n := 7) dX4_stepsToCabin_6 rfl rfl ?_
  refine v_imul (n := 8) dX4_stepsToCabin_7 rfl ?_
  refine v_aload_n (n := 9) dX4_stepsToCabin_8 rfl rfl ?_
  refine v_getf (n := 12) dX4_stepsToCabin_9 rfl fl_X4_31 (zok_6 hb hi) (rfl) ?_
  refine v_isub (n := 13) dX4_stepsToCabin_12 rfl ?_
  exact v_iret dX4_stepsToCabin_13 rfl (Nat.le_of_ble_eq_true rfl) (Nat.le_of_ble_eq_true rfl) h

set_option maxRecDepth 20000 in
set_option maxHeartbeats 4000000 in
theorem wX4_restOfRide (G : Gl) {P : Option Value → St → Prop} {X : String → St → Prop} (b : Nat) (hb : b < 11) (i : Nat) (hi : i < 6) (μ : St)
    (h : P (some (.int ((nI 2) * (μ 6 b i 5)))) μ) :
    Con G mX4_restOfRide [.ref (zad G.1 6 b i)] μ P X := by
  refine con_of pn_X4 rfl (Nat.le_of_ble_eq_true rfl) ?_
  show VL G mX4_restOfRide P X 0 [(0, .ref (zad G.1 6 b i))] [] μ
  refine v_iconst (n := 1) (x := nI 2) dX4_restOfRide_0 rfl (by decide) ?_
  refine v_aload_n (n := 2) dX4_restOfRide_1 rfl rfl ?_
  refine v_getf (n := 5) dX4_restOfRide_2 rfl fl_X4_25 (zok_6 hb hi) (rfl) ?_
  refine v_imul (n := 6) dX4_restOfRide_5 rfl ?_
  exact v_iret dX4_restOfRide_6 rfl (Nat.le_of_ble_eq_true rfl) (Nat.le_of_ble_eq_true rfl) h

set_option maxRecDepth 20000 in
set_option maxHeartbeats 4000000 in
theorem wX5_isTooDifficultFor (G : Gl) {P : Option Value → St → Prop} {X : String → St → Prop} (b : Nat) (hb : b < 11) (i : Nat) (hi : i < 10) (j : Nat) (hj : j < 16) (μ : St)
    (h : ((μ 7 b i 2 ≤ (μ 3 b j 0) + (nI 1) → P (some (.int (nI 0))) μ) ∧ (¬ μ 7 b i 2 ≤ (μ 3 b j 0) + (nI 1) → P (some (.int (nI 1))) μ))) :
    Con G mX5_isTooDifficultFor [.ref (zad G.1 7 b i), .ref (zad G.1 3 b j)] μ P X := by
  refine con_of pn_X5 rfl (Nat.le_of_ble_eq_true rfl) ?_
  show VL G mX5_isTooDifficultFor P X 0 [(0, .ref (zad G.1 7 b i)), (1, .ref (zad G.1 3 b j))] [] μ
  refine v_aload_n (n := 1) dX5_isTooDifficultFor_0 rfl rfl ?_
  refine v_getf (n := 4) dX5_isTooDifficultFor_1 rfl fl_X5_18 (zok_7 hb hi) (rfl) ?_
  refine v_aload_n (n := 5) dX5_isTooDifficultFor_4 rfl rfl ?_
  refine v_getf (n := 8) dX5_isTooDifficultFor_5 rfl fl_X5_36 (zok_3 hb hj) (rfl) ?_
  refine v_iconst (n := 9) (x := nI 1) dX5_isTooDifficultFor_8 rfl (by decide) ?_
  refine v_iadd (n := 10) dX5_isTooDifficultFor_9 rfl ?_
  refine v_icmp_le (n := 13) (t := 17) dX5_isTooDifficultFor_10 rfl (by decide) (fun hq => ?_) (fun hq => ?_)
  · replace h := h.1 hq
    refine v_iconst (n := 18) (x := nI 0) dX5_isTooDifficultFor_17 rfl (by decide) ?_
    exact v_zret dX5_isTooDifficultFor_18 rfl (by decide) (Nat.le_of_ble_eq_true rfl) (Nat.le_of_ble_eq_true rfl) h
  · replace h := h.2 hq
    refine v_iconst (n := 14) (x := nI 1) dX5_isTooDifficultFor_13 rfl (by decide) ?_
    refine v_goto (n := 18) dX5_isTooDifficultFor_14 (by decide) ?_
    exact v_zret dX5_isTooDifficultFor_18 rfl (by decide) (Nat.le_of_ble_eq_true rfl) (Nat.le_of_ble_eq_true rfl) h

set_option maxRecDepth 20000 in
set_option maxHeartbeats 4000000 in
theorem wX5_restFor (G : Gl) {P : Option Value → St → Prop} {X : String → St → Prop} (b : Nat) (hb : b < 11) (i : Nat) (hi : i < 10) (j : Nat) (hj : j < 16) (μ : St)
    (h : ((μ 7 b i 2 ≤ μ 3 b j 0 → P (some (.int (μ 7 b i 3))) μ) ∧ (¬ μ 7 b i 2 ≤ μ 3 b j 0 → P (some (.int ((nI 2) * (μ 7 b i 3)))) μ))) :
    Con G mX5_restFor [.ref (zad G.1 7 b i), .ref (zad G.1 3 b j)] μ P X := by
  refine con_of pn_X5 rfl (Nat.le_of_ble_eq_true rfl) ?_
  show VL G mX5_restFor P X 0 [(0, .ref (zad G.1 7 b i)), (1, .ref (zad G.1 3 b j))] [] μ
  refine v_aload_n (n := 1) dX5_restFor_0 rfl rfl ?_
  refine v_getf (n := 4) dX5_restFor_1 rfl fl_X5_18 (zok_7 hb hi) (rfl) ?_
  refine v_aload_n (n := 5) dX5_restFor_4 rfl rfl ?_
  refine v_getf (n := 8) dX5_restFor_5 rfl fl_X5_36 (zok_3 hb hj) (rfl) ?_
  refine v_icmp_le (n := 11) (t := 20) dX5_restFor_8 rfl (by decide) (fun hq => ?_) (fun hq => ?_)
  · replace h := h.1 hq
    refine v_aload_n (n := 21) dX5_restFor_20 rfl rfl ?_
    refine v_getf (n := 24) dX5_restFor_21 rfl fl_X5_21 (zok_7 hb hi) (rfl) ?_
    exact v_iret dX5_restFor_24 rfl (Nat.le_of_ble_eq_true rfl) (Nat.le_of_ble_eq_true rfl) h
  · replace h := h.2 hq
    refine v_iconst (n := 12) (x := nI 2) dX5_restFor_11 rfl (by decide) ?_
    refine v_aload_n (n := 13) dX5_restFor_12 rfl rfl ?_
    refine v_getf (n := 16) dX5_restFor_13 rfl fl_X5_21 (zok_7 hb hi) (rfl) ?_
    refine v_imul (n := 17) dX5_restFor_16 rfl ?_
    refine v_goto (n := 24) dX5_restFor_17 (by decide) ?_
    exact v_iret dX5_restFor_24 rfl (Nat.le_of_ble_eq_true rfl) (Nat.le_of_ble_eq_true rfl) h

set_option maxRecDepth 20000 in
set_option maxHeartbeats 4000000 in
theorem wX1_is (G : Gl) {P : Option Value → St → Prop} {X : String → St → Prop} (b : Nat) (hb : b < 11) (i : Nat) (hi : i < 16) (x1 : Int32) (x2 : Int32) (μ : St)
    (h : ((¬ μ 3 b i 4 = x1 → P (some (.int (nI 0))) μ) ∧ (μ 3 b i 4 = x1 → ((¬ μ 3 b i 5 = x2 → P (some (.int (nI 0))) μ) ∧ (μ 3 b i 5 = x2 → P (some (.int (nI 1))) μ))))) :
    Con G mX1_is [.ref (zad G.1 3 b i), .int x1, .int x2] μ P X := by
  refine con_of pn_X1 rfl (Nat.le_of_ble_eq_true rfl) ?_
  show VL G mX1_is P X 0 [(0, .ref (zad G.1 3 b i)), (1, .int x1), (2, .int x2)] [] μ
  refine v_aload_n (n := 1) dX1_is_0 rfl rfl ?_
  refine v_getf (n := 4) dX1_is_1 rfl fl_X1_37 (zok_3 hb hi) (rfl) ?_
  refine v_iload_n (n := 5) dX1_is_4 rfl rfl ?_
  refine v_icmp_ne (n := 8) (t := 20) dX1_is_5 rfl (by decide) (fun hq => ?_) (fun hq => ?_)
  · replace h := h.1 hq
    refine v_iconst (n := 21) (x := nI 0) dX1_is_20 rfl (by decide) ?_
    exact v_zret dX1_is_21 rfl (by decide) (Nat.le_of_ble_eq_true rfl) (Nat.le_of_ble_eq_true rfl) h
  · replace h := h.2 hq
    refine v_aload_n (n := 9) dX1_is_8 rfl rfl ?_
    refine v_getf (n := 12) dX1_is_9 rfl fl_X1_40 (zok_3 hb hi) (rfl) ?_
    refine v_iload_n (n := 13) dX1_is_12 rfl rfl ?_
    refine v_icmp_ne (n := 16) (t := 20) dX1_is_13 rfl (by decide) (fun hq => ?_) (fun hq => ?_)
    · replace h := h.1 hq
      refine v_iconst (n := 21) (x := nI 0) dX1_is_20 rfl (by decide) ?_
      exact v_zret dX1_is_21 rfl (by decide) (Nat.le_of_ble_eq_true rfl) (Nat.le_of_ble_eq_true rfl) h
    · replace h := h.2 hq
      refine v_iconst (n := 17) (x := nI 1) dX1_is_16 rfl (by decide) ?_
      refine v_goto (n := 21) dX1_is_17 (by decide) ?_
      exact v_zret dX1_is_21 rfl (by decide) (Nat.le_of_ble_eq_true rfl) (Nat.le_of_ble_eq_true rfl) h

set_option maxRecDepth 20000 in
set_option maxHeartbeats 4000000 in
theorem wX1_become (G : Gl) {P : Option Value → St → Prop} {X : String → St → Prop} (b : Nat) (hb : b < 11) (i : Nat) (hi : i < 16) (x1 : Int32) (x2 : Int32) (x3 : Int32) (x4 : Int32) (μ : St)
    (h : P none (up (up (up (up μ 3 b i 4 x1) 3 b i 5 x2) 3 b i 6 x3) 3 b i 7 x4)) :
    Con G mX1_become [.ref (zad G.1 3 b i), .int x1, .int x2, .int x3, .int x4] μ P X := by
  refine con_of pn_X1 rfl (Nat.le_of_ble_eq_true rfl) ?_
  show VL G mX1_become P X 0 [(0, .ref (zad G.1 3 b i)), (1, .int x1), (2, .int x2), (3, .int x3), (4, .int x4)] [] μ
  refine v_aload_n (n := 1) dX1_become_0 rfl rfl ?_
  refine v_iload_n (n := 2) dX1_become_1 rfl rfl ?_
  refine v_putf (n := 5) dX1_become_2 rfl fw_X1_37 (zok_3 hb hi) (fun _ => rfl) rfl rfl ?_
  refine v_aload_n (n := 6) dX1_become_5 rfl rfl ?_
  refine v_iload_n (n := 7) dX1_become_6 rfl rfl ?_
  refine v_putf (n := 10) dX1_become_7 rfl fw_X1_40 (zok_3 hb hi) (fun _ => rfl) rfl rfl ?_
  refine v_aload_n (n := 11) dX1_become_10 rfl rfl ?_
  refine v_iload_n (n := 12) dX1_become_11 rfl rfl ?_
  refine v_putf (n := 15) dX1_become_12 rfl fw_X1_43 (zok_3 hb hi) (fun _ => rfl) rfl rfl ?_
  refine v_aload_n (n := 16) dX1_become_15 rfl rfl ?_
  refine v_iload (n := 18) dX1_become_16 rfl rfl ?_
  refine v_putf (n := 21) dX1_become_18 rfl fw_X1_46 (zok_3 hb hi) (fun _ => rfl) rfl rfl ?_
  exact v_vret dX1_become_21 rfl (Nat.le_of_ble_eq_true rfl) (Nat.le_of_ble_eq_true rfl) h

set_option maxRecDepth 20000 in
set_option maxHeartbeats 4000000 in
theorem wX5_becomeFresh (G : Gl) {P : Option Value → St → Prop} {X : String → St → Prop} (b : Nat) (hb : b < 11) (i : Nat) (hi : i < 10) (μ : St)
    (h : P none (up (up (up μ 7 b i 4 (nI 0)) 7 b i 5 (nI 0)) 7 b i 6 (nI 0))) :
    Con G mX5_becomeFresh [.ref (zad G.1 7 b i)] μ P X := by
  refine con_of pn_X5 rfl (Nat.le_of_ble_eq_true rfl) ?_
  show VL G mX5_becomeFresh P X 0 [(0, .ref (zad G.1 7 b i))] [] μ
  refine v_aload_n (n := 1) dX5_becomeFresh_0 rfl rfl ?_
  refine v_iconst (n := 2) (x := nI 0) dX5_becomeFresh_1 rfl (by decide) ?_
  refine v_putf (n := 5) dX5_becomeFresh_2 rfl fw_X5_24 (zok_7 hb hi) (fun _ => rfl) rfl rfl ?_
  refine v_aload_n (n := 6) dX5_becomeFresh_5 rfl rfl ?_
  refine v_iconst (n := 7) (x := nI 0) dX5_becomeFresh_6 rfl (by decide) ?_
  refine v_putf (n := 10) dX5_becomeFresh_7 rfl fw_X5_27 (zok_7 hb hi) (fun _ => rfl) rfl rfl ?_
  refine v_aload_n (n := 11) dX5_becomeFresh_10 rfl rfl ?_
  refine v_iconst (n := 12) (x := nI 0) dX5_becomeFresh_11 rfl (by decide) ?_
  refine v_putf (n := 15) dX5_becomeFresh_12 rfl fw_X5_30 (zok_7 hb hi) (fun _ => rfl) rfl rfl ?_
  exact v_vret dX5_becomeFresh_15 rfl (Nat.le_of_ble_eq_true rfl) (Nat.le_of_ble_eq_true rfl) h

set_option maxRecDepth 20000 in
set_option maxHeartbeats 4000000 in
theorem wX0_liftAt (G : Gl) {P : Option Value → St → Prop} {X : String → St → Prop} (b : Nat) (hb : b < 11) (x1 : Int32) (μ : St)
    (h : ((x1 < 0 → P (some (.null)) μ) ∧ (¬ x1 < 0 → ((μ 2 b 0 3 ≤ x1 → P (some (.null)) μ) ∧ (¬ μ 2 b 0 3 ≤ x1 → ∃ j1 : Nat, x1 = nI j1 ∧ j1 < 6 ∧ P (some (.ref (zad G.1 6 b j1))) μ))))) :
    Con G mX0_liftAt [.ref (zad G.1 2 b 0), .int x1] μ P X := by
  refine con_of pn_X0 rfl (Nat.le_of_ble_eq_true rfl) ?_
  show VL G mX0_liftAt P X 0 [(0, .ref (zad G.1 2 b 0)), (1, .int x1)] [] μ
  refine v_iload_n (n := 1) dX0_liftAt_0 rfl rfl ?_
  refine v_if_lt (n := 4) (t := 21) dX0_liftAt_1 rfl (by decide) (fun hq => ?_) (fun hq => ?_)
  · replace h := h.1 hq
    refine v_null (n := 22) dX0_liftAt_21 rfl ?_
    exact v_aret dX0_liftAt_22 rfl (Or.inl ⟨_, rfl⟩) (Or.inl rfl) (Nat.le_of_ble_eq_true rfl) (Nat.le_of_ble_eq_true rfl) h
  · replace h := h.2 hq
    refine v_iload_n (n := 5) dX0_liftAt_4 rfl rfl ?_
    refine v_aload_n (n := 6) dX0_liftAt_5 rfl rfl ?_
    refine v_getf (n := 9) dX0_liftAt_6 rfl fl_X0_32 (zok_2 hb) (rfl) ?_
    refine v_icmp_ge (n := 12) (t := 21) dX0_liftAt_9 rfl (by decide) (fun hq => ?_) (fun hq => ?_)
    · replace h := h.1 hq
      refine v_null (n := 22) dX0_liftAt_21 rfl ?_
      exact v_aret dX0_liftAt_22 rfl (Or.inl ⟨_, rfl⟩) (Or.inl rfl) (Nat.le_of_ble_eq_true rfl) (Nat.le_of_ble_eq_true rfl) h
    · replace h := h.2 hq
      refine v_aload_n (n := 13) dX0_liftAt_12 rfl rfl ?_
      refine v_getf (n := 16) dX0_liftAt_13 rfl fl_X0_11 (zok_2 hb) rfl ?_
      refine v_iload_n (n := 17) dX0_liftAt_16 rfl rfl ?_
      obtain ⟨j1, ej1, hj1, h⟩ := h
      refine v_aald (n := 18) (j := j1) dX0_liftAt_17 rfl (zok_20 hb) (by decide) rfl ej1 hj1 rfl ?_
      refine v_goto (n := 22) dX0_liftAt_18 (by decide) ?_
      exact v_aret dX0_liftAt_22 rfl (Or.inl ⟨_, rfl⟩) (Or.inr ⟨_, rfl⟩) (Nat.le_of_ble_eq_true rfl) (Nat.le_of_ble_eq_true rfl) h

set_option maxRecDepth 20000 in
set_option maxHeartbeats 4000000 in
theorem wX0_pisteAt (G : Gl) {P : Option Value → St → Prop} {X : String → St → Prop} (b : Nat) (hb : b < 11) (x1 : Int32) (μ : St)
    (h : ((x1 < 0 → P (some (.null)) μ) ∧ (¬ x1 < 0 → ((μ 2 b 0 4 ≤ x1 → P (some (.null)) μ) ∧ (¬ μ 2 b 0 4 ≤ x1 → ∃ j1 : Nat, x1 = nI j1 ∧ j1 < 10 ∧ P (some (.ref (zad G.1 7 b j1))) μ))))) :
    Con G mX0_pisteAt [.ref (zad G.1 2 b 0), .int x1] μ P X := by
  refine con_of pn_X0 rfl (Nat.le_of_ble_eq_true rfl) ?_
  show VL G mX0_pisteAt P X 0 [(0, .ref (zad G.1 2 b 0)), (1, .int x1)] [] μ
  refine v_iload_n (n := 1) dX0_pisteAt_0 rfl rfl ?_
  refine v_if_lt (n := 4) (t := 21) dX0_pisteAt_1 rfl (by decide) (fun hq => ?_) (fun hq => ?_)
  · replace h := h.1 hq
    refine v_null (n := 22) dX0_pisteAt_21 rfl ?_
    exact v_aret dX0_pisteAt_22 rfl (Or.inl ⟨_, rfl⟩) (Or.inl rfl) (Nat.le_of_ble_eq_true rfl) (Nat.le_of_ble_eq_true rfl) h
  · replace h := h.2 hq
    refine v_iload_n (n := 5) dX0_pisteAt_4 rfl rfl ?_
    refine v_aload_n (n := 6) dX0_pisteAt_5 rfl rfl ?_
    refine v_getf (n := 9) dX0_pisteAt_6 rfl fl_X0_36 (zok_2 hb) (rfl) ?_
    refine v_icmp_ge (n := 12) (t := 21) dX0_pisteAt_9 rfl (by decide) (fun hq => ?_) (fun hq => ?_)
    · replace h := h.1 hq
      refine v_null (n := 22) dX0_pisteAt_21 rfl ?_
      exact v_aret dX0_pisteAt_22 rfl (Or.inl ⟨_, rfl⟩) (Or.inl rfl) (Nat.le_of_ble_eq_true rfl) (Nat.le_of_ble_eq_true rfl) h
    · replace h := h.2 hq
      refine v_aload_n (n := 13) dX0_pisteAt_12 rfl rfl ?_
      refine v_getf (n := 16) dX0_pisteAt_13 rfl fl_X0_20 (zok_2 hb) rfl ?_
      refine v_iload_n (n := 17) dX0_pisteAt_16 rfl rfl ?_
      obtain ⟨j1, ej1, hj1, h⟩ := h
      refine v_aald (n := 18) (j := j1) dX0_pisteAt_17 rfl (zok_21 hb) (by decide) rfl ej1 hj1 rfl ?_
      refine v_goto (n := 22) dX0_pisteAt_18 (by decide) ?_
      exact v_aret dX0_pisteAt_22 rfl (Or.inl ⟨_, rfl⟩) (Or.inr ⟨_, rfl⟩) (Nat.le_of_ble_eq_true rfl) (Nat.le_of_ble_eq_true rfl) h

set_option maxRecDepth 20000 in
set_option maxHeartbeats 4000000 in
theorem wX0_guestAt (G : Gl) {P : Option Value → St → Prop} {X : String → St → Prop} (b : Nat) (hb : b < 11) (x1 : Int32) (μ : St)
    (h : ((x1 < 0 → P (some (.null)) μ) ∧ (¬ x1 < 0 → ((μ 2 b 0 5 ≤ x1 → P (some (.null)) μ) ∧ (¬ μ 2 b 0 5 ≤ x1 → ∃ j1 : Nat, x1 = nI j1 ∧ j1 < 16 ∧ P (some (.ref (zad G.1 3 b j1))) μ))))) :
    Con G mX0_guestAt [.ref (zad G.1 2 b 0), .int x1] μ P X := by
  refine con_of pn_X0 rfl (Nat.le_of_ble_eq_true rfl) ?_
  show VL G mX0_guestAt P X 0 [(0, .ref (zad G.1 2 b 0)), (1, .int x1)] [] μ
  refine v_iload_n (n := 1) dX0_guestAt_0 rfl rfl ?_
  refine v_if_lt (n := 4) (t := 21) dX0_guestAt_1 rfl (by decide) (fun hq => ?_) (fun hq => ?_)
  · replace h := h.1 hq
    refine v_null (n := 22) dX0_guestAt_21 rfl ?_
    exact v_aret dX0_guestAt_22 rfl (Or.inl ⟨_, rfl⟩) (Or.inl rfl) (Nat.le_of_ble_eq_true rfl) (Nat.le_of_ble_eq_true rfl) h
  · replace h := h.2 hq
    refine v_iload_n (n := 5) dX0_guestAt_4 rfl rfl ?_
    refine v_aload_n (n := 6) dX0_guestAt_5 rfl rfl ?_
    refine v_getf (n := 9) dX0_guestAt_6 rfl fl_X0_39 (zok_2 hb) (rfl) ?_
    refine v_icmp_ge (n := 12) (t := 21) dX0_guestAt_9 rfl (by decide) (fun hq => ?_) (fun hq => ?_)
    · replace h := h.1 hq
      refine v_null (n := 22) dX0_guestAt_21 rfl ?_
      exact v_aret dX0_guestAt_22 rfl (Or.inl ⟨_, rfl⟩) (Or.inl rfl) (Nat.le_of_ble_eq_true rfl) (Nat.le_of_ble_eq_true rfl) h
    · replace h := h.2 hq
      refine v_aload_n (n := 13) dX0_guestAt_12 rfl rfl ?_
      refine v_getf (n := 16) dX0_guestAt_13 rfl fl_X0_27 (zok_2 hb) rfl ?_
      refine v_iload_n (n := 17) dX0_guestAt_16 rfl rfl ?_
      obtain ⟨j1, ej1, hj1, h⟩ := h
      refine v_aald (n := 18) (j := j1) dX0_guestAt_17 rfl (zok_22 hb) (by decide) rfl ej1 hj1 rfl ?_
      refine v_goto (n := 22) dX0_guestAt_18 (by decide) ?_
      exact v_aret dX0_guestAt_22 rfl (Or.inl ⟨_, rfl⟩) (Or.inr ⟨_, rfl⟩) (Nat.le_of_ble_eq_true rfl) (Nat.le_of_ble_eq_true rfl) h

set_option maxRecDepth 20000 in
set_option maxHeartbeats 4000000 in
theorem wX0_speedOf (G : Gl) {P : Option Value → St → Prop} {X : String → St → Prop} (b : Nat) (hb : b < 11) (i : Nat) (hi : i < 6) (μ : St)
    (h : (((μ 2 b 0 6) + (μ 6 b i 6) < nI 9 → (((μ 2 b 0 6) + (μ 6 b i 6) < nI 6 → P (some (.int (nI 2))) μ) ∧ (¬ (μ 2 b 0 6) + (μ 6 b i 6) < nI 6 → P (some (.int (nI 1))) μ))) ∧ (¬ (μ 2 b 0 6) + (μ 6 b i 6) < nI 9 → P (some (.int (nI 0))) μ))) :
    Con G mX0_speedOf [.ref (zad G.1 2 b 0), .ref (zad G.1 6 b i)] μ P X := by
  refine con_of pn_X0 rfl (Nat.le_of_ble_eq_true rfl) ?_
  show VL G mX0_speedOf P X 0 [(0, .ref (zad G.1 2 b 0)), (1, .ref (zad G.1 6 b i))] [] μ
  refine v_aload_n (n := 1) dX0_speedOf_0 rfl rfl ?_
  refine v_getf (n := 4) dX0_speedOf_1 rfl fl_X0_42 (zok_2 hb) (rfl) ?_
  refine v_aload_n (n := 5) dX0_speedOf_4 rfl rfl ?_
  refine v_getf (n := 8) dX0_speedOf_5 rfl fl_X0_61 (zok_6 hb hi) (rfl) ?_
  refine v_iadd (n := 9) dX0_speedOf_8 rfl ?_
  refine v_istore_n (n := 10) (L' := [(0, .ref (zad G.1 2 b 0)), (1, .ref (zad G.1 6 b i)), (2, .int ((μ 2 b 0 6) + (μ 6 b i 6)))]) dX0_speedOf_9 rfl (by decide) rfl ?_
  refine v_iload_n (n := 11) dX0_speedOf_10 rfl rfl ?_
  refine v_bipush (n := 13) (x := nI 9) dX0_speedOf_11 rfl (by decide) ?_
  refine v_icmp_lt (n := 16) (t := 18) dX0_speedOf_13 rfl (by decide) (fun hq => ?_) (fun hq => ?_)
  · replace h := h.1 hq
    refine v_iload_n (n := 19) dX0_speedOf_18 rfl rfl ?_
    refine v_bipush (n := 21) (x := nI 6) dX0_speedOf_19 rfl (by decide) ?_
    refine v_icmp_lt (n := 24) (t := 28) dX0_speedOf_21 rfl (by decide) (fun hq => ?_) (fun hq => ?_)
    · replace h := h.1 hq
      refine v_iconst (n := 29) (x := nI 2) dX0_speedOf_28 rfl (by decide) ?_
      exact v_iret dX0_speedOf_29 rfl (Nat.le_of_ble_eq_true rfl) (Nat.le_of_ble_eq_true rfl) h
    · replace h := h.2 hq
      refine v_iconst (n := 25) (x := nI 1) dX0_speedOf_24 rfl (by decide) ?_
      refine v_goto (n := 29) dX0_speedOf_25 (by decide) ?_
      exact v_iret dX0_speedOf_29 rfl (Nat.le_of_ble_eq_true rfl) (Nat.le_of_ble_eq_true rfl) h
  · replace h := h.2 hq
    refine v_iconst (n := 17) (x := nI 0) dX0_speedOf_16 rfl (by decide) ?_
    exact v_iret dX0_speedOf_17 rfl (Nat.le_of_ble_eq_true rfl) (Nat.le_of_ble_eq_true rfl) h

set_option maxRecDepth 20000 in
set_option maxHeartbeats 4000000 in
theorem wX0_isOpenedFor (G : Gl) {P : Option Value → St → Prop} {X : String → St → Prop} (b : Nat) (hb : b < 11) (i : Nat) (hi : i < 16) (j : Nat) (hj : j < 6) (μ : St)
    (h : ((((μ 3 b i 1) >>> ((μ 6 b j 2) &&& 31)) &&& (nI 1) = 0 → P (some (.int (nI 0))) μ) ∧ (¬ ((μ 3 b i 1) >>> ((μ 6 b j 2) &&& 31)) &&& (nI 1) = 0 → ((μ 2 b 0 8 < μ 3 b i 2 → P (some (.int (nI 0))) μ) ∧ (¬ μ 2 b 0 8 < μ 3 b i 2 → ((μ 3 b i 3 < μ 2 b 0 8 → P (some (.int (nI 0))) μ) ∧ (¬ μ 3 b i 3 < μ 2 b 0 8 → P (some (.int (nI 1))) μ))))))) :
    Con G mX0_isOpenedFor [.ref (zad G.1 2 b 0), .ref (zad G.1 3 b i), .ref (zad G.1 6 b j)] μ P X := by
  refine con_of pn_X0 rfl (Nat.le_of_ble_eq_true rfl) ?_
  show VL G mX0_isOpenedFor P X 0 [(0, .ref (zad G.1 2 b 0)), (1, .ref (zad G.1 3 b i)), (2, .ref (zad G.1 6 b j))] [] μ
  refine v_aload_n (n := 1) dX0_isOpenedFor_0 rfl rfl ?_
  refine v_getf (n := 4) dX0_isOpenedFor_1 rfl fl_X0_68 (zok_3 hb hi) (rfl) ?_
  refine v_aload_n (n := 5) dX0_isOpenedFor_4 rfl rfl ?_
  refine v_getf (n := 8) dX0_isOpenedFor_5 rfl fl_X0_71 (zok_6 hb hj) (rfl) ?_
  refine v_ishr (n := 9) dX0_isOpenedFor_8 rfl ?_
  refine v_iconst (n := 10) (x := nI 1) dX0_isOpenedFor_9 rfl (by decide) ?_
  refine v_iand (n := 11) dX0_isOpenedFor_10 rfl ?_
  refine v_if_eq (n := 14) (t := 40) dX0_isOpenedFor_11 rfl (by decide) (fun hq => ?_) (fun hq => ?_)
  · replace h := h.1 hq
    refine v_iconst (n := 41) (x := nI 0) dX0_isOpenedFor_40 rfl (by decide) ?_
    exact v_zret dX0_isOpenedFor_41 rfl (by decide) (Nat.le_of_ble_eq_true rfl) (Nat.le_of_ble_eq_true rfl) h
  · replace h := h.2 hq
    refine v_aload_n (n := 15) dX0_isOpenedFor_14 rfl rfl ?_
    refine v_getf (n := 18) dX0_isOpenedFor_15 rfl fl_X0_74 (zok_3 hb hi) (rfl) ?_
    refine v_aload_n (n := 19) dX0_isOpenedFor_18 rfl rfl ?_
    refine v_getf (n := 22) dX0_isOpenedFor_19 rfl fl_X0_48 (zok_2 hb) (rfl) ?_
    refine v_icmp_gt (n := 25) (t := 40) dX0_isOpenedFor_22 rfl (by decide) (fun hq => ?_) (fun hq => ?_)
    · replace h := h.1 hq
      refine v_iconst (n := 41) (x := nI 0) dX0_isOpenedFor_40 rfl (by decide) ?_
      exact v_zret dX0_isOpenedFor_41 rfl (by decide) (Nat.le_of_ble_eq_true rfl) (Nat.le_of_ble_eq_true rfl) h
    · replace h := h.2 hq
      refine v_aload_n (n := 26) dX0_isOpenedFor_25 rfl rfl ?_
      refine v_getf (n := 29) dX0_isOpenedFor_26 rfl fl_X0_48 (zok_2 hb) (rfl) ?_
      refine v_aload_n (n := 30) dX0_isOpenedFor_29 rfl rfl ?_
      refine v_getf (n := 33) dX0_isOpenedFor_30 rfl fl_X0_77 (zok_3 hb hi) (rfl) ?_
      refine v_icmp_gt (n := 36) (t := 40) dX0_isOpenedFor_33 rfl (by decide) (fun hq => ?_) (fun hq => ?_)
      · replace h := h.1 hq
        refine v_iconst (n := 41) (x := nI 0) dX0_isOpenedFor_40 rfl (by decide) ?_
        exact v_zret dX0_isOpenedFor_41 rfl (by decide) (Nat.le_of_ble_eq_true rfl) (Nat.le_of_ble_eq_true rfl) h
      · replace h := h.2 hq
        refine v_iconst (n := 37) (x := nI 1) dX0_isOpenedFor_36 rfl (by decide) ?_
        refine v_goto (n := 41) dX0_isOpenedFor_37 (by decide) ?_
        exact v_zret dX0_isOpenedFor_41 rfl (by decide) (Nat.le_of_ble_eq_true rfl) (Nat.le_of_ble_eq_true rfl) h

set_option maxRecDepth 20000 in
set_option maxHeartbeats 4000000 in
theorem wX4_begin (G : Gl) {P : Option Value → St → Prop} {X : String → St → Prop} (b : Nat) (hb : b < 11) (i : Nat) (hi : i < 6) (x1 : Int32) (x2 : Int32) (x3 : Int32) (x4 : Int32) (x5 : Int32) (x6 : Int32) (μ : St)
    (h : P none (up (up (up (up (up (up (up (up (up (up μ 6 b i 0 x1) 6 b i 1 x2) 6 b i 2 x3) 6 b i 3 x4) 6 b i 4 x5) 6 b i 5 (x6 / (nI 10))) 6 b i 6 (x6 - x6 / (nI 10) * (nI 10))) 6 b i 7 (nI 0)) 6 b i 8 (nI 0)) 6 b i 9 (nI 0))) :
    Con G mX4_begin [.ref (zad G.1 6 b i), .int x1, .int x2, .int x3, .int x4, .int x5, .int x6] μ P X := by
  refine con_of pn_X4 rfl (Nat.le_of_ble_eq_true rfl) ?_
  show VL G mX4_begin P X 0 [(0, .ref (zad G.1 6 b i)), (1, .int x1), (2, .int x2), (3, .int x3), (4, .int x4), (5, .int x5), (6, .int x6)] [] μ
  refine v_aload_n (n := 1) dX4_begin_0 rfl rfl ?_
  refine v_iload_n (n := 2) dX4_begin_1 rfl rfl ?_
  refine v_putf (n := 5) dX4_begin_2 rfl fw_X4_7 (zok_6 hb hi) (fun _ => rfl) rfl rfl ?_
  refine v_aload_n (n := 6) dX4_begin_5 rfl rfl ?_
  refine v_iload_n (n := 7) dX4_begin_6 rfl rfl ?_
  refine v_putf (n := 10) dX4_begin_7 rfl fw_X4_13 (zok_6 hb hi) (fun _ => rfl) rfl rfl ?_
  refine v_aload_n (n := 11) dX4_begin_10 rfl rfl ?_
  refine v_iload_n (n := 12) dX4_begin_11 rfl rfl ?_
  refine v_putf (n := 15) dX4_begin_12 rfl fw_X4_16 (zok_6 hb hi) (fun _ => rfl) rfl rfl ?_
  refine v_aload_n (n := 16) dX4_begin_15 rfl rfl ?_
  refine v_iload (n := 18) dX4_begin_16 rfl rfl ?_
  refine v_putf (n := 21) dX4_begin_18 rfl fw_X4_19 (zok_6 hb hi) (fun _ => rfl) rfl rfl ?_
  refine v_aload_n (n := 22) dX4_begin_21 rfl rfl ?_
  refine v_iload (n := 24) dX4_begin_22 rfl rfl ?_
  refine v_putf (n := 27) dX4_begin_24 rfl fw_X4_22 (zok_6 hb hi) (fun _ => rfl) rfl rfl ?_
  refine v_aload_n (n := 28) dX4_begin_27 rfl rfl ?_
  refine v_iload (n := 30) dX4_begin_28 rfl rfl ?_
  refine v_bipush (n := 32) (x := nI 10) dX4_begin_30 rfl (by decide) ?_
  refine v_idiv (n := 33) dX4_begin_32 rfl (by decide) ?_
  refine v_putf (n := 36) dX4_begin_33 rfl fw_X4_25 (zok_6 hb hi) (fun _ => rfl) rfl rfl ?_
  refine v_aload_n (n := 37) dX4_begin_36 rfl rfl ?_
  refine v_iload (n := 39) dX4_begin_37 rfl rfl ?_
  refine v_bipush (n := 41) (x := nI 10) dX4_begin_39 rfl (by decide) ?_
  refine v_irem (n := 42) dX4_begin_41 rfl (by decide) ?_
  refine v_putf (n := 45) dX4_begin_42 rfl fw_X4_28 (zok_6 hb hi) (fun _ => rfl) rfl rfl ?_
  refine v_aload_n (n := 46) dX4_begin_45 rfl rfl ?_
  refine v_iconst (n := 47) (x := nI 0) dX4_begin_46 rfl (by decide) ?_
  refine v_putf (n := 50) dX4_begin_47 rfl fw_X4_31 (zok_6 hb hi) (fun _ => rfl) rfl rfl ?_
  refine v_aload_n (n := 51) dX4_begin_50 rfl rfl ?_
  refine v_iconst (n := 52) (x := nI 0) dX4_begin_51 rfl (by decide) ?_
  refine v_putf (n := 55) dX4_begin_52 rfl fw_X4_34 (zok_6 hb hi) (fun _ => rfl) rfl rfl ?_
  refine v_aload_n (n := 56) dX4_begin_55 rfl rfl ?_
  refine v_iconst (n := 57) (x := nI 0) dX4_begin_56 rfl (by decide) ?_
  refine v_putf (n := 60) dX4_begin_57 rfl fw_X4_37 (zok_6 hb hi) (fun _ => rfl) rfl rfl ?_
  exact v_vret dX4_begin_60 rfl (Nat.le_of_ble_eq_true rfl) (Nat.le_of_ble_eq_true rfl) h

set_option maxRecDepth 20000 in
set_option maxHeartbeats 4000000 in
theorem wX5_begin (G : Gl) {P : Option Value → St → Prop} {X : String → St → Prop} (b : Nat) (hb : b < 11) (i : Nat) (hi : i < 10) (x1 : Int32) (x2 : Int32) (x3 : Int32) (x4 : Int32) (μ : St)
    (h : P none (up (up (up (up (up (up (up (up μ 7 b i 0 x1) 7 b i 1 x2) 7 b i 2 x3) 7 b i 3 x4) 7 b i 4 (nI 0)) 7 b i 5 (nI 0)) 7 b i 6 (nI 0)) 7 b i 7 (nI 0))) :
    Con G mX5_begin [.ref (zad G.1 7 b i), .int x1, .int x2, .int x3, .int x4] μ P X := by
  refine con_of pn_X5 rfl (Nat.le_of_ble_eq_true rfl) ?_
  show VL G mX5_begin P X 0 [(0, .ref (zad G.1 7 b i)), (1, .int x1), (2, .int x2), (3, .int x3), (4, .int x4)] [] μ
  refine v_aload_n (n := 1) dX5_begin_0 rfl rfl ?_
  refine v_iload_n (n := 2) dX5_begin_1 rfl rfl ?_
  refine v_putf (n := 5) dX5_begin_2 rfl fw_X5_9 (zok_7 hb hi) (fun _ => rfl) rfl rfl ?_
  refine v_aload_n (n := 6) dX5_begin_5 rfl rfl ?_
  refine v_iload_n (n := 7) dX5_begin_6 rfl rfl ?_
  refine v_putf (n := 10) dX5_begin_7 rfl fw_X5_15 (zok_7 hb hi) (fun _ => rfl) rfl rfl ?_
  refine v_aload_n (n := 11) dX5_begin_10 rfl rfl ?_
  refine v_iload_n (n := 12) dX5_begin_11 rfl rfl ?_
  refine v_putf (n := 15) dX5_begin_12 rfl fw_X5_18 (zok_7 hb hi) (fun _ => rfl) rfl rfl ?_
  refine v_aload_n (n := 16) dX5_begin_15 rfl rfl ?_
  refine v_iload (n := 18) dX5_begin_16 rfl rfl ?_
  refine v_putf (n := 21) dX5_begin_18 rfl fw_X5_21 (zok_7 hb hi) (fun _ => rfl) rfl rfl ?_
  refine v_aload_n (n := 22) dX5_begin_21 rfl rfl ?_
  refine v_iconst (n := 23) (x := nI 0) dX5_begin_22 rfl (by decide) ?_
  refine v_putf (n := 26) dX5_begin_23 rfl fw_X5_24 (zok_7 hb hi) (fun _ => rfl) rfl rfl ?_
  refine v_aload_n (n := 27) dX5_begin_26 rfl rfl ?_
  refine v_iconst (n := 28) (x := nI 0) dX5_begin_27 rfl (by decide) ?_
  refine v_putf (n := 31) dX5_begin_28 rfl fw_X5_27 (zok_7 hb hi) (fun _ => rfl) rfl rfl ?_
  refine v_aload_n (n := 32) dX5_begin_31 rfl rfl ?_
  refine v_iconst (n := 33) (x := nI 0) dX5_begin_32 rfl (by decide) ?_
  refine v_putf (n := 36) dX5_begin_33 rfl fw_X5_30 (zok_7 hb hi) (fun _ => rfl) rfl rfl ?_
  refine v_aload_n (n := 37) dX5_begin_36 rfl rfl ?_
  refine v_iconst (n := 38) (x := nI 0) dX5_begin_37 rfl (by decide) ?_
  refine v_putf (n := 41) dX5_begin_38 rfl fw_X5_33 (zok_7 hb hi) (fun _ => rfl) rfl rfl ?_
  exact v_vret dX5_begin_41 rfl (Nat.le_of_ble_eq_true rfl) (Nat.le_of_ble_eq_true rfl) h

set_option maxRecDepth 20000 in
set_option maxHeartbeats 4000000 in
theorem wX4_copyFrom (G : Gl) {P : Option Value → St → Prop} {X : String → St → Prop} (b : Nat) (hb : b < 11) (i : Nat) (hi : i < 6) (c : Nat) (hc : c < 11) (j : Nat) (hj : j < 6) (μ : St)
    (h : P none (up (up (up (up (up (up (up (up (up (up μ 6 b i 0 (μ 6 c j 0)) 6 b i 1 (μ 6 c j 1)) 6 b i 2 (μ 6 c j 2)) 6 b i 3 (μ 6 c j 3)) 6 b i 4 (μ 6 c j 4)) 6 b i 5 (μ 6 c j 5)) 6 b i 6 (μ 6 c j 6)) 6 b i 7 (μ 6 c j 7)) 6 b i 8 (μ 6 c j 8)) 6 b i 9 (μ 6 c j 9))) :
    Con G mX4_copyFrom [.ref (zad G.1 6 b i), .ref (zad G.1 6 c j)] μ P X := by
  refine con_of pn_X4 rfl (Nat.le_of_ble_eq_true rfl) ?_
  show VL G mX4_copyFrom P X 0 [(0, .ref (zad G.1 6 b i)), (1, .ref (zad G.1 6 c j))] [] μ
  refine v_aload_n (n := 1) dX4_copyFrom_0 rfl rfl ?_
  refine v_aload_n (n := 2) dX4_copyFrom_1 rfl rfl ?_
  refine v_getf (n := 5) dX4_copyFrom_2 rfl fl_X4_7 (zok_6 hc hj) (rfl) ?_
  refine v_putf (n := 8) dX4_copyFrom_5 rfl fw_X4_7 (zok_6 hb hi) (fun _ => rfl) rfl rfl ?_
  refine v_aload_n (n := 9) dX4_copyFrom_8 rfl rfl ?_
  refine v_aload_n (n := 10) dX4_copyFrom_9 rfl rfl ?_
  refine v_getf (n := 13) dX4_copyFrom_10 rfl fl_X4_13 (zok_6 hc hj) (congrArg Value.int (up_sl (by decide))) ?_
  refine v_putf (n := 16) dX4_copyFrom_13 rfl fw_X4_13 (zok_6 hb hi) (fun _ => rfl) rfl rfl ?_
  refine v_aload_n (n := 17) dX4_copyFrom_16 rfl rfl ?_
  refine v_aload_n (n := 18) dX4_copyFrom_17 rfl rfl ?_
  refine v_getf (n := 21) dX4_copyFrom_18 rfl fl_X4_16 (zok_6 hc hj) (congrArg Value.int ((up_sl (by decide)).trans (up_sl (by decide)))) ?_
  refine v_putf (n := 24) dX4_copyFrom_21 rfl fw_X4_16 (zok_6 hb hi) (fun _ => rfl) rfl rfl ?_
  refine v_aload_n (n := 25) dX4_copyFrom_24 rfl rfl ?_
  refine v_aload_n (n := 26) dX4_copyFrom_25 rfl rfl ?_
  refine v_getf (n := 29) dX4_copyFrom_26 rfl fl_X4_19 (zok_6 hc hj) (congrArg Value.int ((up_sl (by decide)).trans ((up_sl (by decide)).trans (up_sl (by decide))))) ?_
  refine v_putf (n := 32) dX4_copyFrom_29 rfl fw_X4_19 (zok_6 hb hi) (fun _ => rfl) rfl rfl ?_
  refine v_aload_n (n := 33) dX4_copyFrom_32 rfl rfl ?_
  refine v_aload_n (n := 34) dX4_copyFrom_33 rfl rfl ?_
  refine v_getf (n := 37) dX4_copyFrom_34 rfl fl_X4_22 (zok_6 hc hj) (congrArg Value.int ((up_sl (by decide)).trans ((up_sl (by decide)).trans ((up_sl (by decide)).trans (up_sl (by decide)))))) ?_
  refine v_putf (n := 40) dX4_copyFrom_37 rfl fw_X4_22 (zok_6 hb hi) (fun _ => rfl) rfl rfl ?_
  refine v_aload_n (n := 41) dX4_copyFrom_40 rfl rfl ?_
  refine v_aload_n (n := 42) dX4_copyFrom_41 rfl rfl ?_
  refine v_getf (n := 45) dX4_copyFrom_42 rfl fl_X4_25 (zok_6 hc hj) (congrArg Value.int ((up_sl (by decide)).trans ((up_sl (by decide)).trans ((up_sl (by decide)).trans ((up_sl (by decide)).trans (up_sl (by decide))))))) ?_
  refine v_putf (n := 48) dX4_copyFrom_45 rfl fw_X4_25 (zok_6 hb hi) (fun _ => rfl) rfl rfl ?_
  refine v_aload_n (n := 49) dX4_copyFrom_48 rfl rfl ?_
  refine v_aload_n (n := 50) dX4_copyFrom_49 rfl rfl ?_
  refine v_getf (n := 53) dX4_copyFrom_50 rfl fl_X4_28 (zok_6 hc hj) (congrArg Value.int ((up_sl (by decide)).trans ((up_sl (by decide)).trans ((up_sl (by decide)).trans ((up_sl (by decide)).trans ((up_sl (by decide)).trans (up_sl (by decide)))))))) ?_
  refine v_putf (n := 56) dX4_copyFrom_53 rfl fw_X4_28 (zok_6 hb hi) (fun _ => rfl) rfl rfl ?_
  refine v_aload_n (n := 57) dX4_copyFrom_56 rfl rfl ?_
  refine v_aload_n (n := 58) dX4_copyFrom_57 rfl rfl ?_
  refine v_getf (n := 61) dX4_copyFrom_58 rfl fl_X4_31 (zok_6 hc hj) (congrArg Value.int ((up_sl (by decide)).trans ((up_sl (by decide)).trans ((up_sl (by decide)).trans ((up_sl (by decide)).trans ((up_sl (by decide)).trans ((up_sl (by decide)).trans (up_sl (by decide))))))))) ?_
  refine v_putf (n := 64) dX4_copyFrom_61 rfl fw_X4_31 (zok_6 hb hi) (fun _ => rfl) rfl rfl ?_
  refine v_aload_n (n := 65) dX4_copyFrom_64 rfl rfl ?_
  refine v_aload_n (n := 66) dX4_copyFrom_65 rfl rfl ?_
  refine v_getf (n := 69) dX4_copyFrom_66 rfl fl_X4_34 (zok_6 hc hj) (congrArg Value.int ((up_sl (by decide)).trans ((up_sl (by decide)).trans ((up_sl (by decide)).trans ((up_sl (by decide)).trans ((up_sl (by decide)).trans ((up_sl (by decide)).trans ((up_sl (by decide)).trans (up_sl (by decide)))))))))) ?_
  refine v_putf (n := 72) dX4_copyFrom_69 rfl fw_X4_34 (zok_6 hb hi) (fun _ => rfl) rfl rfl ?_
  refine v_aload_n (n := 73) dX4_copyFrom_72 rfl rfl ?_
  refine v_aload_n (n := 74) dX4_copyFrom_73 rfl rfl ?_
  refine v_getf (n := 77) dX4_copyFrom_74 rfl fl_X4_37 (zok_6 hc hj) (congrArg Value.int ((up_sl (by decide)).trans ((up_sl (by decide)).trans ((up_sl (by decide)).trans ((up_sl (by decide)).trans ((up_sl (by decide)).trans ((up_sl (by decide)).trans ((up_sl (by decide)).trans ((up_sl (by decide)).trans (up_sl (by decide))))))))))) ?_
  refine v_putf (n := 80) dX4_copyFrom_77 rfl fw_X4_37 (zok_6 hb hi) (fun _ => rfl) rfl rfl ?_
  exact v_vret dX4_copyFrom_80 rfl (Nat.le_of_ble_eq_true rfl) (Nat.le_of_ble_eq_true rfl) h

set_option maxRecDepth 20000 in
set_option maxHeartbeats 4000000 in
theorem wX5_copyFrom (G : Gl) {P : Option Value → St → Prop} {X : String → St → Prop} (b : Nat) (hb : b < 11) (i : Nat) (hi : i < 10) (c : Nat) (hc : c < 11) (j : Nat) (hj : j < 10) (μ : St)
    (h : P none (up (up (up (up (up (up (up (up μ 7 b i 0 (μ 7 c j 0)) 7 b i 1 (μ 7 c j 1)) 7 b i 2 (μ 7 c j 2)) 7 b i 3 (μ 7 c j 3)) 7 b i 4 (μ 7 c j 4)) 7 b i 5 (μ 7 c j 5)) 7 b i 6 (μ 7 c j 6)) 7 b i 7 (μ 7 c j 7))) :
    Con G mX5_copyFrom [.ref (zad G.1 7 b i), .ref (zad G.1 7 c j)] μ P X := by
  refine con_of pn_X5 rfl (Nat.le_of_ble_eq_true rfl) ?_
  show VL G mX5_copyFrom P X 0 [(0, .ref (zad G.1 7 b i)), (1, .ref (zad G.1 7 c j))] [] μ
  refine v_aload_n (n := 1) dX5_copyFrom_0 rfl rfl ?_
  refine v_aload_n (n := 2) dX5_copyFrom_1 rfl rfl ?_
  refine v_getf (n := 5) dX5_copyFrom_2 rfl fl_X5_9 (zok_7 hc hj) (rfl) ?_
  refine v_putf (n := 8) dX5_copyFrom_5 rfl fw_X5_9 (zok_7 hb hi) (fun _ => rfl) rfl rfl ?_
  refine v_aload_n (n := 9) dX5_copyFrom_8 rfl rfl ?_
  refine v_aload_n (n := 10) dX5_copyFrom_9 rfl rfl ?_
  refine v_getf (n := 13) dX5_copyFrom_10 rfl fl_X5_15 (zok_7 hc hj) (congrArg Value.int (up_sl (by decide))) ?_
  refine v_putf (n := 16) dX5_copyFrom_13 rfl fw_X5_15 (zok_7 hb hi) (fun _ => rfl) rfl rfl ?_
  refine v_aload_n (n := 17) dX5_copyFrom_16 rfl rfl ?_
  refine v_aload_n (n := 18) dX5_copyFrom_17 rfl rfl ?_
  refine v_getf (n := 21) dX5_copyFrom_18 rfl fl_X5_18 (zok_7 hc hj) (congrArg Value.int ((up_sl (by decide)).trans (up_sl (by decide)))) ?_
  refine v_putf (n := 24) dX5_copyFrom_21 rfl fw_X5_18 (zok_7 hb hi) (fun _ => rfl) rfl rfl ?_
  refine v_aload_n (n := 25) dX5_copyFrom_24 rfl rfl ?_
  refine v_aload_n (n := 26) dX5_copyFrom_25 rfl rfl ?_
  refine v_getf (n := 29) dX5_copyFrom_26 rfl fl_X5_21 (zok_7 hc hj) (congrArg Value.int ((up_sl (by decide)).trans ((up_sl (by decide)).trans (up_sl (by decide))))) ?_
  refine v_putf (n := 32) dX5_copyFrom_29 rfl fw_X5_21 (zok_7 hb hi) (fun _ => rfl) rfl rfl ?_
  refine v_aload_n (n := 33) dX5_copyFrom_32 rfl rfl ?_
  refine v_aload_n (n := 34) dX5_copyFrom_33 rfl rfl ?_
  refine v_getf (n := 37) dX5_copyFrom_34 rfl fl_X5_24 (zok_7 hc hj) (congrArg Value.int ((up_sl (by decide)).trans ((up_sl (by decide)).trans ((up_sl (by decide)).trans (up_sl (by decide)))))) ?_
  refine v_putf (n := 40) dX5_copyFrom_37 rfl fw_X5_24 (zok_7 hb hi) (fun _ => rfl) rfl rfl ?_
  refine v_aload_n (n := 41) dX5_copyFrom_40 rfl rfl ?_
  refine v_aload_n (n := 42) dX5_copyFrom_41 rfl rfl ?_
  refine v_getf (n := 45) dX5_copyFrom_42 rfl fl_X5_27 (zok_7 hc hj) (congrArg Value.int ((up_sl (by decide)).trans ((up_sl (by decide)).trans ((up_sl (by decide)).trans ((up_sl (by decide)).trans (up_sl (by decide))))))) ?_
  refine v_putf (n := 48) dX5_copyFrom_45 rfl fw_X5_27 (zok_7 hb hi) (fun _ => rfl) rfl rfl ?_
  refine v_aload_n (n := 49) dX5_copyFrom_48 rfl rfl ?_
  refine v_aload_n (n := 50) dX5_copyFrom_49 rfl rfl ?_
  refine v_getf (n := 53) dX5_copyFrom_50 rfl fl_X5_30 (zok_7 hc hj) (congrArg Value.int ((up_sl (by decide)).trans ((up_sl (by decide)).trans ((up_sl (by decide)).trans ((up_sl (by decide)).trans ((up_sl (by decide)).trans (up_sl (by decide)))))))) ?_
  refine v_putf (n := 56) dX5_copyFrom_53 rfl fw_X5_30 (zok_7 hb hi) (fun _ => rfl) rfl rfl ?_
  refine v_aload_n (n := 57) dX5_copyFrom_56 rfl rfl ?_
  refine v_aload_n (n := 58) dX5_copyFrom_57 rfl rfl ?_
  refine v_getf (n := 61) dX5_copyFrom_58 rfl fl_X5_33 (zok_7 hc hj) (congrArg Value.int ((up_sl (by decide)).trans ((up_sl (by decide)).trans ((up_sl (by decide)).trans ((up_sl (by decide)).trans ((up_sl (by decide)).trans ((up_sl (by decide)).trans (up_sl (by decide))))))))) ?_
  refine v_putf (n := 64) dX5_copyFrom_61 rfl fw_X5_33 (zok_7 hb hi) (fun _ => rfl) rfl rfl ?_
  exact v_vret dX5_copyFrom_64 rfl (Nat.le_of_ble_eq_true rfl) (Nat.le_of_ble_eq_true rfl) h

set_option maxRecDepth 20000 in
set_option maxHeartbeats 4000000 in
theorem wX0_becomeEmpty (G : Gl) {P : Option Value → St → Prop} {X : String → St → Prop} (b : Nat) (hb : b < 11) (μ : St)
    (h : P none (up (up (up (up (up (up μ 2 b 0 3 (nI 0)) 2 b 0 4 (nI 0)) 2 b 0 5 (nI 0)) 2 b 0 6 (nI 0)) 2 b 0 7 (nI 0)) 2 b 0 8 (nI 0))) :
    Con G mX0_becomeEmpty [.ref (zad G.1 2 b 0)] μ P X := by
  refine con_of pn_X0 rfl (Nat.le_of_ble_eq_true rfl) ?_
  show VL G mX0_becomeEmpty P X 0 [(0, .ref (zad G.1 2 b 0))] [] μ
  refine v_aload_n (n := 1) dX0_becomeEmpty_0 rfl rfl ?_
  refine v_iconst (n := 2) (x := nI 0) dX0_becomeEmpty_1 rfl (by decide) ?_
  refine v_putf (n := 5) dX0_becomeEmpty_2 rfl fw_X0_32 (zok_2 hb) (fun _ => rfl) rfl rfl ?_
  refine v_aload_n (n := 6) dX0_becomeEmpty_5 rfl rfl ?_
  refine v_iconst (n := 7) (x := nI 0) dX0_becomeEmpty_6 rfl (by decide) ?_
  refine v_putf (n := 10) dX0_becomeEmpty_7 rfl fw_X0_36 (zok_2 hb) (fun _ => rfl) rfl rfl ?_
  refine v_aload_n (n := 11) dX0_becomeEmpty_10 rfl rfl ?_
  refine v_iconst (n := 12) (x := nI 0) dX0_becomeEmpty_11 rfl (by decide) ?_
  refine v_putf (n := 15) dX0_becomeEmpty_12 rfl fw_X0_39 (zok_2 hb) (fun _ => rfl) rfl rfl ?_
  refine v_aload_n (n := 16) dX0_becomeEmpty_15 rfl rfl ?_
  refine v_iconst (n := 17) (x := nI 0) dX0_becomeEmpty_16 rfl (by decide) ?_
  refine v_putf (n := 20) dX0_becomeEmpty_17 rfl fw_X0_42 (zok_2 hb) (fun _ => rfl) rfl rfl ?_
  refine v_aload_n (n := 21) dX0_becomeEmpty_20 rfl rfl ?_
  refine v_iconst (n := 22) (x := nI 0) dX0_becomeEmpty_21 rfl (by decide) ?_
  refine v_putf (n := 25) dX0_becomeEmpty_22 rfl fw_X0_45 (zok_2 hb) (fun _ => rfl) rfl rfl ?_
  refine v_aload_n (n := 26) dX0_becomeEmpty_25 rfl rfl ?_
  refine v_iconst (n := 27) (x := nI 0) dX0_becomeEmpty_26 rfl (by decide) ?_
  refine v_putf (n := 30) dX0_becomeEmpty_27 rfl fw_X0_48 (zok_2 hb) (fun _ => rfl) rfl rfl ?_
  exact v_vret dX0_becomeEmpty_30 rfl (Nat.le_of_ble_eq_true rfl) (Nat.le_of_ble_eq_true rfl) h

set_option maxRecDepth 20000 in
set_option maxHeartbeats 4000000 in
theorem wX2_forgetAll (G : Gl) {P : Option Value → St → Prop} {X : String → St → Prop}  (μ : St)
    (h : P none (up μ 4 0 0 2 (nI 0))) :
    Con G mX2_forgetAll [.ref (zad G.1 4 0 0)] μ P X := by
  refine con_of pn_X2 rfl (Nat.le_of_ble_eq_true rfl) ?_
  show VL G mX2_forgetAll P X 0 [(0, .ref (zad G.1 4 0 0))] [] μ
  refine v_aload_n (n := 1) dX2_forgetAll_0 rfl rfl ?_
  refine v_iconst (n := 2) (x := nI 0) dX2_forgetAll_1 rfl (by decide) ?_
  refine v_putf (n := 5) dX2_forgetAll_2 rfl fw_X2_18 zokc_4 (fun _ => rfl) rfl rfl ?_
  exact v_vret dX2_forgetAll_5 rfl (Nat.le_of_ble_eq_true rfl) (Nat.le_of_ble_eq_true rfl) h

set_option maxRecDepth 20000 in
set_option maxHeartbeats 4000000 in
theorem wX3_becomeEmpty (G : Gl) {P : Option Value → St → Prop} {X : String → St → Prop}  (μ : St)
    (h : P none (up μ 5 0 0 1 (nI 0))) :
    Con G mX3_becomeEmpty [.ref (zad G.1 5 0 0)] μ P X := by
  refine con_of pn_X3 rfl (Nat.le_of_ble_eq_true rfl) ?_
  show VL G mX3_becomeEmpty P X 0 [(0, .ref (zad G.1 5 0 0))] [] μ
  refine v_aload_n (n := 1) dX3_becomeEmpty_0 rfl rfl ?_
  refine v_iconst (n := 2) (x := nI 0) dX3_becomeEmpty_1 rfl (by decide) ?_
  refine v_putf (n := 5) dX3_becomeEmpty_2 rfl fw_X3_15 zokc_5 (fun _ => rfl) rfl rfl ?_
  exact v_vret dX3_becomeEmpty_5 rfl (Nat.le_of_ble_eq_true rfl) (Nat.le_of_ble_eq_true rfl) h

set_option maxRecDepth 20000 in
set_option maxHeartbeats 4000000 in
theorem wX0_openPistes (G : Gl) {P : Option Value → St → Prop} {X : String → St → Prop} (b : Nat) (hb : b < 11) (μ : St)
    (h : VL G mX0_openPistes P X 4 [(0, .ref (zad G.1 2 b 0)), (1, .int (nI 0)), (2, .int (nI 0))] [] μ) :
    Con G mX0_openPistes [.ref (zad G.1 2 b 0)] μ P X := by
  refine con_of pn_X0 rfl (Nat.le_of_ble_eq_true rfl) ?_
  show VL G mX0_openPistes P X 0 [(0, .ref (zad G.1 2 b 0))] [] μ
  refine v_iconst (n := 1) (x := nI 0) dX0_openPistes_0 rfl (by decide) ?_
  refine v_istore_n (n := 2) (L' := [(0, .ref (zad G.1 2 b 0)), (1, .int (nI 0))]) dX0_openPistes_1 rfl (by decide) rfl ?_
  refine v_iconst (n := 3) (x := nI 0) dX0_openPistes_2 rfl (by decide) ?_
  refine v_istore_n (n := 4) (L' := [(0, .ref (zad G.1 2 b 0)), (1, .int (nI 0)), (2, .int (nI 0))]) dX0_openPistes_3 rfl (by decide) rfl ?_
  exact h

set_option maxRecDepth 20000 in
set_option maxHeartbeats 4000000 in
theorem wX0_openPistes_4 (G : Gl) {P : Option Value → St → Prop} {X : String → St → Prop} (b : Nat) (hb : b < 11) (y1 : Int32) (i : Nat) (μ : St)
    (h : ((μ 2 b 0 4 ≤ nI i → P (some (.int y1)) μ) ∧ (¬ μ 2 b 0 4 ≤ nI i → i < 10 ∧ ((¬ μ 7 b i 4 = 0 → VL G mX0_openPistes P X 4 [(0, .ref (zad G.1 2 b 0)), (1, .int y1), (2, .int (nI (i + 1)))] [] μ) ∧ (μ 7 b i 4 = 0 → VL G mX0_openPistes P X 4 [(0, .ref (zad G.1 2 b 0)), (1, .int (y1 + 1)), (2, .int (nI (i + 1)))] [] μ))))) :
    VL G mX0_openPistes P X 4 [(0, .ref (zad G.1 2 b 0)), (1, .int y1), (2, .int (nI i))] [] μ := by
  refine v_iload_n (n := 5) dX0_openPistes_4 rfl rfl ?_
  refine v_aload_n (n := 6) dX0_openPistes_5 rfl rfl ?_
  refine v_getf (n := 9) dX0_openPistes_6 rfl fl_X0_36 (zok_2 hb) (rfl) ?_
  refine v_icmp_ge (n := 12) (t := 33) dX0_openPistes_9 rfl (by decide) (fun hq => ?_) (fun hq => ?_)
  · replace h := h.1 hq
    refine v_iload_n (n := 34) dX0_openPistes_33 rfl rfl ?_
    exact v_iret dX0_openPistes_34 rfl (Nat.le_of_ble_eq_true rfl) (Nat.le_of_ble_eq_true rfl) h
  · replace h := h.2 hq
    refine v_aload_n (n := 13) dX0_openPistes_12 rfl rfl ?_
    refine v_getf (n := 16) dX0_openPistes_13 rfl fl_X0_20 (zok_2 hb) rfl ?_
    refine v_iload_n (n := 17) dX0_openPistes_16 rfl rfl ?_
    obtain ⟨hf1, h⟩ := h
    refine v_aald (n := 18) (j := i) dX0_openPistes_17 rfl (zok_21 hb) (by decide) rfl rfl hf1 rfl ?_
    refine v_getf (n := 21) dX0_openPistes_18 rfl fl_X0_88 (zok_7 hb hf1) (rfl) ?_
    refine v_if_ne (n := 24) (t := 27) dX0_openPistes_21 rfl (by decide) (fun hq => ?_) (fun hq => ?_)
    · replace h := h.1 hq
      refine v_iinc (n := 30) (x := nI i) (y := nI (i + 1)) (L' := [(0, .ref (zad G.1 2 b 0)), (1, .int y1), (2, .int (nI (i + 1)))]) dX0_openPistes_27 rfl rfl (nI_1 i) (by decide) rfl ?_
      refine v_goto (n := 4) dX0_openPistes_30 (by decide) ?_
      exact h
    · replace h := h.2 hq
      refine v_iinc (n := 27) (x := y1) (y := y1 + 1) (L' := [(0, .ref (zad G.1 2 b 0)), (1, .int (y1 + 1)), (2, .int (nI i))]) dX0_openPistes_24 rfl rfl rfl (by decide) rfl ?_
      refine v_iinc (n := 30) (x := nI i) (y := nI (i + 1)) (L' := [(0, .ref (zad G.1 2 b 0)), (1, .int (y1 + 1)), (2, .int (nI (i + 1)))]) dX0_openPistes_27 rfl rfl (nI_1 i) (by decide) rfl ?_
      refine v_goto (n := 4) dX0_openPistes_30 (by decide) ?_
      exact h

set_option maxRecDepth 20000 in
set_option maxHeartbeats 4000000 in
theorem wX0_guestsIn (G : Gl) {P : Option Value → St → Prop} {X : String → St → Prop} (b : Nat) (hb : b < 11) (x1 : Int32) (μ : St)
    (h : VL G mX0_guestsIn P X 4 [(0, .ref (zad G.1 2 b 0)), (1, .int x1), (2, .int (nI 0)), (3, .int (nI 0))] [] μ) :
    Con G mX0_guestsIn [.ref (zad G.1 2 b 0), .int x1] μ P X := by
  refine con_of pn_X0 rfl (Nat.le_of_ble_eq_true rfl) ?_
  show VL G mX0_guestsIn P X 0 [(0, .ref (zad G.1 2 b 0)), (1, .int x1)] [] μ
  refine v_iconst (n := 1) (x := nI 0) dX0_guestsIn_0 rfl (by decide) ?_
  refine v_istore_n (n := 2) (L' := [(0, .ref (zad G.1 2 b 0)), (1, .int x1), (2, .int (nI 0))]) dX0_guestsIn_1 rfl (by decide) rfl ?_
  refine v_iconst (n := 3) (x := nI 0) dX0_guestsIn_2 rfl (by decide) ?_
  refine v_istore_n (n := 4) (L' := [(0, .ref (zad G.1 2 b 0)), (1, .int x1), (2, .int (nI 0)), (3, .int (nI 0))]) dX0_guestsIn_3 rfl (by decide) rfl ?_
  exact h

set_option maxRecDepth 20000 in
set_option maxHeartbeats 4000000 in
theorem wX0_guestsIn_4 (G : Gl) {P : Option Value → St → Prop} {X : String → St → Prop} (b : Nat) (hb : b < 11) (x1 : Int32) (y2 : Int32) (i : Nat) (μ : St)
    (h : ((μ 2 b 0 5 ≤ nI i → P (some (.int y2)) μ) ∧ (¬ μ 2 b 0 5 ≤ nI i → i < 16 ∧ ((¬ μ 3 b i 4 = x1 → VL G mX0_guestsIn P X 4 [(0, .ref (zad G.1 2 b 0)), (1, .int x1), (2, .int y2), (3, .int (nI (i + 1)))] [] μ) ∧ (μ 3 b i 4 = x1 → VL G mX0_guestsIn P X 4 [(0, .ref (zad G.1 2 b 0)), (1, .int x1), (2, .int (y2 + 1)), (3, .int (nI (i + 1)))] [] μ))))) :
    VL G mX0_guestsIn P X 4 [(0, .ref (zad G.1 2 b 0)), (1, .int x1), (2, .int y2), (3, .int (nI i))] [] μ := by
  refine v_iload_n (n := 5) dX0_guestsIn_4 rfl rfl ?_
  refine v_aload_n (n := 6) dX0_guestsIn_5 rfl rfl ?_
  refine v_getf (n := 9) dX0_guestsIn_6 rfl fl_X0_39 (zok_2 hb) (rfl) ?_
  refine v_icmp_ge (n := 12) (t := 34) dX0_guestsIn_9 rfl (by decide) (fun hq => ?_) (fun hq => ?_)
  · replace h := h.1 hq
    refine v_iload_n (n := 35) dX0_guestsIn_34 rfl rfl ?_
    exact v_iret dX0_guestsIn_35 rfl (Nat.le_of_ble_eq_true rfl) (Nat.le_of_ble_eq_true rfl) h
  · replace h := h.2 hq
    refine v_aload_n (n := 13) dX0_guestsIn_12 rfl rfl ?_
    refine v_getf (n := 16) dX0_guestsIn_13 rfl fl_X0_27 (zok_2 hb) rfl ?_
    refine v_iload_n (n := 17) dX0_guestsIn_16 rfl rfl ?_
    obtain ⟨hf1, h⟩ := h
    refine v_aald (n := 18) (j := i) dX0_guestsIn_17 rfl (zok_22 hb) (by decide) rfl rfl hf1 rfl ?_
    refine v_getf (n := 21) dX0_guestsIn_18 rfl fl_X0_95 (zok_3 hb hf1) (rfl) ?_
    refine v_iload_n (n := 22) dX0_guestsIn_21 rfl rfl ?_
    refine v_icmp_ne (n := 25) (t := 28) dX0_guestsIn_22 rfl (by decide) (fun hq => ?_) (fun hq => ?_)
    · replace h := h.1 hq
      refine v_iinc (n := 31) (x := nI i) (y := nI (i + 1)) (L' := [(0, .ref (zad G.1 2 b 0)), (1, .int x1), (2, .int y2), (3, .int (nI (i + 1)))]) dX0_guestsIn_28 rfl rfl (nI_1 i) (by decide) rfl ?_
      refine v_goto (n := 4) dX0_guestsIn_31 (by decide) ?_
      exact h
    · replace h := h.2 hq
      refine v_iinc (n := 28) (x := y2) (y := y2 + 1) (L' := [(0, .ref (zad G.1 2 b 0)), (1, .int x1), (2, .int (y2 + 1)), (3, .int (nI i))]) dX0_guestsIn_25 rfl rfl rfl (by decide) rfl ?_
      refine v_iinc (n := 31) (x := nI i) (y := nI (i + 1)) (L' := [(0, .ref (zad G.1 2 b 0)), (1, .int x1), (2, .int (y2 + 1)), (3, .int (nI (i + 1)))]) dX0_guestsIn_28 rfl rfl (nI_1 i) (by decide) rfl ?_
      refine v_goto (n := 4) dX0_guestsIn_31 (by decide) ?_
      exact h

set_option maxRecDepth 20000 in
set_option maxHeartbeats 4000000 in
theorem wX0_closeWornPistes (G : Gl) {P : Option Value → St → Prop} {X : String → St → Prop} (b : Nat) (hb : b < 11) (μ : St)
    (h : VL G mX0_closeWornPistes P X 2 [(0, .ref (zad G.1 2 b 0)), (1, .int (nI 0))] [] μ) :
    Con G mX0_closeWornPistes [.ref (zad G.1 2 b 0)] μ P X := by
  refine con_of pn_X0 rfl (Nat.le_of_ble_eq_true rfl) ?_
  show VL G mX0_closeWornPistes P X 0 [(0, .ref (zad G.1 2 b 0))] [] μ
  refine v_iconst (n := 1) (x := nI 0) dX0_closeWornPistes_0 rfl (by decide) ?_
  refine v_istore_n (n := 2) (L' := [(0, .ref (zad G.1 2 b 0)), (1, .int (nI 0))]) dX0_closeWornPistes_1 rfl (by decide) rfl ?_
  exact h

set_option maxRecDepth 20000 in
set_option maxHeartbeats 4000000 in
theorem wX0_closeWornPistes_2 (G : Gl) {P : Option Value → St → Prop} {X : String → St → Prop} (b : Nat) (hb : b < 11) (i : Nat) (μ : St)
    (h : ((μ 2 b 0 4 ≤ nI i → P none μ) ∧ (¬ μ 2 b 0 4 ≤ nI i → i < 10 ∧ ((¬ μ 7 b i 4 = 0 → VL G mX0_closeWornPistes P X 2 [(0, .ref (zad G.1 2 b 0)), (1, .int (nI (i + 1)))] [] μ) ∧ (μ 7 b i 4 = 0 → ((μ 7 b i 5 < nI 20 → VL G mX0_closeWornPistes P X 2 [(0, .ref (zad G.1 2 b 0)), (1, .int (nI (i + 1)))] [] μ) ∧ (¬ μ 7 b i 5 < nI 20 → VL G mX0_closeWornPistes P X 2 [(0, .ref (zad G.1 2 b 0)), (1, .int (nI (i + 1)))] [] (up μ 7 b i 4 (nI 1))))))))) :
    VL G mX0_closeWornPistes P X 2 [(0, .ref (zad G.1 2 b 0)), (1, .int (nI i))] [] μ := by
  refine v_iload_n (n := 3) dX0_closeWornPistes_2 rfl rfl ?_
  refine v_aload_n (n := 4) dX0_closeWornPistes_3 rfl rfl ?_
  refine v_getf (n := 7) dX0_closeWornPistes_4 rfl fl_X0_36 (zok_2 hb) (rfl) ?_
  refine v_icmp_ge (n := 10) (t := 52) dX0_closeWornPistes_7 rfl (by decide) (fun hq => ?_) (fun hq => ?_)
  · replace h := h.1 hq
    exact v_vret dX0_closeWornPistes_52 rfl (Nat.le_of_ble_eq_true rfl) (Nat.le_of_ble_eq_true rfl) h
  · replace h := h.2 hq
    refine v_aload_n (n := 11) dX0_closeWornPistes_10 rfl rfl ?_
    refine v_getf (n := 14) dX0_closeWornPistes_11 rfl fl_X0_20 (zok_2 hb) rfl ?_
    refine v_iload_n (n := 15) dX0_closeWornPistes_14 rfl rfl ?_
    obtain ⟨hf1, h⟩ := h
    refine v_aald (n := 16) (j := i) dX0_closeWornPistes_15 rfl (zok_21 hb) (by decide) rfl rfl hf1 rfl ?_
    refine v_getf (n := 19) dX0_closeWornPistes_16 rfl fl_X0_88 (zok_7 hb hf1) (rfl) ?_
    refine v_if_ne (n := 22) (t := 46) dX0_closeWornPistes_19 rfl (by decide) (fun hq => ?_) (fun hq => ?_)
    · replace h := h.1 hq
      refine v_iinc (n := 49) (x := nI i) (y := nI (i + 1)) (L' := [(0, .ref (zad G.1 2 b 0)), (1, .int (nI (i + 1)))]) dX0_closeWornPistes_46 rfl rfl (nI_1 i) (by decide) rfl ?_
      refine v_goto (n := 2) dX0_closeWornPistes_49 (by decide) ?_
      exact h
    · replace h := h.2 hq
      refine v_aload_n (n := 23) dX0_closeWornPistes_22 rfl rfl ?_
      refine v_getf (n := 26) dX0_closeWornPistes_23 rfl fl_X0_20 (zok_2 hb) rfl ?_
      refine v_iload_n (n := 27) dX0_closeWornPistes_26 rfl rfl ?_
      refine v_aald (n := 28) (j := i) dX0_closeWornPistes_27 rfl (zok_21 hb) (by decide) rfl rfl hf1 rfl ?_
      refine v_getf (n := 31) dX0_closeWornPistes_28 rfl fl_X0_142 (zok_7 hb hf1) (rfl) ?_
      refine v_bipush (n := 33) (x := nI 20) dX0_closeWornPistes_31 rfl (by decide) ?_
      refine v_icmp_lt (n := 36) (t := 46) dX0_closeWornPistes_33 rfl (by decide) (fun hq => ?_) (fun hq => ?_)
      · replace h := h.1 hq
        refine v_iinc (n := 49) (x := nI i) (y := nI (i + 1)) (L' := [(0, .ref (zad G.1 2 b 0)), (1, .int (nI (i + 1)))]) dX0_closeWornPistes_46 rfl rfl (nI_1 i) (by decide) rfl ?_
        refine v_goto (n := 2) dX0_closeWornPistes_49 (by decide) ?_
        exact h
      · replace h := h.2 hq
        refine v_aload_n (n := 37) dX0_closeWornPistes_36 rfl rfl ?_
        refine v_getf (n := 40) dX0_closeWornPistes_37 rfl fl_X0_20 (zok_2 hb) rfl ?_
        refine v_iload_n (n := 41) dX0_closeWornPistes_40 rfl rfl ?_
        refine v_aald (n := 42) (j := i) dX0_closeWornPistes_41 rfl (zok_21 hb) (by decide) rfl rfl hf1 rfl ?_
        refine v_iconst (n := 43) (x := nI 1) dX0_closeWornPistes_42 rfl (by decide) ?_
        refine v_putf (n := 46) dX0_closeWornPistes_43 rfl fw_X0_88 (zok_7 hb hf1) (fun _ => rfl) rfl rfl ?_
        refine v_iinc (n := 49) (x := nI i) (y := nI (i + 1)) (L' := [(0, .ref (zad G.1 2 b 0)), (1, .int (nI (i + 1)))]) dX0_closeWornPistes_46 rfl rfl (nI_1 i) (by decide) rfl ?_
        refine v_goto (n := 2) dX0_closeWornPistes_49 (by decide) ?_
        exact h

set_option maxRecDepth 20000 in
set_option maxHeartbeats 4000000 in
theorem wX0_liftWithMostRiders (G : Gl) {P : Option Value → St → Prop} {X : String → St → Prop} (b : Nat) (hb : b < 11) (μ : St)
    (h : VL G mX0_liftWithMostRiders P X 6 [(0, .ref (zad G.1 2 b 0)), (1, .int (-1 : Int32)), (2, .int (nI 0)), (3, .int (nI 0))] [] μ) :
    Con G mX0_liftWithMostRiders [.ref (zad G.1 2 b 0)] μ P X := by
  refine con_of pn_X0 rfl (Nat.le_of_ble_eq_true rfl) ?_
  show VL G mX0_liftWithMostRiders P X 0 [(0, .ref (zad G.1 2 b 0))] [] μ
  refine v_iconst (n := 1) (x := (-1 : Int32)) dX0_liftWithMostRiders_0 rfl (by decide) ?_
  refine v_istore_n (n := 2) (L' := [(0, .ref (zad G.1 2 b 0)), (1, .int (-1 : Int32))]) dX0_liftWithMostRiders_1 rfl (by decide) rfl ?_
  refine v_iconst (n := 3) (x := nI 0) dX0_liftWithMostRiders_2 rfl (by decide) ?_
  refine v_istore_n (n := 4) (L' := [(0, .ref (zad G.1 2 b 0)), (1, .int (-1 : Int32)), (2, .int (nI 0))]) dX0_liftWithMostRiders_3 rfl (by decide) rfl ?_
  refine v_iconst (n := 5) (x := nI 0) dX0_liftWithMostRiders_4 rfl (by decide) ?_
  refine v_istore_n (n := 6) (L' := [(0, .ref (zad G.1 2 b 0)), (1, .int (-1 : Int32)), (2, .int (nI 0)), (3, .int (nI 0))]) dX0_liftWithMostRiders_5 rfl (by decide) rfl ?_
  exact h

set_option maxRecDepth 20000 in
set_option maxHeartbeats 4000000 in
theorem wX0_liftWithMostRiders_6 (G : Gl) {P : Option Value → St → Prop} {X : String → St → Prop} (b : Nat) (hb : b < 11) (y1 : Int32) (y2 : Int32) (i : Nat) (μ : St)
    (h : ((μ 2 b 0 3 ≤ nI i → P (some (.int y1)) μ) ∧ (¬ μ 2 b 0 3 ≤ nI i → i < 6 ∧ ((μ 6 b i 8 ≤ y2 → VL G mX0_liftWithMostRiders P X 6 [(0, .ref (zad G.1 2 b 0)), (1, .int y1), (2, .int y2), (3, .int (nI (i + 1)))] [] μ) ∧ (¬ μ 6 b i 8 ≤ y2 → VL G mX0_liftWithMostRiders P X 6 [(0, .ref (zad G.1 2 b 0)), (1, .int (nI i)), (2, .int (μ 6 b i 8)), (3, .int (nI (i + 1)))] [] μ))))) :
    VL G mX0_liftWithMostRiders P X 6 [(0, .ref (zad G.1 2 b 0)), (1, .int y1), (2, .int y2), (3, .int (nI i))] [] μ := by
  refine v_iload_n (n := 7) dX0_liftWithMostRiders_6 rfl rfl ?_
  refine v_aload_n (n := 8) dX0_liftWithMostRiders_7 rfl rfl ?_
  refine v_getf (n := 11) dX0_liftWithMostRiders_8 rfl fl_X0_32 (zok_2 hb) (rfl) ?_
  refine v_icmp_ge (n := 14) (t := 45) dX0_liftWithMostRiders_11 rfl (by decide) (fun hq => ?_) (fun hq => ?_)
  · replace h := h.1 hq
    refine v_iload_n (n := 46) dX0_liftWithMostRiders_45 rfl rfl ?_
    exact v_iret dX0_liftWithMostRiders_46 rfl (Nat.le_of_ble_eq_true rfl) (Nat.le_of_ble_eq_true rfl) h
  · replace h := h.2 hq
    refine v_aload_n (n := 15) dX0_liftWithMostRiders_14 rfl rfl ?_
    refine v_getf (n := 18) dX0_liftWithMostRiders_15 rfl fl_X0_11 (zok_2 hb) rfl ?_
    refine v_iload_n (n := 19) dX0_liftWithMostRiders_18 rfl rfl ?_
    obtain ⟨hf1, h⟩ := h
    refine v_aald (n := 20) (j := i) dX0_liftWithMostRiders_19 rfl (zok_20 hb) (by decide) rfl rfl hf1 rfl ?_
    refine v_getf (n := 23) dX0_liftWithMostRiders_20 rfl fl_X0_203 (zok_6 hb hf1) (rfl) ?_
    refine v_iload_n (n := 24) dX0_liftWithMostRiders_23 rfl rfl ?_
    refine v_icmp_le (n := 27) (t := 39) dX0_liftWithMostRiders_24 rfl (by decide) (fun hq => ?_) (fun hq => ?_)
    · replace h := h.1 hq
      refine v_iinc (n := 42) (x := nI i) (y := nI (i + 1)) (L' := [(0, .ref (zad G.1 2 b 0)), (1, .int y1), (2, .int y2), (3, .int (nI (i + 1)))]) dX0_liftWithMostRiders_39 rfl rfl (nI_1 i) (by decide) rfl ?_
      refine v_goto (n := 6) dX0_liftWithMostRiders_42 (by decide) ?_
      exact h
    · replace h := h.2 hq
      refine v_aload_n (n := 28) dX0_liftWithMostRiders_27 rfl rfl ?_
      refine v_getf (n := 31) dX0_liftWithMostRiders_28 rfl fl_X0_11 (zok_2 hb) rfl ?_
      refine v_iload_n (n := 32) dX0_liftWithMostRiders_31 rfl rfl ?_
      refine v_aald (n := 33) (j := i) dX0_liftWithMostRiders_32 rfl (zok_20 hb) (by decide) rfl rfl hf1 rfl ?_
      refine v_getf (n := 36) dX0_liftWithMostRiders_33 rfl fl_X0_203 (zok_6 hb hf1) (rfl) ?_
      refine v_istore_n (n := 37) (L' := [(0, .ref (zad G.1 2 b 0)), (1, .int y1), (2, .int (μ 6 b i 8)), (3, .int (nI i))]) dX0_liftWithMostRiders_36 rfl (by decide) rfl ?_
      refine v_iload_n (n := 38) dX0_liftWithMostRiders_37 rfl rfl ?_
      refine v_istore_n (n := 39) (L' := [(0, .ref (zad G.1 2 b 0)), (1, .int (nI i)), (2, .int (μ 6 b i 8)), (3, .int (nI i))]) dX0_liftWithMostRiders_38 rfl (by decide) rfl ?_
      refine v_iinc (n := 42) (x := nI i) (y := nI (i + 1)) (L' := [(0, .ref (zad G.1 2 b 0)), (1, .int (nI i)), (2, .int (μ 6 b i 8)), (3, .int (nI (i + 1)))]) dX0_liftWithMostRiders_39 rfl rfl (nI_1 i) (by decide) rfl ?_
      refine v_goto (n := 6) dX0_liftWithMostRiders_42 (by decide) ?_
      exact h

