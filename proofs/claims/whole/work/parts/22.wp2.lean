/-! wp-lemmas by program (wip/whole/wp.py) -/
set_option maxRecDepth 20000 in
set_option maxHeartbeats 4000000 in
theorem wX7_isStation (G : Gl) {P : Option Value → St → Prop} {X : String → St → Prop} (x0 : Int32) (μ : St)
    (h : P (some (.int (bI (btw x0 (nI 0) (nI 7))))) μ) :
    Con G mX7_isStation [.int x0] μ P X := by
  refine con_of pn_X7 rfl (Nat.le_of_ble_eq_true rfl) ?_
  show VL G mX7_isStation P X 0 [(0, .int x0)] [] μ
  refine v_iload_n (n := 1) dX7_isStation_0 rfl rfl ?_
  refine v_iconst (n := 2) (x := nI 0) dX7_isStation_1 rfl (by decide) ?_
  refine v_bipush (n := 4) (x := nI 7) dX7_isStation_2 rfl (by decide) ?_
  refine v_callS (n := 7) (As := [.int x0, .int (nI 0), .int (nI 7)]) (rest := []) dX7_isStation_4 rfl lk_X7_74 rfl rfl (Nat.le_of_ble_eq_true rfl) ⟨Nat.le_of_ble_eq_true rfl, Nat.le_of_ble_eq_true rfl, Nat.le_of_ble_eq_true rfl, Nat.le_of_ble_eq_true rfl⟩ (s_X7_isBetween G x0 (nI 0) (nI 7) μ) (fun v μ9 hp => ?_) (fun _ _ hp => False.elim hp)
  rw [hp.1, hp.2]
  refine v_norm (st' := [.int (bI (btw x0 (nI 0) (nI 7)))]) (cells' := 0) (slots' := 0) rfl rfl rfl ?_
  exact v_zret dX7_isStation_7 rfl (nar_bI _) (Nat.le_of_ble_eq_true rfl) (Nat.le_of_ble_eq_true rfl) h

set_option maxRecDepth 20000 in
set_option maxHeartbeats 4000000 in
theorem wX0_isHeld (G : Gl) {P : Option Value → St → Prop} {X : String → St → Prop} (b : Nat) (hb : b < 11) (i : Nat) (hi : i < 6) (μ : St)
    (h : ((¬ spo μ b i = 0 → P (some (.int (nI 0))) μ) ∧ (spo μ b i = 0 → P (some (.int (nI 1))) μ))) :
    Con G mX0_isHeld [.ref (zad G.1 2 b 0), .ref (zad G.1 6 b i)] μ P X := by
  refine con_of pn_X0 rfl (Nat.le_of_ble_eq_true rfl) ?_
  show VL G mX0_isHeld P X 0 [(0, .ref (zad G.1 2 b 0)), (1, .ref (zad G.1 6 b i))] [] μ
  refine v_aload_n (n := 1) dX0_isHeld_0 rfl rfl ?_
  refine v_aload_n (n := 2) dX0_isHeld_1 rfl rfl ?_
  refine v_callV (n := 5) (k := 2) (b := b) (i := 0) (As := [.ref (zad G.1 6 b i)]) (rest := []) dX0_isHeld_2 rfl lk_X0_64 rfl rfl (Nat.le_of_ble_eq_true rfl) ⟨Nat.le_of_ble_eq_true rfl, Nat.le_of_ble_eq_true rfl, Nat.le_of_ble_eq_true rfl, Nat.le_of_ble_eq_true rfl⟩ (zok_2 hb) (s_X0_speedOf G b hb i hi μ) (fun v μ9 hp => ?_) (fun _ _ hp => False.elim hp)
  rw [hp.1, hp.2]
  refine v_norm (st' := [.int (spo μ b i)]) (cells' := 0) (slots' := 0) rfl rfl rfl ?_
  refine v_if_ne (n := 8) (t := 12) dX0_isHeld_5 rfl (by decide) (fun hq => ?_) (fun hq => ?_)
  · replace h := h.1 hq
    refine v_iconst (n := 13) (x := nI 0) dX0_isHeld_12 rfl (by decide) ?_
    exact v_zret dX0_isHeld_13 rfl (by decide) (Nat.le_of_ble_eq_true rfl) (Nat.le_of_ble_eq_true rfl) h
  · replace h := h.2 hq
    refine v_iconst (n := 9) (x := nI 1) dX0_isHeld_8 rfl (by decide) ?_
    refine v_goto (n := 13) dX0_isHeld_9 (by decide) ?_
    exact v_zret dX0_isHeld_13 rfl (by decide) (Nat.le_of_ble_eq_true rfl) (Nat.le_of_ble_eq_true rfl) h

set_option maxRecDepth 20000 in
set_option maxHeartbeats 4000000 in
theorem wX0_isWayFor_ (G : Gl) {P : Option Value → St → Prop} {X : String → St → Prop} (b : Nat) (hb : b < 11) (i : Nat) (hi : i < 16) (j : Nat) (hj : j < 10) (μ : St)
    (h : ((¬ μ 7 b j 4 = 0 → P (some (.int (nI 0))) μ) ∧ (μ 7 b j 4 = 0 → ((tdf μ b j i = true → P (some (.int (nI 0))) μ) ∧ (tdf μ b j i = false → P (some (.int (nI 1))) μ))))) :
    Con G mX0_isWayFor_ [.ref (zad G.1 2 b 0), .ref (zad G.1 3 b i), .ref (zad G.1 7 b j)] μ P X := by
  refine con_of pn_X0 rfl (Nat.le_of_ble_eq_true rfl) ?_
  show VL G mX0_isWayFor_ P X 0 [(0, .ref (zad G.1 2 b 0)), (1, .ref (zad G.1 3 b i)), (2, .ref (zad G.1 7 b j))] [] μ
  refine v_aload_n (n := 1) dX0_isWayFor__0 rfl rfl ?_
  refine v_getf (n := 4) dX0_isWayFor__1 rfl fl_X0_88 (zok_7 hb hj) (rfl) ?_
  refine v_if_ne (n := 7) (t := 19) dX0_isWayFor__4 rfl (by decide) (fun hq => ?_) (fun hq => ?_)
  · replace h := h.1 hq
    refine v_iconst (n := 20) (x := nI 0) dX0_isWayFor__19 rfl (by decide) ?_
    exact v_zret dX0_isWayFor__20 rfl (by decide) (Nat.le_of_ble_eq_true rfl) (Nat.le_of_ble_eq_true rfl) h
  · replace h := h.2 hq
    refine v_aload_n (n := 8) dX0_isWayFor__7 rfl rfl ?_
    refine v_aload_n (n := 9) dX0_isWayFor__8 rfl rfl ?_
    refine v_callV (n := 12) (k := 7) (b := b) (i := j) (As := [.ref (zad G.1 3 b i)]) (rest := []) dX0_isWayFor__9 rfl lk_X0_91 rfl rfl (Nat.le_of_ble_eq_true rfl) ⟨Nat.le_of_ble_eq_true rfl, Nat.le_of_ble_eq_true rfl, Nat.le_of_ble_eq_true rfl, Nat.le_of_ble_eq_true rfl⟩ (zok_7 hb hj) (s_X5_isTooDifficultFor G b hb j hj i hi μ) (fun v μ9 hp => ?_) (fun _ _ hp => False.elim hp)
    rw [hp.1, hp.2]
    refine v_norm (st' := [.int (bI (tdf μ b j i))]) (cells' := 0) (slots' := 0) rfl rfl rfl ?_
    refine v_if_ne (n := 15) (t := 19) dX0_isWayFor__12 rfl (by decide) (fun hq => ?_) (fun hq => ?_)
    · replace h := h.1 (bI_nf hq)
      refine v_iconst (n := 20) (x := nI 0) dX0_isWayFor__19 rfl (by decide) ?_
      exact v_zret dX0_isWayFor__20 rfl (by decide) (Nat.le_of_ble_eq_true rfl) (Nat.le_of_ble_eq_true rfl) h
    · replace h := h.2 (bI_f hq)
      refine v_iconst (n := 16) (x := nI 1) dX0_isWayFor__15 rfl (by decide) ?_
      refine v_goto (n := 20) dX0_isWayFor__16 (by decide) ?_
      exact v_zret dX0_isWayFor__20 rfl (by decide) (Nat.le_of_ble_eq_true rfl) (Nat.le_of_ble_eq_true rfl) h

set_option maxRecDepth 20000 in
set_option maxHeartbeats 4000000 in
theorem wX1_standAt (G : Gl) {P : Option Value → St → Prop} {X : String → St → Prop} (b : Nat) (hb : b < 11) (i : Nat) (hi : i < 16) (x1 : Int32) (μ : St)
    (h : P none (gbc μ b i (nI 0) x1 (nI 0) (nI 0))) :
    Con G mX1_standAt [.ref (zad G.1 3 b i), .int x1] μ P X := by
  refine con_of pn_X1 rfl (Nat.le_of_ble_eq_true rfl) ?_
  show VL G mX1_standAt P X 0 [(0, .ref (zad G.1 3 b i)), (1, .int x1)] [] μ
  refine v_aload_n (n := 1) dX1_standAt_0 rfl rfl ?_
  refine v_iconst (n := 2) (x := nI 0) dX1_standAt_1 rfl (by decide) ?_
  refine v_iload_n (n := 3) dX1_standAt_2 rfl rfl ?_
  refine v_iconst (n := 4) (x := nI 0) dX1_standAt_3 rfl (by decide) ?_
  refine v_iconst (n := 5) (x := nI 0) dX1_standAt_4 rfl (by decide) ?_
  refine v_callV (n := 8) (k := 3) (b := b) (i := i) (As := [.int (nI 0), .int x1, .int (nI 0), .int (nI 0)]) (rest := []) dX1_standAt_5 rfl lk_X1_33 rfl rfl (Nat.le_of_ble_eq_true rfl) ⟨Nat.le_of_ble_eq_true rfl, Nat.le_of_ble_eq_true rfl, Nat.le_of_ble_eq_true rfl, Nat.le_of_ble_eq_true rfl⟩ (zok_3 hb hi) (s_X1_become G b hb i hi (nI 0) x1 (nI 0) (nI 0) μ) (fun v μ9 hp => ?_) (fun _ _ hp => False.elim hp)
  rw [hp.1, hp.2]
  refine v_norm (st' := []) (cells' := 0) (slots' := 0) rfl rfl rfl ?_
  exact v_vret dX1_standAt_8 rfl (Nat.le_of_ble_eq_true rfl) (Nat.le_of_ble_eq_true rfl) h

set_option maxRecDepth 20000 in
set_option maxHeartbeats 4000000 in
theorem wX1_goAway (G : Gl) {P : Option Value → St → Prop} {X : String → St → Prop} (b : Nat) (hb : b < 11) (i : Nat) (hi : i < 16) (μ : St)
    (h : P none (gbc μ b i (nI 4) (-1 : Int32) (nI 0) (nI 0))) :
    Con G mX1_goAway [.ref (zad G.1 3 b i)] μ P X := by
  refine con_of pn_X1 rfl (Nat.le_of_ble_eq_true rfl) ?_
  show VL G mX1_goAway P X 0 [(0, .ref (zad G.1 3 b i))] [] μ
  refine v_aload_n (n := 1) dX1_goAway_0 rfl rfl ?_
  refine v_iconst (n := 2) (x := nI 4) dX1_goAway_1 rfl (by decide) ?_
  refine v_iconst (n := 3) (x := (-1 : Int32)) dX1_goAway_2 rfl (by decide) ?_
  refine v_iconst (n := 4) (x := nI 0) dX1_goAway_3 rfl (by decide) ?_
  refine v_iconst (n := 5) (x := nI 0) dX1_goAway_4 rfl (by decide) ?_
  refine v_callV (n := 8) (k := 3) (b := b) (i := i) (As := [.int (nI 4), .int (-1 : Int32), .int (nI 0), .int (nI 0)]) (rest := []) dX1_goAway_5 rfl lk_X1_33 rfl rfl (Nat.le_of_ble_eq_true rfl) ⟨Nat.le_of_ble_eq_true rfl, Nat.le_of_ble_eq_true rfl, Nat.le_of_ble_eq_true rfl, Nat.le_of_ble_eq_true rfl⟩ (zok_3 hb hi) (s_X1_become G b hb i hi (nI 4) (-1 : Int32) (nI 0) (nI 0) μ) (fun v μ9 hp => ?_) (fun _ _ hp => False.elim hp)
  rw [hp.1, hp.2]
  refine v_norm (st' := []) (cells' := 0) (slots' := 0) rfl rfl rfl ?_
  exact v_vret dX1_goAway_8 rfl (Nat.le_of_ble_eq_true rfl) (Nat.le_of_ble_eq_true rfl) h

set_option maxRecDepth 20000 in
set_option maxHeartbeats 4000000 in
theorem wX1_begin (G : Gl) {P : Option Value → St → Prop} {X : String → St → Prop} (b : Nat) (hb : b < 11) (i : Nat) (hi : i < 16) (x1 : Int32) (x2 : Int32) (x3 : Int32) (x4 : Int32) (x5 : Int32) (μ : St)
    (h : P none (gbc (up (up (up (up (up (up (up μ 3 b i 0 x2) 3 b i 1 x3) 3 b i 2 x4) 3 b i 3 x5) 3 b i 8 (nI 0)) 3 b i 9 (nI 0)) 3 b i 10 (nI 0)) b i (nI 0) x1 (nI 0) (nI 0))) :
    Con G mX1_begin [.ref (zad G.1 3 b i), .int x1, .int x2, .int x3, .int x4, .int x5] μ P X := by
  refine con_of pn_X1 rfl (Nat.le_of_ble_eq_true rfl) ?_
  show VL G mX1_begin P X 0 [(0, .ref (zad G.1 3 b i)), (1, .int x1), (2, .int x2), (3, .int x3), (4, .int x4), (5, .int x5)] [] μ
  refine v_aload_n (n := 1) dX1_begin_0 rfl rfl ?_
  refine v_iload_n (n := 2) dX1_begin_1 rfl rfl ?_
  refine v_putf (n := 5) dX1_begin_2 rfl fw_X1_9 (zok_3 hb hi) (fun _ => rfl) rfl rfl ?_
  refine v_aload_n (n := 6) dX1_begin_5 rfl rfl ?_
  refine v_iload_n (n := 7) dX1_begin_6 rfl rfl ?_
  refine v_putf (n := 10) dX1_begin_7 rfl fw_X1_15 (zok_3 hb hi) (fun _ => rfl) rfl rfl ?_
  refine v_aload_n (n := 11) dX1_begin_10 rfl rfl ?_
  refine v_iload (n := 13) dX1_begin_11 rfl rfl ?_
  refine v_putf (n := 16) dX1_begin_13 rfl fw_X1_18 (zok_3 hb hi) (fun _ => rfl) rfl rfl ?_
  refine v_aload_n (n := 17) dX1_begin_16 rfl rfl ?_
  refine v_iload (n := 19) dX1_begin_17 rfl rfl ?_
  refine v_putf (n := 22) dX1_begin_19 rfl fw_X1_21 (zok_3 hb hi) (fun _ => rfl) rfl rfl ?_
  refine v_aload_n (n := 23) dX1_begin_22 rfl rfl ?_
  refine v_iconst (n := 24) (x := nI 0) dX1_begin_23 rfl (by decide) ?_
  refine v_putf (n := 27) dX1_begin_24 rfl fw_X1_24 (zok_3 hb hi) (fun _ => rfl) rfl rfl ?_
  refine v_aload_n (n := 28) dX1_begin_27 rfl rfl ?_
  refine v_iconst (n := 29) (x := nI 0) dX1_begin_28 rfl (by decide) ?_
  refine v_putf (n := 32) dX1_begin_29 rfl fw_X1_27 (zok_3 hb hi) (fun _ => rfl) rfl rfl ?_
  refine v_aload_n (n := 33) dX1_begin_32 rfl rfl ?_
  refine v_iconst (n := 34) (x := nI 0) dX1_begin_33 rfl (by decide) ?_
  refine v_putf (n := 37) dX1_begin_34 rfl fw_X1_30 (zok_3 hb hi) (fun _ => rfl) rfl rfl ?_
  refine v_aload_n (n := 38) dX1_begin_37 rfl rfl ?_
  refine v_iconst (n := 39) (x := nI 0) dX1_begin_38 rfl (by decide) ?_
  refine v_iload_n (n := 40) dX1_begin_39 rfl rfl ?_
  refine v_iconst (n := 41) (x := nI 0) dX1_begin_40 rfl (by decide) ?_
  refine v_iconst (n := 42) (x := nI 0) dX1_begin_41 rfl (by decide) ?_
  refine v_callV (n := 45) (k := 3) (b := b) (i := i) (As := [.int (nI 0), .int x1, .int (nI 0), .int (nI 0)]) (rest := []) dX1_begin_42 rfl lk_X1_33 rfl rfl (Nat.le_of_ble_eq_true rfl) ⟨Nat.le_of_ble_eq_true rfl, Nat.le_of_ble_eq_true rfl, Nat.le_of_ble_eq_true rfl, Nat.le_of_ble_eq_true rfl⟩ (zok_3 hb hi) (s_X1_become G b hb i hi (nI 0) x1 (nI 0) (nI 0) (up (up (up (up (up (up (up μ 3 b i 0 x2) 3 b i 1 x3) 3 b i 2 x4) 3 b i 3 x5) 3 b i 8 (nI 0)) 3 b i 9 (nI 0)) 3 b i 10 (nI 0))) (fun v μ9 hp => ?_) (fun _ _ hp => False.elim hp)
  rw [hp.1, hp.2]
  refine v_norm (st' := []) (cells' := 0) (slots' := 0) rfl rfl rfl ?_
  exact v_vret dX1_begin_45 rfl (Nat.le_of_ble_eq_true rfl) (Nat.le_of_ble_eq_true rfl) h

set_option maxRecDepth 20000 in
set_option maxHeartbeats 4000000 in
theorem wX1_copyFrom (G : Gl) {P : Option Value → St → Prop} {X : String → St → Prop} (b : Nat) (hb : b < 11) (i : Nat) (hi : i < 16) (c : Nat) (hc : c < 11) (j : Nat) (hj : j < 16) (μ : St)
    (h : P none (gbc (up (up (up (up (up (up (up μ 3 b i 0 (μ 3 c j 0)) 3 b i 1 (μ 3 c j 1)) 3 b i 2 (μ 3 c j 2)) 3 b i 3 (μ 3 c j 3)) 3 b i 8 (μ 3 c j 8)) 3 b i 9 (μ 3 c j 9)) 3 b i 10 (μ 3 c j 10)) b i (μ 3 c j 4) (μ 3 c j 5) (μ 3 c j 6) (μ 3 c j 7))) :
    Con G mX1_copyFrom [.ref (zad G.1 3 b i), .ref (zad G.1 3 c j)] μ P X := by
  refine con_of pn_X1 rfl (Nat.le_of_ble_eq_true rfl) ?_
  show VL G mX1_copyFrom P X 0 [(0, .ref (zad G.1 3 b i)), (1, .ref (zad G.1 3 c j))] [] μ
  refine v_aload_n (n := 1) dX1_copyFrom_0 rfl rfl ?_
  refine v_aload_n (n := 2) dX1_copyFrom_1 rfl rfl ?_
  refine v_getf (n := 5) dX1_copyFrom_2 rfl fl_X1_9 (zok_3 hc hj) (rfl) ?_
  refine v_putf (n := 8) dX1_copyFrom_5 rfl fw_X1_9 (zok_3 hb hi) (fun _ => rfl) rfl rfl ?_
  refine v_aload_n (n := 9) dX1_copyFrom_8 rfl rfl ?_
  refine v_aload_n (n := 10) dX1_copyFrom_9 rfl rfl ?_
  refine v_getf (n := 13) dX1_copyFrom_10 rfl fl_X1_15 (zok_3 hc hj) (congrArg Value.int (up_sl (by decide))) ?_
  refine v_putf (n := 16) dX1_copyFrom_13 rfl fw_X1_15 (zok_3 hb hi) (fun _ => rfl) rfl rfl ?_
  refine v_aload_n (n := 17) dX1_copyFrom_16 rfl rfl ?_
  refine v_aload_n (n := 18) dX1_copyFrom_17 rfl rfl ?_
  refine v_getf (n := 21) dX1_copyFrom_18 rfl fl_X1_18 (zok_3 hc hj) (congrArg Value.int ((up_sl (by decide)).trans (up_sl (by decide)))) ?_
  refine v_putf (n := 24) dX1_copyFrom_21 rfl fw_X1_18 (zok_3 hb hi) (fun _ => rfl) rfl rfl ?_
  refine v_aload_n (n := 25) dX1_copyFrom_24 rfl rfl ?_
  refine v_aload_n (n := 26) dX1_copyFrom_25 rfl rfl ?_
  refine v_getf (n := 29) dX1_copyFrom_26 rfl fl_X1_21 (zok_3 hc hj) (congrArg Value.int ((up_sl (by decide)).trans ((up_sl (by decide)).trans (up_sl (by decide))))) ?_
  refine v_putf (n := 32) dX1_copyFrom_29 rfl fw_X1_21 (zok_3 hb hi) (fun _ => rfl) rfl rfl ?_
  refine v_aload_n (n := 33) dX1_copyFrom_32 rfl rfl ?_
  refine v_aload_n (n := 34) dX1_copyFrom_33 rfl rfl ?_
  refine v_getf (n := 37) dX1_copyFrom_34 rfl fl_X1_24 (zok_3 hc hj) (congrArg Value.int ((up_sl (by decide)).trans ((up_sl (by decide)).trans ((up_sl (by decide)).trans (up_sl (by decide)))))) ?_
  refine v_putf (n := 40) dX1_copyFrom_37 rfl fw_X1_24 (zok_3 hb hi) (fun _ => rfl) rfl rfl ?_
  refine v_aload_n (n := 41) dX1_copyFrom_40 rfl rfl ?_
  refine v_aload_n (n := 42) dX1_copyFrom_41 rfl rfl ?_
  refine v_getf (n := 45) dX1_copyFrom_42 rfl fl_X1_27 (zok_3 hc hj) (congrArg Value.int ((up_sl (by decide)).trans ((up_sl (by decide)).trans ((up_sl (by decide)).trans ((up_sl (by decide)).trans (up_sl (by decide))))))) ?_
  refine v_putf (n := 48) dX1_copyFrom_45 rfl fw_X1_27 (zok_3 hb hi) (fun _ => rfl) rfl rfl ?_
  refine v_aload_n (n := 49) dX1_copyFrom_48 rfl rfl ?_
  refine v_aload_n (n := 50) dX1_copyFrom_49 rfl rfl ?_
  refine v_getf (n := 53) dX1_copyFrom_50 rfl fl_X1_30 (zok_3 hc hj) (congrArg Value.int ((up_sl (by decide)).trans ((up_sl (by decide)).trans ((up_sl (by decide)).trans ((up_sl (by decide)).trans ((up_sl (by decide)).trans (up_sl (by decide)))))))) ?_
  refine v_putf (n := 56) dX1_copyFrom_53 rfl fw_X1_30 (zok_3 hb hi) (fun _ => rfl) rfl rfl ?_
  refine v_aload_n (n := 57) dX1_copyFrom_56 rfl rfl ?_
  refine v_aload_n (n := 58) dX1_copyFrom_57 rfl rfl ?_
  refine v_getf (n := 61) dX1_copyFrom_58 rfl fl_X1_37 (zok_3 hc hj) (congrArg Value.int ((up_sl (by decide)).trans ((up_sl (by decide)).trans ((up_sl (by decide)).trans ((up_sl (by decide)).trans ((up_sl (by decide)).trans ((up_sl (by decide)).trans (up_sl (by decide))))))))) ?_
  refine v_aload_n (n := 62) dX1_copyFrom_61 rfl rfl ?_
  refine v_getf (n := 65) dX1_copyFrom_62 rfl fl_X1_40 (zok_3 hc hj) (congrArg Value.int ((up_sl (by decide)).trans ((up_sl (by decide)).trans ((up_sl (by decide)).trans ((up_sl (by decide)).trans ((up_sl (by decide)).trans ((up_sl (by decide)).trans (up_sl (by decide))))))))) ?_
  refine v_aload_n (n := 66) dX1_copyFrom_65 rfl rfl ?_
  refine v_getf (n := 69) dX1_copyFrom_66 rfl fl_X1_43 (zok_3 hc hj) (congrArg Value.int ((up_sl (by decide)).trans ((up_sl (by decide)).trans ((up_sl (by decide)).trans ((up_sl (by decide)).trans ((up_sl (by decide)).trans ((up_sl (by decide)).trans (up_sl (by decide))))))))) ?_
  refine v_aload_n (n := 70) dX1_copyFrom_69 rfl rfl ?_
  refine v_getf (n := 73) dX1_copyFrom_70 rfl fl_X1_46 (zok_3 hc hj) (congrArg Value.int ((up_sl (by decide)).trans ((up_sl (by decide)).trans ((up_sl (by decide)).trans ((up_sl (by decide)).trans ((up_sl (by decide)).trans ((up_sl (by decide)).trans (up_sl (by decide))))))))) ?_
  refine v_callV (n := 76) (k := 3) (b := b) (i := i) (As := [.int (μ 3 c j 4), .int (μ 3 c j 5), .int (μ 3 c j 6), .int (μ 3 c j 7)]) (rest := []) dX1_copyFrom_73 rfl lk_X1_33 rfl rfl (Nat.le_of_ble_eq_true rfl) ⟨Nat.le_of_ble_eq_true rfl, Nat.le_of_ble_eq_true rfl, Nat.le_of_ble_eq_true rfl, Nat.le_of_ble_eq_true rfl⟩ (zok_3 hb hi) (s_X1_become G b hb i hi (μ 3 c j 4) (μ 3 c j 5) (μ 3 c j 6) (μ 3 c j 7) (up (up (up (up (up (up (up μ 3 b i 0 (μ 3 c j 0)) 3 b i 1 (μ 3 c j 1)) 3 b i 2 (μ 3 c j 2)) 3 b i 3 (μ 3 c j 3)) 3 b i 8 (μ 3 c j 8)) 3 b i 9 (μ 3 c j 9)) 3 b i 10 (μ 3 c j 10))) (fun v μ9 hp => ?_) (fun _ _ hp => False.elim hp)
  rw [hp.1, hp.2]
  refine v_norm (st' := []) (cells' := 0) (slots' := 0) rfl rfl rfl ?_
  exact v_vret dX1_copyFrom_76 rfl (Nat.le_of_ble_eq_true rfl) (Nat.le_of_ble_eq_true rfl) h

