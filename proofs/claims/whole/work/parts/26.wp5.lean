/-! wp-lemmas by program (wip/whole/wp.py) -/
set_option maxRecDepth 20000 in
set_option maxHeartbeats 4000000 in
theorem wX2_remember (G : Gl) {P : Option Value → St → Prop} {X : String → St → Prop} (b : Nat) (hb : b < 11) (μ : St)
    (h : ∃ j1 : Nat, fmd (μ 4 0 0 1) (nI 8) = nI j1 ∧ j1 < 8 ∧ Con G mX0_copyFrom [.ref (zad G.1 2 (j1 + 3) 0), .ref (zad G.1 2 b 0)] μ (fun v μ1 => v = none ∧ P none (up (up μ1 4 0 0 1 (fmd ((μ1 4 0 0 1) + (nI 1)) (nI 8))) 4 0 0 2 (imn ((μ1 4 0 0 2) + (nI 1)) (nI 8)))) noX) :
    Con G mX2_remember [.ref (zad G.1 4 0 0), .ref (zad G.1 2 b 0)] μ P X := by
  refine con_of pn_X2 rfl (Nat.le_of_ble_eq_true rfl) ?_
  show VL G mX2_remember P X 0 [(0, .ref (zad G.1 4 0 0)), (1, .ref (zad G.1 2 b 0))] [] μ
  refine v_aload_n (n := 1) dX2_remember_0 rfl rfl ?_
  refine v_getf (n := 4) dX2_remember_1 rfl fl_X2_11 zokc_4 rfl ?_
  refine v_aload_n (n := 5) dX2_remember_4 rfl rfl ?_
  refine v_getf (n := 8) dX2_remember_5 rfl fl_X2_22 zokc_4 (rfl) ?_
  refine v_bipush (n := 10) (x := nI 8) dX2_remember_8 rfl (by decide) ?_
  refine v_callS (n := 13) (As := [.int (μ 4 0 0 1), .int (nI 8)]) (rest := [.ref (zad G.1 23 0 0)]) dX2_remember_10 rfl lk_X2_25 rfl rfl (Nat.le_of_ble_eq_true rfl) ⟨Nat.le_of_ble_eq_true rfl, Nat.le_of_ble_eq_true rfl, Nat.le_of_ble_eq_true rfl, Nat.le_of_ble_eq_true rfl⟩ (s_J9_floorMod_7cf53 G (μ 4 0 0 1) (nI 8) (by decide) μ) (fun v μ9 hp => ?_) (fun _ _ hp => False.elim hp)
  rw [hp.1, hp.2]
  refine v_norm (st' := [.int (fmd (μ 4 0 0 1) (nI 8)), .ref (zad G.1 23 0 0)]) (cells' := 0) (slots' := 0) rfl rfl rfl ?_
  obtain ⟨j1, ej1, hj1, h⟩ := h
  refine v_aald (n := 14) (j := j1) dX2_remember_13 rfl zokc_23 (by decide) rfl ej1 hj1 rfl ?_
  refine v_aload_n (n := 15) dX2_remember_14 rfl rfl ?_
  refine v_callV (n := 18) (k := 2) (b := j1 + 3) (i := 0) (As := [.ref (zad G.1 2 b 0)]) (rest := []) dX2_remember_15 rfl lk_X2_31 rfl rfl (Nat.le_of_ble_eq_true rfl) ⟨Nat.le_of_ble_eq_true rfl, Nat.le_of_ble_eq_true rfl, Nat.le_of_ble_eq_true rfl, Nat.le_of_ble_eq_true rfl⟩ (zok_2 (show j1 + 3 < 11 by have := hj1; omega)) h (fun v μ1 h => ?_) (fun _ _ hp => False.elim hp)
  obtain ⟨rfl, h⟩ := h
  refine v_norm (st' := []) (cells' := 0) (slots' := 0) rfl rfl rfl ?_
  refine v_aload_n (n := 19) dX2_remember_18 rfl rfl ?_
  refine v_aload_n (n := 20) dX2_remember_19 rfl rfl ?_
  refine v_getf (n := 23) dX2_remember_20 rfl fl_X2_22 zokc_4 (rfl) ?_
  refine v_iconst (n := 24) (x := nI 1) dX2_remember_23 rfl (by decide) ?_
  refine v_iadd (n := 25) dX2_remember_24 rfl ?_
  refine v_bipush (n := 27) (x := nI 8) dX2_remember_25 rfl (by decide) ?_
  refine v_callS (n := 30) (As := [.int ((μ1 4 0 0 1) + (nI 1)), .int (nI 8)]) (rest := [.ref (zad G.1 4 0 0)]) dX2_remember_27 rfl lk_X2_25 rfl rfl (Nat.le_of_ble_eq_true rfl) ⟨Nat.le_of_ble_eq_true rfl, Nat.le_of_ble_eq_true rfl, Nat.le_of_ble_eq_true rfl, Nat.le_of_ble_eq_true rfl⟩ (s_J9_floorMod_7cf53 G ((μ1 4 0 0 1) + (nI 1)) (nI 8) (by decide) μ1) (fun v μ9 hp => ?_) (fun _ _ hp => False.elim hp)
  rw [hp.1, hp.2]
  refine v_norm (st' := [.int (fmd ((μ1 4 0 0 1) + (nI 1)) (nI 8)), .ref (zad G.1 4 0 0)]) (cells' := 0) (slots' := 0) rfl rfl rfl ?_
  refine v_putf (n := 33) dX2_remember_30 rfl fw_X2_22 zokc_4 (fun _ => rfl) rfl rfl ?_
  refine v_aload_n (n := 34) dX2_remember_33 rfl rfl ?_
  refine v_aload_n (n := 35) dX2_remember_34 rfl rfl ?_
  refine v_getf (n := 38) dX2_remember_35 rfl fl_X2_18 zokc_4 (congrArg Value.int (up_sl (by decide))) ?_
  refine v_iconst (n := 39) (x := nI 1) dX2_remember_38 rfl (by decide) ?_
  refine v_iadd (n := 40) dX2_remember_39 rfl ?_
  refine v_bipush (n := 42) (x := nI 8) dX2_remember_40 rfl (by decide) ?_
  refine v_callS (n := 45) (As := [.int ((μ1 4 0 0 2) + (nI 1)), .int (nI 8)]) (rest := [.ref (zad G.1 4 0 0)]) dX2_remember_42 rfl lk_X2_35 rfl rfl (Nat.le_of_ble_eq_true rfl) ⟨Nat.le_of_ble_eq_true rfl, Nat.le_of_ble_eq_true rfl, Nat.le_of_ble_eq_true rfl, Nat.le_of_ble_eq_true rfl⟩ (s_J9_min_7cf53 G ((μ1 4 0 0 2) + (nI 1)) (nI 8) (up μ1 4 0 0 1 (fmd ((μ1 4 0 0 1) + (nI 1)) (nI 8)))) (fun v μ9 hp => ?_) (fun _ _ hp => False.elim hp)
  rw [hp.1, hp.2]
  refine v_norm (st' := [.int (imn ((μ1 4 0 0 2) + (nI 1)) (nI 8)), .ref (zad G.1 4 0 0)]) (cells' := 0) (slots' := 0) rfl rfl rfl ?_
  refine v_putf (n := 48) dX2_remember_45 rfl fw_X2_18 zokc_4 (fun _ => rfl) rfl rfl ?_
  exact v_vret dX2_remember_48 rfl (Nat.le_of_ble_eq_true rfl) (Nat.le_of_ble_eq_true rfl) h

set_option maxRecDepth 20000 in
set_option maxHeartbeats 4000000 in
theorem wX2_takeBack (G : Gl) {P : Option Value → St → Prop} {X : String → St → Prop} (b : Nat) (hb : b < 11) (μ : St)
    (h : ((μ 4 0 0 2 ≤ 0 → P none μ) ∧ (¬ μ 4 0 0 2 ≤ 0 → ∃ j1 : Nat, fmd ((μ 4 0 0 1) - (nI 1)) (nI 8) = nI j1 ∧ j1 < 8 ∧ Con G mX0_copyFrom [.ref (zad G.1 2 b 0), .ref (zad G.1 2 (j1 + 3) 0)] (up μ 4 0 0 1 (fmd ((μ 4 0 0 1) - (nI 1)) (nI 8))) (fun v μ1 => v = none ∧ P none (up μ1 4 0 0 2 ((μ1 4 0 0 2) - (nI 1)))) noX))) :
    Con G mX2_takeBack [.ref (zad G.1 4 0 0), .ref (zad G.1 2 b 0)] μ P X := by
  refine con_of pn_X2 rfl (Nat.le_of_ble_eq_true rfl) ?_
  show VL G mX2_takeBack P X 0 [(0, .ref (zad G.1 4 0 0)), (1, .ref (zad G.1 2 b 0))] [] μ
  refine v_aload_n (n := 1) dX2_takeBack_0 rfl rfl ?_
  refine v_getf (n := 4) dX2_takeBack_1 rfl fl_X2_18 zokc_4 (rfl) ?_
  refine v_if_le (n := 7) (t := 45) dX2_takeBack_4 rfl (by decide) (fun hq => ?_) (fun hq => ?_)
  · replace h := h.1 hq
    exact v_vret dX2_takeBack_45 rfl (Nat.le_of_ble_eq_true rfl) (Nat.le_of_ble_eq_true rfl) h
  · replace h := h.2 hq
    refine v_aload_n (n := 8) dX2_takeBack_7 rfl rfl ?_
    refine v_aload_n (n := 9) dX2_takeBack_8 rfl rfl ?_
    refine v_getf (n := 12) dX2_takeBack_9 rfl fl_X2_22 zokc_4 (rfl) ?_
    refine v_iconst (n := 13) (x := nI 1) dX2_takeBack_12 rfl (by decide) ?_
    refine v_isub (n := 14) dX2_takeBack_13 rfl ?_
    refine v_bipush (n := 16) (x := nI 8) dX2_takeBack_14 rfl (by decide) ?_
    refine v_callS (n := 19) (As := [.int ((μ 4 0 0 1) - (nI 1)), .int (nI 8)]) (rest := [.ref (zad G.1 4 0 0)]) dX2_takeBack_16 rfl lk_X2_25 rfl rfl (Nat.le_of_ble_eq_true rfl) ⟨Nat.le_of_ble_eq_true rfl, Nat.le_of_ble_eq_true rfl, Nat.le_of_ble_eq_true rfl, Nat.le_of_ble_eq_true rfl⟩ (s_J9_floorMod_7cf53 G ((μ 4 0 0 1) - (nI 1)) (nI 8) (by decide) μ) (fun v μ9 hp => ?_) (fun _ _ hp => False.elim hp)
    rw [hp.1, hp.2]
    refine v_norm (st' := [.int (fmd ((μ 4 0 0 1) - (nI 1)) (nI 8)), .ref (zad G.1 4 0 0)]) (cells' := 0) (slots' := 0) rfl rfl rfl ?_
    refine v_putf (n := 22) dX2_takeBack_19 rfl fw_X2_22 zokc_4 (fun _ => rfl) rfl rfl ?_
    refine v_aload_n (n := 23) dX2_takeBack_22 rfl rfl ?_
    refine v_aload_n (n := 24) dX2_takeBack_23 rfl rfl ?_
    refine v_getf (n := 27) dX2_takeBack_24 rfl fl_X2_11 zokc_4 rfl ?_
    refine v_aload_n (n := 28) dX2_takeBack_27 rfl rfl ?_
    refine v_getf (n := 31) dX2_takeBack_28 rfl fl_X2_22 zokc_4 (congrArg Value.int (up_self _ _ _ _ _ _)) ?_
    obtain ⟨j1, ej1, hj1, h⟩ := h
    refine v_aald (n := 32) (j := j1) dX2_takeBack_31 rfl zokc_23 (by decide) rfl ej1 hj1 rfl ?_
    refine v_callV (n := 35) (k := 2) (b := b) (i := 0) (As := [.ref (zad G.1 2 (j1 + 3) 0)]) (rest := []) dX2_takeBack_32 rfl lk_X2_31 rfl rfl (Nat.le_of_ble_eq_true rfl) ⟨Nat.le_of_ble_eq_true rfl, Nat.le_of_ble_eq_true rfl, Nat.le_of_ble_eq_true rfl, Nat.le_of_ble_eq_true rfl⟩ (zok_2 hb) h (fun v μ1 h => ?_) (fun _ _ hp => False.elim hp)
    obtain ⟨rfl, h⟩ := h
    refine v_norm (st' := []) (cells' := 0) (slots' := 0) rfl rfl rfl ?_
    refine v_aload_n (n := 36) dX2_takeBack_35 rfl rfl ?_
    refine v_dup (n := 37) dX2_takeBack_36 rfl rfl ?_
    refine v_getf (n := 40) dX2_takeBack_37 rfl fl_X2_18 zokc_4 (rfl) ?_
    refine v_iconst (n := 41) (x := nI 1) dX2_takeBack_40 rfl (by decide) ?_
    refine v_isub (n := 42) dX2_takeBack_41 rfl ?_
    refine v_putf (n := 45) dX2_takeBack_42 rfl fw_X2_18 zokc_4 (fun _ => rfl) rfl rfl ?_
    exact v_vret dX2_takeBack_45 rfl (Nat.le_of_ble_eq_true rfl) (Nat.le_of_ble_eq_true rfl) h

set_option maxRecDepth 20000 in
set_option maxHeartbeats 4000000 in
theorem wX3_put (G : Gl) {P : Option Value → St → Prop} {X : String → St → Prop} (x1 : Int32) (μ : St)
    (h : ((μ 5 0 0 1 < 0 → P (some (.int (μ 5 0 0 1))) μ) ∧ (¬ μ 5 0 0 1 < 0 → ((nI 60 ≤ μ 5 0 0 1 → P (some (.int (μ 5 0 0 1))) μ) ∧ (¬ nI 60 ≤ μ 5 0 0 1 → ∃ j1 : Nat, μ 5 0 0 1 = nI j1 ∧ j1 < 60 ∧ narrow .char (.int x1) = .int x1 ∧ P (some (.int ((μ 5 0 0 1) + (nI 1)))) (up (up μ 24 0 0 j1 x1) 5 0 0 1 ((μ 5 0 0 1) + (nI 1)))))))) :
    Con G mX3_put [.ref (zad G.1 5 0 0), .int x1] μ P X := by
  refine con_of pn_X3 rfl (Nat.le_of_ble_eq_true rfl) ?_
  show VL G mX3_put P X 0 [(0, .ref (zad G.1 5 0 0)), (1, .int x1)] [] μ
  refine v_aload_n (n := 1) dX3_put_0 rfl rfl ?_
  refine v_getf (n := 4) dX3_put_1 rfl fl_X3_15 zokc_5 (rfl) ?_
  refine v_if_lt (n := 7) (t := 36) dX3_put_4 rfl (by decide) (fun hq => ?_) (fun hq => ?_)
  · replace h := h.1 hq
    refine v_aload_n (n := 37) dX3_put_36 rfl rfl ?_
    refine v_getf (n := 40) dX3_put_37 rfl fl_X3_15 zokc_5 (rfl) ?_
    exact v_iret dX3_put_40 rfl (Nat.le_of_ble_eq_true rfl) (Nat.le_of_ble_eq_true rfl) h
  · replace h := h.2 hq
    refine v_aload_n (n := 8) dX3_put_7 rfl rfl ?_
    refine v_getf (n := 11) dX3_put_8 rfl fl_X3_15 zokc_5 (rfl) ?_
    refine v_bipush (n := 13) (x := nI 60) dX3_put_11 rfl (by decide) ?_
    refine v_icmp_ge (n := 16) (t := 36) dX3_put_13 rfl (by decide) (fun hq => ?_) (fun hq => ?_)
    · replace h := h.1 hq
      refine v_aload_n (n := 37) dX3_put_36 rfl rfl ?_
      refine v_getf (n := 40) dX3_put_37 rfl fl_X3_15 zokc_5 (rfl) ?_
      exact v_iret dX3_put_40 rfl (Nat.le_of_ble_eq_true rfl) (Nat.le_of_ble_eq_true rfl) h
    · replace h := h.2 hq
      refine v_aload_n (n := 17) dX3_put_16 rfl rfl ?_
      refine v_getf (n := 20) dX3_put_17 rfl fl_X3_9 zokc_5 rfl ?_
      refine v_aload_n (n := 21) dX3_put_20 rfl rfl ?_
      refine v_getf (n := 24) dX3_put_21 rfl fl_X3_15 zokc_5 (rfl) ?_
      refine v_iload_n (n := 25) dX3_put_24 rfl rfl ?_
      obtain ⟨j1, ej1, hj1, h⟩ := h
      obtain ⟨hf1, h⟩ := h
      refine v_cast (n := 26) (j := j1) dX3_put_25 rfl zokc_24 (by decide) (by decide) rfl ej1 hj1 (fun _ => rfl) hf1 ?_
      refine v_aload_n (n := 27) dX3_put_26 rfl rfl ?_
      refine v_dup (n := 28) dX3_put_27 rfl rfl ?_
      refine v_getf (n := 31) dX3_put_28 rfl fl_X3_15 zokc_5 (congrArg Value.int (up_k (by decide))) ?_
      refine v_iconst (n := 32) (x := nI 1) dX3_put_31 rfl (by decide) ?_
      refine v_iadd (n := 33) dX3_put_32 rfl ?_
      refine v_putf (n := 36) dX3_put_33 rfl fw_X3_15 zokc_5 (fun _ => rfl) rfl rfl ?_
      refine v_aload_n (n := 37) dX3_put_36 rfl rfl ?_
      refine v_getf (n := 40) dX3_put_37 rfl fl_X3_15 zokc_5 (congrArg Value.int (up_self _ _ _ _ _ _)) ?_
      exact v_iret dX3_put_40 rfl (Nat.le_of_ble_eq_true rfl) (Nat.le_of_ble_eq_true rfl) h

set_option maxRecDepth 20000 in
set_option maxHeartbeats 4000000 in
theorem wX3_isText (G : Gl) {P : Option Value → St → Prop} {X : String → St → Prop}  (μ : St)
    (h : VL G mX3_isText P X 12 [(0, .ref (zad G.1 5 0 0)), (1, .int (nI 0))] [] (up (up μ 5 0 0 2 (nI 0)) 5 0 0 3 (nI 0))) :
    Con G mX3_isText [.ref (zad G.1 5 0 0)] μ P X := by
  refine con_of pn_X3 rfl (Nat.le_of_ble_eq_true rfl) ?_
  show VL G mX3_isText P X 0 [(0, .ref (zad G.1 5 0 0))] [] μ
  refine v_aload_n (n := 1) dX3_isText_0 rfl rfl ?_
  refine v_iconst (n := 2) (x := nI 0) dX3_isText_1 rfl (by decide) ?_
  refine v_putf (n := 5) dX3_isText_2 rfl fw_X3_19 zokc_5 (fun _ => rfl) rfl rfl ?_
  refine v_aload_n (n := 6) dX3_isText_5 rfl rfl ?_
  refine v_iconst (n := 7) (x := nI 0) dX3_isText_6 rfl (by decide) ?_
  refine v_putf (n := 10) dX3_isText_7 rfl fw_X3_22 zokc_5 (fun _ => rfl) rfl rfl ?_
  refine v_iconst (n := 11) (x := nI 0) dX3_isText_10 rfl (by decide) ?_
  refine v_istore_n (n := 12) (L' := [(0, .ref (zad G.1 5 0 0)), (1, .int (nI 0))]) dX3_isText_11 rfl (by decide) rfl ?_
  exact h

set_option maxRecDepth 20000 in
set_option maxHeartbeats 4000000 in
theorem wX3_isText_12 (G : Gl) {P : Option Value → St → Prop} {X : String → St → Prop} (i : Nat) (μ : St)
    (h : ((nI 20 ≤ nI i → P (some (.int (nI 0))) μ) ∧ (¬ nI 20 ≤ nI i → Con G mX3_takeEntry [.ref (zad G.1 5 0 0)] μ (fun v μ1 => ∃ r1 : Bool, v = some (.int (bI r1)) ∧ ((r1 = true → ((¬ μ1 5 0 0 2 = μ1 5 0 0 1 → VL G mX3_isText P X 12 [(0, .ref (zad G.1 5 0 0)), (1, .int (nI (i + 1)))] [] (up μ1 5 0 0 3 ((μ1 5 0 0 3) + (nI 1)))) ∧ (μ1 5 0 0 2 = μ1 5 0 0 1 → P (some (.int (nI 1))) (up μ1 5 0 0 3 ((μ1 5 0 0 3) + (nI 1)))))) ∧ (r1 = false → P (some (.int (nI 0))) μ1))) noX))) :
    VL G mX3_isText P X 12 [(0, .ref (zad G.1 5 0 0)), (1, .int (nI i))] [] μ := by
  refine v_iload_n (n := 13) dX3_isText_12 rfl rfl ?_
  refine v_bipush (n := 15) (x := nI 20) dX3_isText_13 rfl (by decide) ?_
  refine v_icmp_ge (n := 18) (t := 56) dX3_isText_15 rfl (by decide) (fun hq => ?_) (fun hq => ?_)
  · replace h := h.1 hq
    refine v_iconst (n := 57) (x := nI 0) dX3_isText_56 rfl (by decide) ?_
    exact v_zret dX3_isText_57 rfl (by decide) (Nat.le_of_ble_eq_true rfl) (Nat.le_of_ble_eq_true rfl) h
  · replace h := h.2 hq
    refine v_aload_n (n := 19) dX3_isText_18 rfl rfl ?_
    refine v_callV (n := 22) (k := 5) (b := 0) (i := 0) (As := []) (rest := []) dX3_isText_19 rfl lk_X3_25 rfl rfl (Nat.le_of_ble_eq_true rfl) ⟨Nat.le_of_ble_eq_true rfl, Nat.le_of_ble_eq_true rfl, Nat.le_of_ble_eq_true rfl, Nat.le_of_ble_eq_true rfl⟩ zokc_5 h (fun v μ1 h => ?_) (fun _ _ hp => False.elim hp)
    obtain ⟨r1, rfl, h⟩ := h
    refine v_norm (st' := [.int (bI r1)]) (cells' := 0) (slots' := 0) rfl rfl rfl ?_
    refine v_if_ne (n := 25) (t := 27) dX3_isText_22 rfl (by decide) (fun hq => ?_) (fun hq => ?_)
    · replace h := h.1 (bI_nf hq)
      refine v_aload_n (n := 28) dX3_isText_27 rfl rfl ?_
      refine v_dup (n := 29) dX3_isText_28 rfl rfl ?_
      refine v_getf (n := 32) dX3_isText_29 rfl fl_X3_22 zokc_5 (rfl) ?_
      refine v_iconst (n := 33) (x := nI 1) dX3_isText_32 rfl (by decide) ?_
      refine v_iadd (n := 34) dX3_isText_33 rfl ?_
      refine v_putf (n := 37) dX3_isText_34 rfl fw_X3_22 zokc_5 (fun _ => rfl) rfl rfl ?_
      refine v_aload_n (n := 38) dX3_isText_37 rfl rfl ?_
      refine v_getf (n := 41) dX3_isText_38 rfl fl_X3_19 zokc_5 (congrArg Value.int (up_sl (by decide))) ?_
      refine v_aload_n (n := 42) dX3_isText_41 rfl rfl ?_
      refine v_getf (n := 45) dX3_isText_42 rfl fl_X3_15 zokc_5 (congrArg Value.int (up_sl (by decide))) ?_
      refine v_icmp_ne (n := 48) (t := 50) dX3_isText_45 rfl (by decide) (fun hq => ?_) (fun hq => ?_)
      · replace h := h.1 hq
        refine v_iinc (n := 53) (x := nI i) (y := nI (i + 1)) (L' := [(0, .ref (zad G.1 5 0 0)), (1, .int (nI (i + 1)))]) dX3_isText_50 rfl rfl (nI_1 i) (by decide) rfl ?_
        refine v_goto (n := 12) dX3_isText_53 (by decide) ?_
        exact h
      · replace h := h.2 hq
        refine v_iconst (n := 49) (x := nI 1) dX3_isText_48 rfl (by decide) ?_
        exact v_zret dX3_isText_49 rfl (by decide) (Nat.le_of_ble_eq_true rfl) (Nat.le_of_ble_eq_true rfl) h
    · replace h := h.2 (bI_f hq)
      refine v_iconst (n := 26) (x := nI 0) dX3_isText_25 rfl (by decide) ?_
      exact v_zret dX3_isText_26 rfl (by decide) (Nat.le_of_ble_eq_true rfl) (Nat.le_of_ble_eq_true rfl) h

set_option maxRecDepth 20000 in
set_option maxHeartbeats 4000000 in
theorem wX3_takeEntry (G : Gl) {P : Option Value → St → Prop} {X : String → St → Prop}  (μ : St)
    (h : Con G mX3_isHere [.ref (zad G.1 5 0 0), .int (nI 103), .int (nI 116)] μ (fun v μ1 => ∃ r1 : Bool, v = some (.int (bI r1)) ∧ ((r1 = true → ∃ j1 : Nat, μ1 5 0 0 2 = nI j1 ∧ j1 < 60 ∧ ((μ1 24 0 0 j1 = nI 103 → Con G mX3_takeNumber [.ref (zad G.1 5 0 0), .int (nI 48), .int (nI 55)] (up (up μ1 5 0 0 4 (μ1 24 0 0 j1)) 5 0 0 2 ((μ1 5 0 0 2) + (nI 1))) (fun v μ2 => ∃ r2 : Bool, v = some (.int (bI r2)) ∧ ((r2 = false → P (some (.int (nI 0))) μ2) ∧ (r2 = true → Con G mX3_takeTarget [.ref (zad G.1 5 0 0), .int (nI 49), .int (nI 51)] μ2 (fun v μ3 => ∃ r3 : Bool, v = some (.int (bI r3)) ∧ ((r3 = false → P (some (.int (nI 0))) μ3) ∧ (r3 = true → Con G mX3_takeSign [.ref (zad G.1 5 0 0), .int (nI 59)] μ3 (fun v μ4 => ∃ r4 : Bool, v = some (.int (bI r4)) ∧ ((r4 = false → P (some (.int (nI 0))) μ4) ∧ (r4 = true → P (some (.int (nI 1))) μ4))) noX))) noX))) noX) ∧ (¬ μ1 24 0 0 j1 = nI 103 → ((μ1 24 0 0 j1 = nI 113 → Con G mX3_takeGuest [.ref (zad G.1 5 0 0)] (up (up μ1 5 0 0 4 (μ1 24 0 0 j1)) 5 0 0 2 ((μ1 5 0 0 2) + (nI 1))) (fun v μ5 => ∃ r5 : Bool, v = some (.int (bI r5)) ∧ ((r5 = false → P (some (.int (nI 0))) μ5) ∧ (r5 = true → Con G mX3_takeSign [.ref (zad G.1 5 0 0), .int (nI 45)] μ5 (fun v μ6 => ∃ r6 : Bool, v = some (.int (bI r6)) ∧ ((r6 = false → P (some (.int (nI 0))) μ6) ∧ (r6 = true → Con G mX3_takeTarget [.ref (zad G.1 5 0 0), .int (nI 48), .int (nI 53)] μ6 (fun v μ7 => ∃ r7 : Bool, v = some (.int (bI r7)) ∧ ((r7 = false → P (some (.int (nI 0))) μ7) ∧ (r7 = true → Con G mX3_takeSign [.ref (zad G.1 5 0 0), .int (nI 59)] μ7 (fun v μ8 => ∃ r8 : Bool, v = some (.int (bI r8)) ∧ ((r8 = false → P (some (.int (nI 0))) μ8) ∧ (r8 = true → P (some (.int (nI 1))) μ8))) noX))) noX))) noX))) noX) ∧ (¬ μ1 24 0 0 j1 = nI 113 → ((μ1 24 0 0 j1 = nI 115 → Con G mX3_takeGuest [.ref (zad G.1 5 0 0)] (up (up μ1 5 0 0 4 (μ1 24 0 0 j1)) 5 0 0 2 ((μ1 5 0 0 2) + (nI 1))) (fun v μ9 => ∃ r9 : Bool, v = some (.int (bI r9)) ∧ ((r9 = false → P (some (.int (nI 0))) μ9) ∧ (r9 = true → Con G mX3_takeSign [.ref (zad G.1 5 0 0), .int (nI 45)] μ9 (fun v μ10 => ∃ r10 : Bool, v = some (.int (bI r10)) ∧ ((r10 = false → P (some (.int (nI 0))) μ10) ∧ (r10 = true → Con G mX3_takeTarget [.ref (zad G.1 5 0 0), .int (nI 48), .int (nI 57)] μ10 (fun v μ11 => ∃ r11 : Bool, v = some (.int (bI r11)) ∧ ((r11 = false → P (some (.int (nI 0))) μ11) ∧ (r11 = true → Con G mX3_takeSign [.ref (zad G.1 5 0 0), .int (nI 59)] μ11 (fun v μ12 => ∃ r12 : Bool, v = some (.int (bI r12)) ∧ ((r12 = false → P (some (.int (nI 0))) μ12) ∧ (r12 = true → P (some (.int (nI 1))) μ12))) noX))) noX))) noX))) noX) ∧ (¬ μ1 24 0 0 j1 = nI 115 → ((μ1 24 0 0 j1 = nI 116 → Con G mX3_takeNumber [.ref (zad G.1 5 0 0), .int (nI 49), .int (nI 57)] (up (up μ1 5 0 0 4 (μ1 24 0 0 j1)) 5 0 0 2 ((μ1 5 0 0 2) + (nI 1))) (fun v μ13 => ∃ r13 : Bool, v = some (.int (bI r13)) ∧ ((r13 = false → P (some (.int (nI 0))) μ13) ∧ (r13 = true → Con G mX3_takeSign [.ref (zad G.1 5 0 0), .int (nI 59)] μ13 (fun v μ14 => ∃ r14 : Bool, v = some (.int (bI r14)) ∧ ((r14 = false → P (some (.int (nI 0))) μ14) ∧ (r14 = true → P (some (.int (nI 1))) μ14))) noX))) noX) ∧ (¬ μ1 24 0 0 j1 = nI 116 → ((μ1 24 0 0 j1 = nI 119 → Con G mX3_takeNumber [.ref (zad G.1 5 0 0), .int (nI 48), .int (nI 57)] (up (up μ1 5 0 0 4 (μ1 24 0 0 j1)) 5 0 0 2 ((μ1 5 0 0 2) + (nI 1))) (fun v μ15 => ∃ r15 : Bool, v = some (.int (bI r15)) ∧ ((r15 = false → P (some (.int (nI 0))) μ15) ∧ (r15 = true → Con G mX3_takeSign [.ref (zad G.1 5 0 0), .int (nI 59)] μ15 (fun v μ16 => ∃ r16 : Bool, v = some (.int (bI r16)) ∧ ((r16 = false → P (some (.int (nI 0))) μ16) ∧ (r16 = true → P (some (.int (nI 1))) μ16))) noX))) noX) ∧ (¬ μ1 24 0 0 j1 = nI 119 → P (some (.int (nI 0))) (up μ1 5 0 0 4 (μ1 24 0 0 j1))))))))))))) ∧ (r1 = false → Con G mX3_isHere [.ref (zad G.1 5 0 0), .int (nI 119), .int (nI 119)] μ1 (fun v μ17 => ∃ r17 : Bool, v = some (.int (bI r17)) ∧ ((r17 = false → ((nI 32 = nI 103 → Con G mX3_takeNumber [.ref (zad G.1 5 0 0), .int (nI 48), .int (nI 55)] (up (up μ17 5 0 0 4 (nI 32)) 5 0 0 2 ((μ17 5 0 0 2) + (nI 1))) (fun v μ18 => ∃ r18 : Bool, v = some (.int (bI r18)) ∧ ((r18 = false → P (some (.int (nI 0))) μ18) ∧ (r18 = true → Con G mX3_takeTarget [.ref (zad G.1 5 0 0), .int (nI 49), .int (nI 51)] μ18 (fun v μ19 => ∃ r19 : Bool, v = some (.int (bI r19)) ∧ ((r19 = false → P (some (.int (nI 0))) μ19) ∧ (r19 = true → Con G mX3_takeSign [.ref (zad G.1 5 0 0), .int (nI 59)] μ19 (fun v μ20 => ∃ r20 : Bool, v = some (.int (bI r20)) ∧ ((r20 = false → P (some (.int (nI 0))) μ20) ∧ (r20 = true → P (some (.int (nI 1))) μ20))) noX))) noX))) noX) ∧ (¬ nI 32 = nI 103 → ((nI 32 = nI 113 → Con G mX3_takeGuest [.ref (zad G.1 5 0 0)] (up (up μ17 5 0 0 4 (nI 32)) 5 0 0 2 ((μ17 5 0 0 2) + (nI 1))) (fun v μ21 => ∃ r21 : Bool, v = some (.int (bI r21)) ∧ ((r21 = false → P (some (.int (nI 0))) μ21) ∧ (r21 = true → Con G mX3_takeSign [.ref (zad G.1 5 0 0), .int (nI 45)] μ21 (fun v μ22 => ∃ r22 : Bool, v = some (.int (bI r22)) ∧ ((r22 = false → P (some (.int (nI 0))) μ22) ∧ (r22 = true → Con G mX3_takeTarget [.ref (zad G.1 5 0 0), .int (nI 48), .int (nI 53)] μ22 (fun v μ23 => ∃ r23 : Bool, v = some (.int (bI r23)) ∧ ((r23 = false → P (some (.int (nI 0))) μ23) ∧ (r23 = true → Con G mX3_takeSign [.ref (zad G.1 5 0 0), .int (nI 59)] μ23 (fun v μ24 => ∃ r24 : Bool, v = some (.int (bI r24)) ∧ ((r24 = false → P (some (.int (nI 0))) μ24) ∧ (r24 = true → P (some (.int (nI 1))) μ24))) noX))) noX))) noX))) noX) ∧ (¬ nI 32 = nI 113 → ((nI 32 = nI 115 → Con G mX3_takeGuest [.ref (zad G.1 5 0 0)] (up (up μ17 5 0 0 4 (nI 32)) 5 0 0 2 ((μ17 5 0 0 2) + (nI 1))) (fun v μ25 => ∃ r25 : Bool, v = some (.int (bI r25)) ∧ ((r25 = false → P (some (.int (nI 0))) μ25) ∧ (r25 = true → Con G mX3_takeSign [.ref (zad G.1 5 0 0), .int (nI 45)] μ25 (fun v μ26 => ∃ r26 : Bool, v = some (.int (bI r26)) ∧ ((r26 = false → P (some (.int (nI 0))) μ26) ∧ (r26 = true → Con G mX3_takeTarget [.ref (zad G.1 5 0 0), .int (nI 48), .int (nI 57)] μ26 (fun v μ27 => ∃ r27 : Bool, v = some (.int (bI r27)) ∧ ((r27 = false → P (some (.int (nI 0))) μ27) ∧ (r27 = true → Con G mX3_takeSign [.ref (zad G.1 5 0 0), .int (nI 59)] μ27 (fun v μ28 => ∃ r28 : Bool, v = some (.int (bI r28)) ∧ ((r28 = false → P (some (.int (nI 0))) μ28) ∧ (r28 = true → P (some (.int (nI 1))) μ28))) noX))) noX))) noX))) noX) ∧ (¬ nI 32 = nI 115 → ((nI 32 = nI 116 → Con G mX3_takeNumber [.ref (zad G.1 5 0 0), .int (nI 49), .int (nI 57)] (up (up μ17 5 0 0 4 (nI 32)) 5 0 0 2 ((μ17 5 0 0 2) + (nI 1))) (fun v μ29 => ∃ r29 : Bool, v = some (.int (bI r29)) ∧ ((r29 = false → P (some (.int (nI 0))) μ29) ∧ (r29 = true → Con G mX3_takeSign [.ref (zad G.1 5 0 0), .int (nI 59)] μ29 (fun v μ30 => ∃ r30 : Bool, v = some (.int (bI r30)) ∧ ((r30 = false → P (some (.int (nI 0))) μ30) ∧ (r30 = true → P (some (.int (nI 1))) μ30))) noX))) noX) ∧ (¬ nI 32 = nI 116 → ((nI 32 = nI 119 → Con G mX3_takeNumber [.ref (zad G.1 5 0 0), .int (nI 48), .int (nI 57)] (up (up μ17 5 0 0 4 (nI 32)) 5 0 0 2 ((μ17 5 0 0 2) + (nI 1))) (fun v μ31 => ∃ r31 : Bool, v = some (.int (bI r31)) ∧ ((r31 = false → P (some (.int (nI 0))) μ31) ∧ (r31 = true → Con G mX3_takeSign [.ref (zad G.1 5 0 0), .int (nI 59)] μ31 (fun v μ32 => ∃ r32 : Bool, v = some (.int (bI r32)) ∧ ((r32 = false → P (some (.int (nI 0))) μ32) ∧ (r32 = true → P (some (.int (nI 1))) μ32))) noX))) noX) ∧ (¬ nI 32 = nI 119 → P (some (.int (nI 0))) (up μ17 5 0 0 4 (nI 32))))))))))))) ∧ (r17 = true → ∃ j2 : Nat, μ17 5 0 0 2 = nI j2 ∧ j2 < 60 ∧ ((μ17 24 0 0 j2 = nI 103 → Con G mX3_takeNumber [.ref (zad G.1 5 0 0), .int (nI 48), .int (nI 55)] (up (up μ17 5 0 0 4 (μ17 24 0 0 j2)) 5 0 0 2 ((μ17 5 0 0 2) + (nI 1))) (fun v μ33 => ∃ r33 : Bool, v = some (.int (bI r33)) ∧ ((r33 = false → P (some (.int (nI 0))) μ33) ∧ (r33 = true → Con G mX3_takeTarget [.ref (zad G.1 5 0 0), .int (nI 49), .int (nI 51)] μ33 (fun v μ34 => ∃ r34 : Bool, v = some (.int (bI r34)) ∧ ((r34 = false → P (some (.int (nI 0))) μ34) ∧ (r34 = true → Con G mX3_takeSign [.ref (zad G.1 5 0 0), .int (nI 59)] μ34 (fun v μ35 => ∃ r35 : Bool, v = some (.int (bI r35)) ∧ ((r35 = false → P (some (.int (nI 0))) μ35) ∧ (r35 = true → P (some (.int (nI 1))) μ35))) noX))) noX))) noX) ∧ (¬ μ17 24 0 0 j2 = nI 103 → ((μ17 24 0 0 j2 = nI 113 → Con G mX3_takeGuest [.ref (zad G.1 5 0 0)] (up (up μ17 5 0 0 4 (μ17 24 0 0 j2)) 5 0 0 2 ((μ17 5 0 0 2) + (nI 1))) (fun v μ36 => ∃ r36 : Bool, v = some (.int (bI r36)) ∧ ((r36 = false → P (some (.int (nI 0))) μ36) ∧ (r36 = true → Con G mX3_takeSign [.ref (zad G.1 5 0 0), .int (nI 45)] μ36 (fun v μ37 => ∃ r37 : Bool, v = some (.int (bI r37)) ∧ ((r37 = false → P (some (.int (nI 0))) μ37) ∧ (r37 = true → Con G mX3_takeTarget [.ref (zad G.1 5 0 0), .int (nI 48), .int (nI 53)] μ37 (fun v μ38 => ∃ r38 : Bool, v = some (.int (bI r38)) ∧ ((r38 = false → P (some (.int (nI 0))) μ38) ∧ (r38 = true → Con G mX3_takeSign [.ref (zad G.1 5 0 0), .int (nI 59)] μ38 (fun v μ39 => ∃ r39 : Bool, v = some (.int (bI r39)) ∧ ((r39 = false → P (some (.int (nI 0))) μ39) ∧ (r39 = true → P (some (.int (nI 1))) μ39))) noX))) noX))) noX))) noX) ∧ (¬ μ17 24 0 0 j2 = nI 113 → ((μ17 24 0 0 j2 = nI 115 → Con G mX3_takeGuest [.ref (zad G.1 5 0 0)] (up (up μ17 5 0 0 4 (μ17 24 0 0 j2)) 5 0 0 2 ((μ17 5 0 0 2) + (nI 1))) (fun v μ40 => ∃ r40 : Bool, v = some (.int (bI r40)) ∧ ((r40 = false → P (some (.int (nI 0))) μ40) ∧ (r40 = true → Con G mX3_takeSign [.ref (zad G.1 5 0 0), .int (nI 45)] μ40 (fun v μ41 => ∃ r41 : Bool, v = some (.int (bI r41)) ∧ ((r41 = false → P (some (.int (nI 0))) μ41) ∧ (r41 = true → Con G mX3_takeTarget [.ref (zad G.1 5 0 0), .int (nI 48), .int (nI 57)] μ41 (fun v μ42 => ∃ r42 : Bool, v = some (.int (bI r42)) ∧ ((r42 = false → P (some (.int (nI 0))) μ42) ∧ (r42 = true → Con G mX3_takeSign [.ref (zad G.1 5 0 0), .int (nI 59)] μ42 (fun v μ43 => ∃ r43 : Bool, v = some (.int (bI r43)) ∧ ((r43 = false → P (some (.int (nI 0))) μ43) ∧ (r43 = true → P (some (.int (nI 1))) μ43))) noX))) noX))) noX))) noX) ∧ (¬ μ17 24 0 0 j2 = nI 115 → ((μ17 24 0 0 j2 = nI 116 → Con G mX3_takeNumber [.ref (zad G.1 5 0 0), .int (nI 49), .int (nI 57)] (up (up μ17 5 0 0 4 (μ17 24 0 0 j2)) 5 0 0 2 ((μ17 5 0 0 2) + (nI 1))) (fun v μ44 => ∃ r44 : Bool, v = some (.int (bI r44)) ∧ ((r44 = false → P (some (.int (nI 0))) μ44) ∧ (r44 = true → Con G mX3_takeSign [.ref (zad G.1 5 0 0), .int (nI 59)] μ44 (fun v μ45 => ∃ r45 : Bool, v = some (.int (bI r45)) ∧ ((r45 = false → P (some (.int (nI 0))) μ45) ∧ (r45 = true → P (some (.int (nI 1))) μ45))) noX))) noX) ∧ (¬ μ17 24 0 0 j2 = nI 116 → ((μ17 24 0 0 j2 = nI 119 → Con G mX3_takeNumber [.ref (zad G.1 5 0 0), .int (nI 48), .int (nI 57)] (up (up μ17 5 0 0 4 (μ17 24 0 0 j2)) 5 0 0 2 ((μ17 5 0 0 2) + (nI 1))) (fun v μ46 => ∃ r46 : Bool, v = some (.int (bI r46)) ∧ ((r46 = false → P (some (.int (nI 0))) μ46) ∧ (r46 = true → Con G mX3_takeSign [.ref (zad G.1 5 0 0), .int (nI 59)] μ46 (fun v μ47 => ∃ r47 : Bool, v = some (.int (bI r47)) ∧ ((r47 = false → P (some (.int (nI 0))) μ47) ∧ (r47 = true → P (some (.int (nI 1))) μ47))) noX))) noX) ∧ (¬ μ17 24 0 0 j2 = nI 119 → P (some (.int (nI 0))) (up μ17 5 0 0 4 (μ17 24 0 0 j2))))))))))))))) noX))) noX) :
    Con G mX3_takeEntry [.ref (zad G.1 5 0 0)] μ P X := by
  refine con_of pn_X3 rfl (Nat.le_of_ble_eq_true rfl) ?_
  show VL G mX3_takeEntry P X 0 [(0, .ref (zad G.1 5 0 0))] [] μ
  refine v_aload_n (n := 1) dX3_takeEntry_0 rfl rfl ?_
  refine v_aload_n (n := 2) dX3_takeEntry_1 rfl rfl ?_
  refine v_bipush (n := 4) (x := nI 103) dX3_takeEntry_2 rfl (by decide) ?_
  refine v_bipush (n := 6) (x := nI 116) dX3_takeEntry_4 rfl (by decide) ?_
  refine v_callV (n := 9) (k := 5) (b := 0) (i := 0) (As := [.int (nI 103), .int (nI 116)]) (rest := [.ref (zad G.1 5 0 0)]) dX3_takeEntry_6 rfl lk_X3_29 rfl rfl (Nat.le_of_ble_eq_true rfl) ⟨Nat.le_of_ble_eq_true rfl, Nat.le_of_ble_eq_true rfl, Nat.le_of_ble_eq_true rfl, Nat.le_of_ble_eq_true rfl⟩ zokc_5 h (fun v μ1 h => ?_) (fun _ _ hp => False.elim hp)
  obtain ⟨r1, rfl, h⟩ := h
  refine v_norm (st' := [.int (bI r1), .ref (zad G.1 5 0 0)]) (cells' := 0) (slots' := 0) rfl rfl rfl ?_
  refine v_if_ne (n := 12) (t := 23) dX3_takeEntry_9 rfl (by decide) (fun hq => ?_) (fun hq => ?_)
  · replace h := h.1 (bI_nf hq)
    refine v_aload_n (n := 24) dX3_takeEntry_23 rfl rfl ?_
    refine v_getf (n := 27) dX3_takeEntry_24 rfl fl_X3_9 zokc_5 rfl ?_
    refine v_aload_n (n := 28) dX3_takeEntry_27 rfl rfl ?_
    refine v_getf (n := 31) dX3_takeEntry_28 rfl fl_X3_19 zokc_5 (rfl) ?_
    obtain ⟨j1, ej1, hj1, h⟩ := h
    refine v_cald (n := 32) (j := j1) dX3_takeEntry_31 rfl zokc_24 (by decide) rfl ej1 hj1 (rfl) ?_
    refine v_goto (n := 37) dX3_takeEntry_32 (by decide) ?_
    refine v_putf (n := 40) dX3_takeEntry_37 rfl fw_X3_33 zokc_5 (fun _ => rfl) rfl rfl ?_
    refine v_aload_n (n := 41) dX3_takeEntry_40 rfl rfl ?_
    refine v_getf (n := 44) dX3_takeEntry_41 rfl fl_X3_33 zokc_5 (congrArg Value.int (up_self _ _ _ _ _ _)) ?_
    by_cases hs0 : μ1 24 0 0 j1 = nI 103
    · replace h := h.1 hs0
      have hx : (μ1 24 0 0 j1).toInt = 103 := by rw [hs0]; rfl
      refine v_lookup (n := 96) (off := 52) dX3_takeEntry_44 (by decide) (by rw [hx]; rfl) (by decide) ?_
      refine v_aload_n (n := 97) dX3_takeEntry_96 rfl rfl ?_
      refine v_dup (n := 98) dX3_takeEntry_97 rfl rfl ?_
      refine v_getf (n := 101) dX3_takeEntry_98 rfl fl_X3_19 zokc_5 (congrArg Value.int (up_sl (by decide))) ?_
      refine v_iconst (n := 102) (x := nI 1) dX3_takeEntry_101 rfl (by decide) ?_
      refine v_iadd (n := 103) dX3_takeEntry_102 rfl ?_
      refine v_putf (n := 106) dX3_takeEntry_103 rfl fw_X3_19 zokc_5 (fun _ => rfl) rfl rfl ?_
      refine v_aload_n (n := 107) dX3_takeEntry_106 rfl rfl ?_
      refine v_bipush (n := 109) (x := nI 48) dX3_takeEntry_107 rfl (by decide) ?_
      refine v_bipush (n := 111) (x := nI 55) dX3_takeEntry_109 rfl (by decide) ?_
      refine v_callV (n := 114) (k := 5) (b := 0) (i := 0) (As := [.int (nI 48), .int (nI 55)]) (rest := []) dX3_takeEntry_111 rfl lk_X3_36 rfl rfl (Nat.le_of_ble_eq_true rfl) ⟨Nat.le_of_ble_eq_true rfl, Nat.le_of_ble_eq_true rfl, Nat.le_of_ble_eq_true rfl, Nat.le_of_ble_eq_true rfl⟩ zokc_5 h (fun v μ2 h => ?_) (fun _ _ hp => False.elim hp)
      obtain ⟨r2, rfl, h⟩ := h
      refine v_norm (st' := [.int (bI r2)]) (cells' := 0) (slots' := 0) rfl rfl rfl ?_
      refine v_if_eq (n := 117) (t := 141) dX3_takeEntry_114 rfl (by decide) (fun hq => ?_) (fun hq => ?_)
      · replace h := h.1 (bI_f hq)
        refine v_iconst (n := 142) (x := nI 0) dX3_takeEntry_141 rfl (by decide) ?_
        exact v_zret dX3_takeEntry_142 rfl (by decide) (Nat.le_of_ble_eq_true rfl) (Nat.le_of_ble_eq_true rfl) h
      · replace h := h.2 (bI_nf hq)
        refine v_aload_n (n := 118) dX3_takeEntry_117 rfl rfl ?_
        refine v_bipush (n := 120) (x := nI 49) dX3_takeEntry_118 rfl (by decide) ?_
        refine v_bipush (n := 122) (x := nI 51) dX3_takeEntry_120 rfl (by decide) ?_
        refine v_callV (n := 125) (k := 5) (b := 0) (i := 0) (As := [.int (nI 49), .int (nI 51)]) (rest := []) dX3_takeEntry_122 rfl lk_X3_39 rfl rfl (Nat.le_of_ble_eq_true rfl) ⟨Nat.le_of_ble_eq_true rfl, Nat.le_of_ble_eq_true rfl, Nat.le_of_ble_eq_true rfl, Nat.le_of_ble_eq_true rfl⟩ zokc_5 h (fun v μ3 h => ?_) (fun _ _ hp => False.elim hp)
        obtain ⟨r3, rfl, h⟩ := h
        refine v_norm (st' := [.int (bI r3)]) (cells' := 0) (slots' := 0) rfl rfl rfl ?_
        refine v_if_eq (n := 128) (t := 141) dX3_takeEntry_125 rfl (by decide) (fun hq => ?_) (fun hq => ?_)
        · replace h := h.1 (bI_f hq)
          refine v_iconst (n := 142) (x := nI 0) dX3_takeEntry_141 rfl (by decide) ?_
          exact v_zret dX3_takeEntry_142 rfl (by decide) (Nat.le_of_ble_eq_true rfl) (Nat.le_of_ble_eq_true rfl) h
        · replace h := h.2 (bI_nf hq)
          refine v_aload_n (n := 129) dX3_takeEntry_128 rfl rfl ?_
          refine v_bipush (n := 131) (x := nI 59) dX3_takeEntry_129 rfl (by decide) ?_
          refine v_callV (n := 134) (k := 5) (b := 0) (i := 0) (As := [.int (nI 59)]) (rest := []) dX3_takeEntry_131 rfl lk_X3_42 rfl rfl (Nat.le_of_ble_eq_true rfl) ⟨Nat.le_of_ble_eq_true rfl, Nat.le_of_ble_eq_true rfl, Nat.le_of_ble_eq_true rfl, Nat.le_of_ble_eq_true rfl⟩ zokc_5 h (fun v μ4 h => ?_) (fun _ _ hp => False.elim hp)
          obtain ⟨r4, rfl, h⟩ := h
          refine v_norm (st' := [.int (bI r4)]) (cells' := 0) (slots' := 0) rfl rfl rfl ?_
          refine v_if_eq (n := 137) (t := 141) dX3_takeEntry_134 rfl (by decide) (fun hq => ?_) (fun hq => ?_)
          · replace h := h.1 (bI_f hq)
            refine v_iconst (n := 142) (x := nI 0) dX3_takeEntry_141 rfl (by decide) ?_
            exact v_zret dX3_takeEntry_142 rfl (by decide) (Nat.le_of_ble_eq_true rfl) (Nat.le_of_ble_eq_true rfl) h
          · replace h := h.2 (bI_nf hq)
            refine v_iconst (n := 138) (x := nI 1) dX3_takeEntry_137 rfl (by decide) ?_
            refine v_goto (n := 142) dX3_takeEntry_138 (by decide) ?_
            exact v_zret dX3_takeEntry_142 rfl (by decide) (Nat.le_of_ble_eq_true rfl) (Nat.le_of_ble_eq_true rfl) h
    replace h := h.2 hs0
    by_cases hs1 : μ1 24 0 0 j1 = nI 113
    · replace h := h.1 hs1
      have hx : (μ1 24 0 0 j1).toInt = 113 := by rw [hs1]; rfl
      refine v_lookup (n := 143) (off := 99) dX3_takeEntry_44 (by decide) (by rw [hx]; rfl) (by decide) ?_
      refine v_aload_n (n := 144) dX3_takeEntry_143 rfl rfl ?_
      refine v_dup (n := 145) dX3_takeEntry_144 rfl rfl ?_
      refine v_getf (n := 148) dX3_takeEntry_145 rfl fl_X3_19 zokc_5 (congrArg Value.int (up_sl (by decide))) ?_
      refine v_iconst (n := 149) (x := nI 1) dX3_takeEntry_148 rfl (by decide) ?_
      refine v_iadd (n := 150) dX3_takeEntry_149 rfl ?_
      refine v_putf (n := 153) dX3_takeEntry_150 rfl fw_X3_19 zokc_5 (fun _ => rfl) rfl rfl ?_
      refine v_aload_n (n := 154) dX3_takeEntry_153 rfl rfl ?_
      refine v_callV (n := 157) (k := 5) (b := 0) (i := 0) (As := []) (rest := []) dX3_takeEntry_154 rfl lk_X3_46 rfl rfl (Nat.le_of_ble_eq_true rfl) ⟨Nat.le_of_ble_eq_true rfl, Nat.le_of_ble_eq_true rfl, Nat.le_of_ble_eq_true rfl, Nat.le_of_ble_eq_true rfl⟩ zokc_5 h (fun v μ5 h => ?_) (fun _ _ hp => False.elim hp)
      obtain ⟨r5, rfl, h⟩ := h
      refine v_norm (st' := [.int (bI r5)]) (cells' := 0) (slots' := 0) rfl rfl rfl ?_
      refine v_if_eq (n := 160) (t := 193) dX3_takeEntry_157 rfl (by decide) (fun hq => ?_) (fun hq => ?_)
      · replace h := h.1 (bI_f hq)
        refine v_iconst (n := 194) (x := nI 0) dX3_takeEntry_193 rfl (by decide) ?_
        exact v_zret dX3_takeEntry_194 rfl (by decide) (Nat.le_of_ble_eq_true rfl) (Nat.le_of_ble_eq_true rfl) h
      · replace h := h.2 (bI_nf hq)
        refine v_aload_n (n := 161) dX3_takeEntry_160 rfl rfl ?_
        refine v_bipush (n := 163) (x := nI 45) dX3_takeEntry_161 rfl (by decide) ?_
        refine v_callV (n := 166) (k := 5) (b := 0) (i := 0) (As := [.int (nI 45)]) (rest := []) dX3_takeEntry_163 rfl lk_X3_42 rfl rfl (Nat.le_of_ble_eq_true rfl) ⟨Nat.le_of_ble_eq_true rfl, Nat.le_of_ble_eq_true rfl, Nat.le_of_ble_eq_true rfl, Nat.le_of_ble_eq_true rfl⟩ zokc_5 h (fun v μ6 h => ?_) (fun _ _ hp => False.elim hp)
        obtain ⟨r6, rfl, h⟩ := h
        refine v_norm (st' := [.int (bI r6)]) (cells' := 0) (slots' := 0) rfl rfl rfl ?_
        refine v_if_eq (n := 169) (t := 193) dX3_takeEntry_166 rfl (by decide) (fun hq => ?_) (fun hq => ?_)
        · replace h := h.1 (bI_f hq)
          refine v_iconst (n := 194) (x := nI 0) dX3_takeEntry_193 rfl (by decide) ?_
          exact v_zret dX3_takeEntry_194 rfl (by decide) (Nat.le_of_ble_eq_true rfl) (Nat.le_of_ble_eq_true rfl) h
        · replace h := h.2 (bI_nf hq)
          refine v_aload_n (n := 170) dX3_takeEntry_169 rfl rfl ?_
          refine v_bipush (n := 172) (x := nI 48) dX3_takeEntry_170 rfl (by decide) ?_
          refine v_bipush (n := 174) (x := nI 53) dX3_takeEntry_172 rfl (by decide) ?_
          refine v_callV (n := 177) (k := 5) (b := 0) (i := 0) (As := [.int (nI 48), .int (nI 53)]) (rest := []) dX3_takeEntry_174 rfl lk_X3_39 rfl rfl (Nat.le_of_ble_eq_true rfl) ⟨Nat.le_of_ble_eq_true rfl, Nat.le_of_ble_eq_true rfl, Nat.le_of_ble_eq_true rfl, Nat.le_of_ble_eq_true rfl⟩ zokc_5 h (fun v μ7 h => ?_) (fun _ _ hp => False.elim hp)
          obtain ⟨r7, rfl, h⟩ := h
          refine v_norm (st' := [.int (bI r7)]) (cells' := 0) (slots' := 0) rfl rfl rfl ?_
          refine v_if_eq (n := 180) (t := 193) dX3_takeEntry_177 rfl (by decide) (fun hq => ?_) (fun hq => ?_)
          · replace h := h.1 (bI_f hq)
            refine v_iconst (n := 194) (x := nI 0) dX3_takeEntry_193 rfl (by decide) ?_
            exact v_zret dX3_takeEntry_194 rfl (by decide) (Nat.le_of_ble_eq_true rfl) (Nat.le_of_ble_eq_true rfl) h
          · replace h := h.2 (bI_nf hq)
            refine v_aload_n (n := 181) dX3_takeEntry_180 rfl rfl ?_
            refine v_bipush (n := 183) (x := nI 59) dX3_takeEntry_181 rfl (by decide) ?_
            refine v_callV (n := 186) (k := 5) (b := 0) (i := 0) (As := [.int (nI 59)]) (rest := []) dX3_takeEntry_183 rfl lk_X3_42 rfl rfl (Nat.le_of_ble_eq_true rfl) ⟨Nat.le_of_ble_eq_true rfl, Nat.le_of_ble_eq_true rfl, Nat.le_of_ble_eq_true rfl, Nat.le_of_ble_eq_true rfl⟩ zokc_5 h (fun v μ8 h => ?_) (fun _ _ hp => False.elim hp)
            obtain ⟨r8, rfl, h⟩ := h
            refine v_norm (st' := [.int (bI r8)]) (cells' := 0) (slots' := 0) rfl rfl rfl ?_
            refine v_if_eq (n := 189) (t := 193) dX3_takeEntry_186 rfl (by decide) (fun hq => ?_) (fun hq => ?_)
            · replace h := h.1 (bI_f hq)
              refine v_iconst (n := 194) (x := nI 0) dX3_takeEntry_193 rfl (by decide) ?_
              exact v_zret dX3_takeEntry_194 rfl (by decide) (Nat.le_of_ble_eq_true rfl) (Nat.le_of_ble_eq_true rfl) h
            · replace h := h.2 (bI_nf hq)
              refine v_iconst (n := 190) (x := nI 1) dX3_takeEntry_189 rfl (by decide) ?_
              refine v_goto (n := 194) dX3_takeEntry_190 (by decide) ?_
              exact v_zret dX3_takeEntry_194 rfl (by decide) (Nat.le_of_ble_eq_true rfl) (Nat.le_of_ble_eq_true rfl) h
    replace h := h.2 hs1
    by_cases hs2 : μ1 24 0 0 j1 = nI 115
    · replace h := h.1 hs2
      have hx : (μ1 24 0 0 j1).toInt = 115 := by rw [hs2]; rfl
      refine v_lookup (n := 195) (off := 151) dX3_takeEntry_44 (by decide) (by rw [hx]; rfl) (by decide) ?_
      refine v_aload_n (n := 196) dX3_takeEntry_195 rfl rfl ?_
      refine v_dup (n := 197) dX3_takeEntry_196 rfl rfl ?_
      refine v_getf (n := 200) dX3_takeEntry_197 rfl fl_X3_19 zokc_5 (congrArg Value.int (up_sl (by decide))) ?_
      refine v_iconst (n := 201) (x := nI 1) dX3_takeEntry_200 rfl (by decide) ?_
      refine v_iadd (n := 202) dX3_takeEntry_201 rfl ?_
      refine v_putf (n := 205) dX3_takeEntry_202 rfl fw_X3_19 zokc_5 (fun _ => rfl) rfl rfl ?_
      refine v_aload_n (n := 206) dX3_takeEntry_205 rfl rfl ?_
      refine v_callV (n := 209) (k := 5) (b := 0) (i := 0) (As := []) (rest := []) dX3_takeEntry_206 rfl lk_X3_46 rfl rfl (Nat.le_of_ble_eq_true rfl) ⟨Nat.le_of_ble_eq_true rfl, Nat.le_of_ble_eq_true rfl, Nat.le_of_ble_eq_true rfl, Nat.le_of_ble_eq_true rfl⟩ zokc_5 h (fun v μ9 h => ?_) (fun _ _ hp => False.elim hp)
      obtain ⟨r9, rfl, h⟩ := h
      refine v_norm (st' := [.int (bI r9)]) (cells' := 0) (slots' := 0) rfl rfl rfl ?_
      refine v_if_eq (n := 212) (t := 245) dX3_takeEntry_209 rfl (by decide) (fun hq => ?_) (fun hq => ?_)
      · replace h := h.1 (bI_f hq)
        refine v_iconst (n := 246) (x := nI 0) dX3_takeEntry_245 rfl (by decide) ?_
        exact v_zret dX3_takeEntry_246 rfl (by decide) (Nat.le_of_ble_eq_true rfl) (Nat.le_of_ble_eq_true rfl) h
      · replace h := h.2 (bI_nf hq)
        refine v_aload_n (n := 213) dX3_takeEntry_212 rfl rfl ?_
        refine v_bipush (n := 215) (x := nI 45) dX3_takeEntry_213 rfl (by decide) ?_
        refine v_callV (n := 218) (k := 5) (b := 0) (i := 0) (As := [.int (nI 45)]) (rest := []) dX3_takeEntry_215 rfl lk_X3_42 rfl rfl (Nat.le_of_ble_eq_true rfl) ⟨Nat.le_of_ble_eq_true rfl, Nat.le_of_ble_eq_true rfl, Nat.le_of_ble_eq_true rfl, Nat.le_of_ble_eq_true rfl⟩ zokc_5 h (fun v μ10 h => ?_) (fun _ _ hp => False.elim hp)
        obtain ⟨r10, rfl, h⟩ := h
        refine v_norm (st' := [.int (bI r10)]) (cells' := 0) (slots' := 0) rfl rfl rfl ?_
        refine v_if_eq (n := 221) (t := 245) dX3_takeEntry_218 rfl (by decide) (fun hq => ?_) (fun hq => ?_)
        · replace h := h.1 (bI_f hq)
          refine v_iconst (n := 246) (x := nI 0) dX3_takeEntry_245 rfl (by decide) ?_
          exact v_zret dX3_takeEntry_246 rfl (by decide) (Nat.le_of_ble_eq_true rfl) (Nat.le_of_ble_eq_true rfl) h
        · replace h := h.2 (bI_nf hq)
          refine v_aload_n (n := 222) dX3_takeEntry_221 rfl rfl ?_
          refine v_bipush (n := 224) (x := nI 48) dX3_takeEntry_222 rfl (by decide) ?_
          refine v_bipush (n := 226) (x := nI 57) dX3_takeEntry_224 rfl (by decide) ?_
          refine v_callV (n := 229) (k := 5) (b := 0) (i := 0) (As := [.int (nI 48), .int (nI 57)]) (rest := []) dX3_takeEntry_226 rfl lk_X3_39 rfl rfl (Nat.le_of_ble_eq_true rfl) ⟨Nat.le_of_ble_eq_true rfl, Nat.le_of_ble_eq_true rfl, Nat.le_of_ble_eq_true rfl, Nat.le_of_ble_eq_true rfl⟩ zokc_5 h (fun v μ11 h => ?_) (fun _ _ hp => False.elim hp)
          obtain ⟨r11, rfl, h⟩ := h
          refine v_norm (st' := [.int (bI r11)]) (cells' := 0) (slots' := 0) rfl rfl rfl ?_
          refine v_if_eq (n := 232) (t := 245) dX3_takeEntry_229 rfl (by decide) (fun hq => ?_) (fun hq => ?_)
          · replace h := h.1 (bI_f hq)
            refine v_iconst (n := 246) (x := nI 0) dX3_takeEntry_245 rfl (by decide) ?_
            exact v_zret dX3_takeEntry_246 rfl (by decide) (Nat.le_of_ble_eq_true rfl) (Nat.le_of_ble_eq_true rfl) h
          · replace h := h.2 (bI_nf hq)
            refine v_aload_n (n := 233) dX3_takeEntry_232 rfl rfl ?_
            refine v_bipush (n := 235) (x := nI 59) dX3_takeEntry_233 rfl (by decide) ?_
            refine v_callV (n := 238) (k := 5) (b := 0) (i := 0) (As := [.int (nI 59)]) (rest := []) dX3_takeEntry_235 rfl lk_X3_42 rfl rfl (Nat.le_of_ble_eq_true rfl) ⟨Nat.le_of_ble_eq_true rfl, Nat.le_of_ble_eq_true rfl, Nat.le_of_ble_eq_true rfl, Nat.le_of_ble_eq_true rfl⟩ zokc_5 h (fun v μ12 h => ?_) (fun _ _ hp => False.elim hp)
            obtain ⟨r12, rfl, h⟩ := h
            refine v_norm (st' := [.int (bI r12)]) (cells' := 0) (slots' := 0) rfl rfl rfl ?_
            refine v_if_eq (n := 241) (t := 245) dX3_takeEntry_238 rfl (by decide) (fun hq => ?_) (fun hq => ?_)
            · replace h := h.1 (bI_f hq)
              refine v_iconst (n := 246) (x := nI 0) dX3_takeEntry_245 rfl (by decide) ?_
              exact v_zret dX3_takeEntry_246 rfl (by decide) (Nat.le_of_ble_eq_true rfl) (Nat.le_of_ble_eq_true rfl) h
            · replace h := h.2 (bI_nf hq)
              refine v_iconst (n := 242) (x := nI 1) dX3_takeEntry_241 rfl (by decide) ?_
              refine v_goto (n := 246) dX3_takeEntry_242 (by decide) ?_
              exact v_zret dX3_takeEntry_246 rfl (by decide) (Nat.le_of_ble_eq_true rfl) (Nat.le_of_ble_eq_true rfl) h
    replace h := h.2 hs2
    by_cases hs3 : μ1 24 0 0 j1 = nI 116
    · replace h := h.1 hs3
      have hx : (μ1 24 0 0 j1).toInt = 116 := by rw [hs3]; rfl
      refine v_lookup (n := 247) (off := 203) dX3_takeEntry_44 (by decide) (by rw [hx]; rfl) (by decide) ?_
      refine v_aload_n (n := 248) dX3_takeEntry_247 rfl rfl ?_
      refine v_dup (n := 249) dX3_takeEntry_248 rfl rfl ?_
      refine v_getf (n := 252) dX3_takeEntry_249 rfl fl_X3_19 zokc_5 (congrArg Value.int (up_sl (by decide))) ?_
      refine v_iconst (n := 253) (x := nI 1) dX3_takeEntry_252 rfl (by decide) ?_
      refine v_iadd (n := 254) dX3_takeEntry_253 rfl ?_
      refine v_putf (n := 257) dX3_takeEntry_254 rfl fw_X3_19 zokc_5 (fun _ => rfl) rfl rfl ?_
      refine v_aload_n (n := 258) dX3_takeEntry_257 rfl rfl ?_
      refine v_bipush (n := 260) (x := nI 49) dX3_takeEntry_258 rfl (by decide) ?_
      refine v_bipush (n := 262) (x := nI 57) dX3_takeEntry_260 rfl (by decide) ?_
      refine v_callV (n := 265) (k := 5) (b := 0) (i := 0) (As := [.int (nI 49), .int (nI 57)]) (rest := []) dX3_takeEntry_262 rfl lk_X3_36 rfl rfl (Nat.le_of_ble_eq_true rfl) ⟨Nat.le_of_ble_eq_true rfl, Nat.le_of_ble_eq_true rfl, Nat.le_of_ble_eq_true rfl, Nat.le_of_ble_eq_true rfl⟩ zokc_5 h (fun v μ13 h => ?_) (fun _ _ hp => False.elim hp)
      obtain ⟨r13, rfl, h⟩ := h
      refine v_norm (st' := [.int (bI r13)]) (cells' := 0) (slots' := 0) rfl rfl rfl ?_
      refine v_if_eq (n := 268) (t := 281) dX3_takeEntry_265 rfl (by decide) (fun hq => ?_) (fun hq => ?_)
      · replace h := h.1 (bI_f hq)
        refine v_iconst (n := 282) (x := nI 0) dX3_takeEntry_281 rfl (by decide) ?_
        exact v_zret dX3_takeEntry_282 rfl (by decide) (Nat.le_of_ble_eq_true rfl) (Nat.le_of_ble_eq_true rfl) h
      · replace h := h.2 (bI_nf hq)
        refine v_aload_n (n := 269) dX3_takeEntry_268 rfl rfl ?_
        refine v_bipush (n := 271) (x := nI 59) dX3_takeEntry_269 rfl (by decide) ?_
        refine v_callV (n := 274) (k := 5) (b := 0) (i := 0) (As := [.int (nI 59)]) (rest := []) dX3_takeEntry_271 rfl lk_X3_42 rfl rfl (Nat.le_of_ble_eq_true rfl) ⟨Nat.le_of_ble_eq_true rfl, Nat.le_of_ble_eq_true rfl, Nat.le_of_ble_eq_true rfl, Nat.le_of_ble_eq_true rfl⟩ zokc_5 h (fun v μ14 h => ?_) (fun _ _ hp => False.elim hp)
        obtain ⟨r14, rfl, h⟩ := h
        refine v_norm (st' := [.int (bI r14)]) (cells' := 0) (slots' := 0) rfl rfl rfl ?_
        refine v_if_eq (n := 277) (t := 281) dX3_takeEntry_274 rfl (by decide) (fun hq => ?_) (fun hq => ?_)
        · replace h := h.1 (bI_f hq)
          refine v_iconst (n := 282) (x := nI 0) dX3_takeEntry_281 rfl (by decide) ?_
          exact v_zret dX3_takeEntry_282 rfl (by decide) (Nat.le_of_ble_eq_true rfl) (Nat.le_of_ble_eq_true rfl) h
        · replace h := h.2 (bI_nf hq)
          refine v_iconst (n := 278) (x := nI 1) dX3_takeEntry_277 rfl (by decide) ?_
          refine v_goto (n := 282) dX3_takeEntry_278 (by decide) ?_
          exact v_zret dX3_takeEntry_282 rfl (by decide) (Nat.le_of_ble_eq_true rfl) (Nat.le_of_ble_eq_true rfl) h
    replace h := h.2 hs3
    by_cases hs4 : μ1 24 0 0 j1 = nI 119
    · replace h := h.1 hs4
      have hx : (μ1 24 0 0 j1).toInt = 119 := by rw [hs4]; rfl
      refine v_lookup (n := 283) (off := 239) dX3_takeEntry_44 (by decide) (by rw [hx]; rfl) (by decide) ?_
      refine v_aload_n (n := 284) dX3_takeEntry_283 rfl rfl ?_
      refine v_dup (n := 285) dX3_takeEntry_284 rfl rfl ?_
      refine v_getf (n := 288) dX3_takeEntry_285 rfl fl_X3_19 zokc_5 (congrArg Value.int (up_sl (by decide))) ?_
      refine v_iconst (n := 289) (x := nI 1) dX3_takeEntry_288 rfl (by decide) ?_
      refine v_iadd (n := 290) dX3_takeEntry_289 rfl ?_
      refine v_putf (n := 293) dX3_takeEntry_290 rfl fw_X3_19 zokc_5 (fun _ => rfl) rfl rfl ?_
      refine v_aload_n (n := 294) dX3_takeEntry_293 rfl rfl ?_
      refine v_bipush (n := 296) (x := nI 48) dX3_takeEntry_294 rfl (by decide) ?_
      refine v_bipush (n := 298) (x := nI 57) dX3_takeEntry_296 rfl (by decide) ?_
      refine v_callV (n := 301) (k := 5) (b := 0) (i := 0) (As := [.int (nI 48), .int (nI 57)]) (rest := []) dX3_takeEntry_298 rfl lk_X3_36 rfl rfl (Nat.le_of_ble_eq_true rfl) ⟨Nat.le_of_ble_eq_true rfl, Nat.le_of_ble_eq_true rfl, Nat.le_of_ble_eq_true rfl, Nat.le_of_ble_eq_true rfl⟩ zokc_5 h (fun v μ15 h => ?_) (fun _ _ hp => False.elim hp)
      obtain ⟨r15, rfl, h⟩ := h
      refine v_norm (st' := [.int (bI r15)]) (cells' := 0) (slots' := 0) rfl rfl rfl ?_
      refine v_if_eq (n := 304) (t := 317) dX3_takeEntry_301 rfl (by decide) (fun hq => ?_) (fun hq => ?_)
      · replace h := h.1 (bI_f hq)
        refine v_iconst (n := 318) (x := nI 0) dX3_takeEntry_317 rfl (by decide) ?_
        exact v_zret dX3_takeEntry_318 rfl (by decide) (Nat.le_of_ble_eq_true rfl) (Nat.le_of_ble_eq_true rfl) h
      · replace h := h.2 (bI_nf hq)
        refine v_aload_n (n := 305) dX3_takeEntry_304 rfl rfl ?_
        refine v_bipush (n := 307) (x := nI 59) dX3_takeEntry_305 rfl (by decide) ?_
        refine v_callV (n := 310) (k := 5) (b := 0) (i := 0) (As := [.int (nI 59)]) (rest := []) dX3_takeEntry_307 rfl lk_X3_42 rfl rfl (Nat.le_of_ble_eq_true rfl) ⟨Nat.le_of_ble_eq_true rfl, Nat.le_of_ble_eq_true rfl, Nat.le_of_ble_eq_true rfl, Nat.le_of_ble_eq_true rfl⟩ zokc_5 h (fun v μ16 h => ?_) (fun _ _ hp => False.elim hp)
        obtain ⟨r16, rfl, h⟩ := h
        refine v_norm (st' := [.int (bI r16)]) (cells' := 0) (slots' := 0) rfl rfl rfl ?_
        refine v_if_eq (n := 313) (t := 317) dX3_takeEntry_310 rfl (by decide) (fun hq => ?_) (fun hq => ?_)
        · replace h := h.1 (bI_f hq)
          refine v_iconst (n := 318) (x := nI 0) dX3_takeEntry_317 rfl (by decide) ?_
          exact v_zret dX3_takeEntry_318 rfl (by decide) (Nat.le_of_ble_eq_true rfl) (Nat.le_of_ble_eq_true rfl) h
        · replace h := h.2 (bI_nf hq)
          refine v_iconst (n := 314) (x := nI 1) dX3_takeEntry_313 rfl (by decide) ?_
          refine v_goto (n := 318) dX3_takeEntry_314 (by decide) ?_
          exact v_zret dX3_takeEntry_318 rfl (by decide) (Nat.le_of_ble_eq_true rfl) (Nat.le_of_ble_eq_true rfl) h
    replace h := h.2 hs4
    refine v_lookup (n := 319) (off := 275) dX3_takeEntry_44 (by decide) (by show Op.lookupswitch.offset [(103, 52), (113, 99), (115, 151), (116, 203), (119, 239)] 275 _ = _; rw [Op.lookupswitch.offset_cons, if_neg (fun e => lsw_ne hs0 (by decide) e.symm), Op.lookupswitch.offset_cons, if_neg (fun e => lsw_ne hs1 (by decide) e.symm), Op.lookupswitch.offset_cons, if_neg (fun e => lsw_ne hs2 (by decide) e.symm), Op.lookupswitch.offset_cons, if_neg (fun e => lsw_ne hs3 (by decide) e.symm), Op.lookupswitch.offset_cons, if_neg (fun e => lsw_ne hs4 (by decide) e.symm)]; rfl) (by decide) ?_
    refine v_iconst (n := 320) (x := nI 0) dX3_takeEntry_319 rfl (by decide) ?_
    exact v_zret dX3_takeEntry_320 rfl (by decide) (Nat.le_of_ble_eq_true rfl) (Nat.le_of_ble_eq_true rfl) h
  · replace h := h.2 (bI_f hq)
    refine v_aload_n (n := 13) dX3_takeEntry_12 rfl rfl ?_
    refine v_bipush (n := 15) (x := nI 119) dX3_takeEntry_13 rfl (by decide) ?_
    refine v_bipush (n := 17) (x := nI 119) dX3_takeEntry_15 rfl (by decide) ?_
    refine v_callV (n := 20) (k := 5) (b := 0) (i := 0) (As := [.int (nI 119), .int (nI 119)]) (rest := [.ref (zad G.1 5 0 0)]) dX3_takeEntry_17 rfl lk_X3_29 rfl rfl (Nat.le_of_ble_eq_true rfl) ⟨Nat.le_of_ble_eq_true rfl, Nat.le_of_ble_eq_true rfl, Nat.le_of_ble_eq_true rfl, Nat.le_of_ble_eq_true rfl⟩ zokc_5 h (fun v μ17 h => ?_) (fun _ _ hp => False.elim hp)
    obtain ⟨r17, rfl, h⟩ := h
    refine v_norm (st' := [.int (bI r17), .ref (zad G.1 5 0 0)]) (cells' := 0) (slots' := 0) rfl rfl rfl ?_
    refine v_if_eq (n := 23) (t := 35) dX3_takeEntry_20 rfl (by decide) (fun hq => ?_) (fun hq => ?_)
    · replace h := h.1 (bI_f hq)
      refine v_bipush (n := 37) (x := nI 32) dX3_takeEntry_35 rfl (by decide) ?_
      refine v_putf (n := 40) dX3_takeEntry_37 rfl fw_X3_33 zokc_5 (fun _ => rfl) rfl rfl ?_
      refine v_aload_n (n := 41) dX3_takeEntry_40 rfl rfl ?_
      refine v_getf (n := 44) dX3_takeEntry_41 rfl fl_X3_33 zokc_5 (congrArg Value.int (up_self _ _ _ _ _ _)) ?_
      by_cases hs0 : nI 32 = nI 103
      · replace h := h.1 hs0
        have hx : (nI 32).toInt = 103 := by rw [hs0]; rfl
        refine v_lookup (n := 96) (off := 52) dX3_takeEntry_44 (by decide) (by rw [hx]; rfl) (by decide) ?_
        refine v_aload_n (n := 97) dX3_takeEntry_96 rfl rfl ?_
        refine v_dup (n := 98) dX3_takeEntry_97 rfl rfl ?_
        refine v_getf (n := 101) dX3_takeEntry_98 rfl fl_X3_19 zokc_5 (congrArg Value.int (up_sl (by decide))) ?_
        refine v_iconst (n := 102) (x := nI 1) dX3_takeEntry_101 rfl (by decide) ?_
        refine v_iadd (n := 103) dX3_takeEntry_102 rfl ?_
        refine v_putf (n := 106) dX3_takeEntry_103 rfl fw_X3_19 zokc_5 (fun _ => rfl) rfl rfl ?_
        refine v_aload_n (n := 107) dX3_takeEntry_106 rfl rfl ?_
        refine v_bipush (n := 109) (x := nI 48) dX3_takeEntry_107 rfl (by decide) ?_
        refine v_bipush (n := 111) (x := nI 55) dX3_takeEntry_109 rfl (by decide) ?_
        refine v_callV (n := 114) (k := 5) (b := 0) (i := 0) (As := [.int (nI 48), .int (nI 55)]) (rest := []) dX3_takeEntry_111 rfl lk_X3_36 rfl rfl (Nat.le_of_ble_eq_true rfl) ⟨Nat.le_of_ble_eq_true rfl, Nat.le_of_ble_eq_true rfl, Nat.le_of_ble_eq_true rfl, Nat.le_of_ble_eq_true rfl⟩ zokc_5 h (fun v μ18 h => ?_) (fun _ _ hp => False.elim hp)
        obtain ⟨r18, rfl, h⟩ := h
        refine v_norm (st' := [.int (bI r18)]) (cells' := 0) (slots' := 0) rfl rfl rfl ?_
        refine v_if_eq (n := 117) (t := 141) dX3_takeEntry_114 rfl (by decide) (fun hq => ?_) (fun hq => ?_)
        · replace h := h.1 (bI_f hq)
          refine v_iconst (n := 142) (x := nI 0) dX3_takeEntry_141 rfl (by decide) ?_
          exact v_zret dX3_takeEntry_142 rfl (by decide) (Nat.le_of_ble_eq_true rfl) (Nat.le_of_ble_eq_true rfl) h
        · replace h := h.2 (bI_nf hq)
          refine v_aload_n (n := 118) dX3_takeEntry_117 rfl rfl ?_
          refine v_bipush (n := 120) (x := nI 49) dX3_takeEntry_118 rfl (by decide) ?_
          refine v_bipush (n := 122) (x := nI 51) dX3_takeEntry_120 rfl (by decide) ?_
          refine v_callV (n := 125) (k := 5) (b := 0) (i := 0) (As := [.int (nI 49), .int (nI 51)]) (rest := []) dX3_takeEntry_122 rfl lk_X3_39 rfl rfl (Nat.le_of_ble_eq_true rfl) ⟨Nat.le_of_ble_eq_true rfl, Nat.le_of_ble_eq_true rfl, Nat.le_of_ble_eq_true rfl, Nat.le_of_ble_eq_true rfl⟩ zokc_5 h (fun v μ19 h => ?_) (fun _ _ hp => False.elim hp)
          obtain ⟨r19, rfl, h⟩ := h
          refine v_norm (st' := [.int (bI r19)]) (cells' := 0) (slots' := 0) rfl rfl rfl ?_
          refine v_if_eq (n := 128) (t := 141) dX3_takeEntry_125 rfl (by decide) (fun hq => ?_) (fun hq => ?_)
          · replace h := h.1 (bI_f hq)
            refine v_iconst (n := 142) (x := nI 0) dX3_takeEntry_141 rfl (by decide) ?_
            exact v_zret dX3_takeEntry_142 rfl (by decide) (Nat.le_of_ble_eq_true rfl) (Nat.le_of_ble_eq_true rfl) h
          · replace h := h.2 (bI_nf hq)
            refine v_aload_n (n := 129) dX3_takeEntry_128 rfl rfl ?_
            refine v_bipush (n := 131) (x := nI 59) dX3_takeEntry_129 rfl (by decide) ?_
            refine v_callV (n := 134) (k := 5) (b := 0) (i := 0) (As := [.int (nI 59)]) (rest := []) dX3_takeEntry_131 rfl lk_X3_42 rfl rfl (Nat.le_of_ble_eq_true rfl) ⟨Nat.le_of_ble_eq_true rfl, Nat.le_of_ble_eq_true rfl, Nat.le_of_ble_eq_true rfl, Nat.le_of_ble_eq_true rfl⟩ zokc_5 h (fun v μ20 h => ?_) (fun _ _ hp => False.elim hp)
            obtain ⟨r20, rfl, h⟩ := h
            refine v_norm (st' := [.int (bI r20)]) (cells' := 0) (slots' := 0) rfl rfl rfl ?_
            refine v_if_eq (n := 137) (t := 141) dX3_takeEntry_134 rfl (by decide) (fun hq => ?_) (fun hq => ?_)
            · replace h := h.1 (bI_f hq)
              refine v_iconst (n := 142) (x := nI 0) dX3_takeEntry_141 rfl (by decide) ?_
              exact v_zret dX3_takeEntry_142 rfl (by decide) (Nat.le_of_ble_eq_true rfl) (Nat.le_of_ble_eq_true rfl) h
            · replace h := h.2 (bI_nf hq)
              refine v_iconst (n := 138) (x := nI 1) dX3_takeEntry_137 rfl (by decide) ?_
              refine v_goto (n := 142) dX3_takeEntry_138 (by decide) ?_
              exact v_zret dX3_takeEntry_142 rfl (by decide) (Nat.le_of_ble_eq_true rfl) (Nat.le_of_ble_eq_true rfl) h
      replace h := h.2 hs0
      by_cases hs1 : nI 32 = nI 113
      · replace h := h.1 hs1
        have hx : (nI 32).toInt = 113 := by rw [hs1]; rfl
        refine v_lookup (n := 143) (off := 99) dX3_takeEntry_44 (by decide) (by rw [hx]; rfl) (by decide) ?_
        refine v_aload_n (n := 144) dX3_takeEntry_143 rfl rfl ?_
        refine v_dup (n := 145) dX3_takeEntry_144 rfl rfl ?_
        refine v_getf (n := 148) dX3_takeEntry_145 rfl fl_X3_19 zokc_5 (congrArg Value.int (up_sl (by decide))) ?_
        refine v_iconst (n := 149) (x := nI 1) dX3_takeEntry_148 rfl (by decide) ?_
        refine v_iadd (n := 150) dX3_takeEntry_149 rfl ?_
        refine v_putf (n := 153) dX3_takeEntry_150 rfl fw_X3_19 zokc_5 (fun _ => rfl) rfl rfl ?_
        refine v_aload_n (n := 154) dX3_takeEntry_153 rfl rfl ?_
        refine v_callV (n := 157) (k := 5) (b := 0) (i := 0) (As := []) (rest := []) dX3_takeEntry_154 rfl lk_X3_46 rfl rfl (Nat.le_of_ble_eq_true rfl) ⟨Nat.le_of_ble_eq_true rfl, Nat.le_of_ble_eq_true rfl, Nat.le_of_ble_eq_true rfl, Nat.le_of_ble_eq_true rfl⟩ zokc_5 h (fun v μ21 h => ?_) (fun _ _ hp => False.elim hp)
        obtain ⟨r21, rfl, h⟩ := h
        refine v_norm (st' := [.int (bI r21)]) (cells' := 0) (slots' := 0) rfl rfl rfl ?_
        refine v_if_eq (n := 160) (t := 193) dX3_takeEntry_157 rfl (by decide) (fun hq => ?_) (fun hq => ?_)
        · replace h := h.1 (bI_f hq)
          refine v_iconst (n := 194) (x := nI 0) dX3_takeEntry_193 rfl (by decide) ?_
          exact v_zret dX3_takeEntry_194 rfl (by decide) (Nat.le_of_ble_eq_true rfl) (Nat.le_of_ble_eq_true rfl) h
        · replace h := h.2 (bI_nf hq)
          refine v_aload_n (n := 161) dX3_takeEntry_160 rfl rfl ?_
          refine v_bipush (n := 163) (x := nI 45) dX3_takeEntry_161 rfl (by decide) ?_
          refine v_callV (n := 166) (k := 5) (b := 0) (i := 0) (As := [.int (nI 45)]) (rest := []) dX3_takeEntry_163 rfl lk_X3_42 rfl rfl (Nat.le_of_ble_eq_true rfl) ⟨Nat.le_of_ble_eq_true rfl, Nat.le_of_ble_eq_true rfl, Nat.le_of_ble_eq_true rfl, Nat.le_of_ble_eq_true rfl⟩ zokc_5 h (fun v μ22 h => ?_) (fun _ _ hp => False.elim hp)
          obtain ⟨r22, rfl, h⟩ := h
          refine v_norm (st' := [.int (bI r22)]) (cells' := 0) (slots' := 0) rfl rfl rfl ?_
          refine v_if_eq (n := 169) (t := 193) dX3_takeEntry_166 rfl (by decide) (fun hq => ?_) (fun hq => ?_)
          · replace h := h.1 (bI_f hq)
            refine v_iconst (n := 194) (x := nI 0) dX3_takeEntry_193 rfl (by decide) ?_
            exact v_zret dX3_takeEntry_194 rfl (by decide) (Nat.le_of_ble_eq_true rfl) (Nat.le_of_ble_eq_true rfl) h
          · replace h := h.2 (bI_nf hq)
            refine v_aload_n (n := 170) dX3_takeEntry_169 rfl rfl ?_
            refine v_bipush (n := 172) (x := nI 48) dX3_takeEntry_170 rfl (by decide) ?_
            refine v_bipush (n := 174) (x := nI 53) dX3_takeEntry_172 rfl (by decide) ?_
            refine v_callV (n := 177) (k := 5) (b := 0) (i := 0) (As := [.int (nI 48), .int (nI 53)]) (rest := []) dX3_takeEntry_174 rfl lk_X3_39 rfl rfl (Nat.le_of_ble_eq_true rfl) ⟨Nat.le_of_ble_eq_true rfl, Nat.le_of_ble_eq_true rfl, Nat.le_of_ble_eq_true rfl, Nat.le_of_ble_eq_true rfl⟩ zokc_5 h (fun v μ23 h => ?_) (fun _ _ hp => False.elim hp)
            obtain ⟨r23, rfl, h⟩ := h
            refine v_norm (st' := [.int (bI r23)]) (cells' := 0) (slots' := 0) rfl rfl rfl ?_
            refine v_if_eq (n := 180) (t := 193) dX3_takeEntry_177 rfl (by decide) (fun hq => ?_) (fun hq => ?_)
            · replace h := h.1 (bI_f hq)
              refine v_iconst (n := 194) (x := nI 0) dX3_takeEntry_193 rfl (by decide) ?_
              exact v_zret dX3_takeEntry_194 rfl (by decide) (Nat.le_of_ble_eq_true rfl) (Nat.le_of_ble_eq_true rfl) h
            · replace h := h.2 (bI_nf hq)
              refine v_aload_n (n := 181) dX3_takeEntry_180 rfl rfl ?_
              refine v_bipush (n := 183) (x := nI 59) dX3_takeEntry_181 rfl (by decide) ?_
              refine v_callV (n := 186) (k := 5) (b := 0) (i := 0) (As := [.int (nI 59)]) (rest := []) dX3_takeEntry_183 rfl lk_X3_42 rfl rfl (Nat.le_of_ble_eq_true rfl) ⟨Nat.le_of_ble_eq_true rfl, Nat.le_of_ble_eq_true rfl, Nat.le_of_ble_eq_true rfl, Nat.le_of_ble_eq_true rfl⟩ zokc_5 h (fun v μ24 h => ?_) (fun _ _ hp => False.elim hp)
              obtain ⟨r24, rfl, h⟩ := h
              refine v_norm (st' := [.int (bI r24)]) (cells' := 0) (slots' := 0) rfl rfl rfl ?_
              refine v_if_eq (n := 189) (t := 193) dX3_takeEntry_186 rfl (by decide) (fun hq => ?_) (fun hq => ?_)
              · replace h := h.1 (bI_f hq)
                refine v_iconst (n := 194) (x := nI 0) dX3_takeEntry_193 rfl (by decide) ?_
                exact v_zret dX3_takeEntry_194 rfl (by decide) (Nat.le_of_ble_eq_true rfl) (Nat.le_of_ble_eq_true rfl) h
              · replace h := h.2 (bI_nf hq)
                refine v_iconst (n := 190) (x := nI 1) dX3_takeEntry_189 rfl (by decide) ?_
                refine v_goto (n := 194) dX3_takeEntry_190 (by decide) ?_
                exact v_zret dX3_takeEntry_194 rfl (by decide) (Nat.le_of_ble_eq_true rfl) (Nat.le_of_ble_eq_true rfl) h
      replace h := h.2 hs1
      by_cases hs2 : nI 32 = nI 115
      · replace h := h.1 hs2
        have hx : (nI 32).toInt = 115 := by rw [hs2]; rfl
        refine v_lookup (n := 195) (off := 151) dX3_takeEntry_44 (by decide) (by rw [hx]; rfl) (by decide) ?_
        refine v_aload_n (n := 196) dX3_takeEntry_195 rfl rfl ?_
        refine v_dup (n := 197) dX3_takeEntry_196 rfl rfl ?_
        refine v_getf (n := 200) dX3_takeEntry_197 rfl fl_X3_19 zokc_5 (congrArg Value.int (up_sl (by decide))) ?_
        refine v_iconst (n := 201) (x := nI 1) dX3_takeEntry_200 rfl (by decide) ?_
        refine v_iadd (n := 202) dX3_takeEntry_201 rfl ?_
        refine v_putf (n := 205) dX3_takeEntry_202 rfl fw_X3_19 zokc_5 (fun _ => rfl) rfl rfl ?_
        refine v_aload_n (n := 206) dX3_takeEntry_205 rfl rfl ?_
        refine v_callV (n := 209) (k := 5) (b := 0) (i := 0) (As := []) (rest := []) dX3_takeEntry_206 rfl lk_X3_46 rfl rfl (Nat.le_of_ble_eq_true rfl) ⟨Nat.le_of_ble_eq_true rfl, Nat.le_of_ble_eq_true rfl, Nat.le_of_ble_eq_true rfl, Nat.le_of_ble_eq_true rfl⟩ zokc_5 h (fun v μ25 h => ?_) (fun _ _ hp => False.elim hp)
        obtain ⟨r25, rfl, h⟩ := h
        refine v_norm (st' := [.int (bI r25)]) (cells' := 0) (slots' := 0) rfl rfl rfl ?_
        refine v_if_eq (n := 212) (t := 245) dX3_takeEntry_209 rfl (by decide) (fun hq => ?_) (fun hq => ?_)
        · replace h := h.1 (bI_f hq)
          refine v_iconst (n := 246) (x := nI 0) dX3_takeEntry_245 rfl (by decide) ?_
          exact v_zret dX3_takeEntry_246 rfl (by decide) (Nat.le_of_ble_eq_true rfl) (Nat.le_of_ble_eq_true rfl) h
        · replace h := h.2 (bI_nf hq)
          refine v_aload_n (n := 213) dX3_takeEntry_212 rfl rfl ?_
          refine v_bipush (n := 215) (x := nI 45) dX3_takeEntry_213 rfl (by decide) ?_
          refine v_callV (n := 218) (k := 5) (b := 0) (i := 0) (As := [.int (nI 45)]) (rest := []) dX3_takeEntry_215 rfl lk_X3_42 rfl rfl (Nat.le_of_ble_eq_true rfl) ⟨Nat.le_of_ble_eq_true rfl, Nat.le_of_ble_eq_true rfl, Nat.le_of_ble_eq_true rfl, Nat.le_of_ble_eq_true rfl⟩ zokc_5 h (fun v μ26 h => ?_) (fun _ _ hp => False.elim hp)
          obtain ⟨r26, rfl, h⟩ := h
          refine v_norm (st' := [.int (bI r26)]) (cells' := 0) (slots' := 0) rfl rfl rfl ?_
          refine v_if_eq (n := 221) (t := 245) dX3_takeEntry_218 rfl (by decide) (fun hq => ?_) (fun hq => ?_)
          · replace h := h.1 (bI_f hq)
            refine v_iconst (n := 246) (x := nI 0) dX3_takeEntry_245 rfl (by decide) ?_
            exact v_zret dX3_takeEntry_246 rfl (by decide) (Nat.le_of_ble_eq_true rfl) (Nat.le_of_ble_eq_true rfl) h
          · replace h := h.2 (bI_nf hq)
            refine v_aload_n (n := 222) dX3_takeEntry_221 rfl rfl ?_
            refine v_bipush (n := 224) (x := nI 48) dX3_takeEntry_222 rfl (by decide) ?_
            refine v_bipush (n := 226) (x := nI 57) dX3_takeEntry_224 rfl (by decide) ?_
            refine v_callV (n := 229) (k := 5) (b := 0) (i := 0) (As := [.int (nI 48), .int (nI 57)]) (rest := []) dX3_takeEntry_226 rfl lk_X3_39 rfl rfl (Nat.le_of_ble_eq_true rfl) ⟨Nat.le_of_ble_eq_true rfl, Nat.le_of_ble_eq_true rfl, Nat.le_of_ble_eq_true rfl, Nat.le_of_ble_eq_true rfl⟩ zokc_5 h (fun v μ27 h => ?_) (fun _ _ hp => False.elim hp)
            obtain ⟨r27, rfl, h⟩ := h
            refine v_norm (st' := [.int (bI r27)]) (cells' := 0) (slots' := 0) rfl rfl rfl ?_
            refine v_if_eq (n := 232) (t := 245) dX3_takeEntry_229 rfl (by decide) (fun hq => ?_) (fun hq => ?_)
            · replace h := h.1 (bI_f hq)
              refine v_iconst (n := 246) (x := nI 0) dX3_takeEntry_245 rfl (by decide) ?_
              exact v_zret dX3_takeEntry_246 rfl (by decide) (Nat.le_of_ble_eq_true rfl) (Nat.le_of_ble_eq_true rfl) h
            · replace h := h.2 (bI_nf hq)
              refine v_aload_n (n := 233) dX3_takeEntry_232 rfl rfl ?_
              refine v_bipush (n := 235) (x := nI 59) dX3_takeEntry_233 rfl (by decide) ?_
              refine v_callV (n := 238) (k := 5) (b := 0) (i := 0) (As := [.int (nI 59)]) (rest := []) dX3_takeEntry_235 rfl lk_X3_42 rfl rfl (Nat.le_of_ble_eq_true rfl) ⟨Nat.le_of_ble_eq_true rfl, Nat.le_of_ble_eq_true rfl, Nat.le_of_ble_eq_true rfl, Nat.le_of_ble_eq_true rfl⟩ zokc_5 h (fun v μ28 h => ?_) (fun _ _ hp => False.elim hp)
              obtain ⟨r28, rfl, h⟩ := h
              refine v_norm (st' := [.int (bI r28)]) (cells' := 0) (slots' := 0) rfl rfl rfl ?_
              refine v_if_eq (n := 241) (t := 245) dX3_takeEntry_238 rfl (by decide) (fun hq => ?_) (fun hq => ?_)
              · replace h := h.1 (bI_f hq)
                refine v_iconst (n := 246) (x := nI 0) dX3_takeEntry_245 rfl (by decide) ?_
                exact v_zret dX3_takeEntry_246 rfl (by decide) (Nat.le_of_ble_eq_true rfl) (Nat.le_of_ble_eq_true rfl) h
              · replace h := h.2 (bI_nf hq)
                refine v_iconst (n := 242) (x := nI 1) dX3_takeEntry_241 rfl (by decide) ?_
                refine v_goto (n := 246) dX3_takeEntry_242 (by decide) ?_
                exact v_zret dX3_takeEntry_246 rfl (by decide) (Nat.le_of_ble_eq_true rfl) (Nat.le_of_ble_eq_true rfl) h
      replace h := h.2 hs2
      by_cases hs3 : nI 32 = nI 116
      · replace h := h.1 hs3
        have hx : (nI 32).toInt = 116 := by rw [hs3]; rfl
        refine v_lookup (n := 247) (off := 203) dX3_takeEntry_44 (by decide) (by rw [hx]; rfl) (by decide) ?_
        refine v_aload_n (n := 248) dX3_takeEntry_247 rfl rfl ?_
        refine v_dup (n := 249) dX3_takeEntry_248 rfl rfl ?_
        refine v_getf (n := 252) dX3_takeEntry_249 rfl fl_X3_19 zokc_5 (congrArg Value.int (up_sl (by decide))) ?_
        refine v_iconst (n := 253) (x := nI 1) dX3_takeEntry_252 rfl (by decide) ?_
        refine v_iadd (n := 254) dX3_takeEntry_253 rfl ?_
        refine v_putf (n := 257) dX3_takeEntry_254 rfl fw_X3_19 zokc_5 (fun _ => rfl) rfl rfl ?_
        refine v_aload_n (n := 258) dX3_takeEntry_257 rfl rfl ?_
        refine v_bipush (n := 260) (x := nI 49) dX3_takeEntry_258 rfl (by decide) ?_
        refine v_bipush (n := 262) (x := nI 57) dX3_takeEntry_260 rfl (by decide) ?_
        refine v_callV (n := 265) (k := 5) (b := 0) (i := 0) (As := [.int (nI 49), .int (nI 57)]) (rest := []) dX3_takeEntry_262 rfl lk_X3_36 rfl rfl (Nat.le_of_ble_eq_true rfl) ⟨Nat.le_of_ble_eq_true rfl, Nat.le_of_ble_eq_true rfl, Nat.le_of_ble_eq_true rfl, Nat.le_of_ble_eq_true rfl⟩ zokc_5 h (fun v μ29 h => ?_) (fun _ _ hp => False.elim hp)
        obtain ⟨r29, rfl, h⟩ := h
        refine v_norm (st' := [.int (bI r29)]) (cells' := 0) (slots' := 0) rfl rfl rfl ?_
        refine v_if_eq (n := 268) (t := 281) dX3_takeEntry_265 rfl (by decide) (fun hq => ?_) (fun hq => ?_)
        · replace h := h.1 (bI_f hq)
          refine v_iconst (n := 282) (x := nI 0) dX3_takeEntry_281 rfl (by decide) ?_
          exact v_zret dX3_takeEntry_282 rfl (by decide) (Nat.le_of_ble_eq_true rfl) (Nat.le_of_ble_eq_true rfl) h
        · replace h := h.2 (bI_nf hq)
          refine v_aload_n (n := 269) dX3_takeEntry_268 rfl rfl ?_
          refine v_bipush (n := 271) (x := nI 59) dX3_takeEntry_269 rfl (by decide) ?_
          refine v_callV (n := 274) (k := 5) (b := 0) (i := 0) (As := [.int (nI 59)]) (rest := []) dX3_takeEntry_271 rfl lk_X3_42 rfl rfl (Nat.le_of_ble_eq_true rfl) ⟨Nat.le_of_ble_eq_true rfl, Nat.le_of_ble_eq_true rfl, Nat.le_of_ble_eq_true rfl, Nat.le_of_ble_eq_true rfl⟩ zokc_5 h (fun v μ30 h => ?_) (fun _ _ hp => False.elim hp)
          obtain ⟨r30, rfl, h⟩ := h
          refine v_norm (st' := [.int (bI r30)]) (cells' := 0) (slots' := 0) rfl rfl rfl ?_
          refine v_if_eq (n := 277) (t := 281) dX3_takeEntry_274 rfl (by decide) (fun hq => ?_) (fun hq => ?_)
          · replace h := h.1 (bI_f hq)
            refine v_iconst (n := 282) (x := nI 0) dX3_takeEntry_281 rfl (by decide) ?_
            exact v_zret dX3_takeEntry_282 rfl (by decide) (Nat.le_of_ble_eq_true rfl) (Nat.le_of_ble_eq_true rfl) h
          · replace h := h.2 (bI_nf hq)
            refine v_iconst (n := 278) (x := nI 1) dX3_takeEntry_277 rfl (by decide) ?_
            refine v_goto (n := 282) dX3_takeEntry_278 (by decide) ?_
            exact v_zret dX3_takeEntry_282 rfl (by decide) (Nat.le_of_ble_eq_true rfl) (Nat.le_of_ble_eq_true rfl) h
      replace h := h.2 hs3
      by_cases hs4 : nI 32 = nI 119
      · replace h := h.1 hs4
        have hx : (nI 32).toInt = 119 := by rw [hs4]; rfl
        refine v_lookup (n := 283) (off := 239) dX3_takeEntry_44 (by decide) (by rw [hx]; rfl) (by decide) ?_
        refine v_aload_n (n := 284) dX3_takeEntry_283 rfl rfl ?_
        refine v_dup (n := 285) dX3_takeEntry_284 rfl rfl ?_
        refine v_getf (n := 288) dX3_takeEntry_285 rfl fl_X3_19 zokc_5 (congrArg Value.int (up_sl (by decide))) ?_
        refine v_iconst (n := 289) (x := nI 1) dX3_takeEntry_288 rfl (by decide) ?_
        refine v_iadd (n := 290) dX3_takeEntry_289 rfl ?_
        refine v_putf (n := 293) dX3_takeEntry_290 rfl fw_X3_19 zokc_5 (fun _ => rfl) rfl rfl ?_
        refine v_aload_n (n := 294) dX3_takeEntry_293 rfl rfl ?_
        refine v_bipush (n := 296) (x := nI 48) dX3_takeEntry_294 rfl (by decide) ?_
        refine v_bipush (n := 298) (x := nI 57) dX3_takeEntry_296 rfl (by decide) ?_
        refine v_callV (n := 301) (k := 5) (b := 0) (i := 0) (As := [.int (nI 48), .int (nI 57)]) (rest := []) dX3_takeEntry_298 rfl lk_X3_36 rfl rfl (Nat.le_of_ble_eq_true rfl) ⟨Nat.le_of_ble_eq_true rfl, Nat.le_of_ble_eq_true rfl, Nat.le_of_ble_eq_true rfl, Nat.le_of_ble_eq_true rfl⟩ zokc_5 h (fun v μ31 h => ?_) (fun _ _ hp => False.elim hp)
        obtain ⟨r31, rfl, h⟩ := h
        refine v_norm (st' := [.int (bI r31)]) (cells' := 0) (slots' := 0) rfl rfl rfl ?_
        refine v_if_eq (n := 304) (t := 317) dX3_takeEntry_301 rfl (by decide) (fun hq => ?_) (fun hq => ?_)
        · replace h := h.1 (bI_f hq)
          refine v_iconst (n := 318) (x := nI 0) dX3_takeEntry_317 rfl (by decide) ?_
          exact v_zret dX3_takeEntry_318 rfl (by decide) (Nat.le_of_ble_eq_true rfl) (Nat.le_of_ble_eq_true rfl) h
        · replace h := h.2 (bI_nf hq)
          refine v_aload_n (n := 305) dX3_takeEntry_304 rfl rfl ?_
          refine v_bipush (n := 307) (x := nI 59) dX3_takeEntry_305 rfl (by decide) ?_
          refine v_callV (n := 310) (k := 5) (b := 0) (i := 0) (As := [.int (nI 59)]) (rest := []) dX3_takeEntry_307 rfl lk_X3_42 rfl rfl (Nat.le_of_ble_eq_true rfl) ⟨Nat.le_of_ble_eq_true rfl, Nat.le_of_ble_eq_true rfl, Nat.le_of_ble_eq_true rfl, Nat.le_of_ble_eq_true rfl⟩ zokc_5 h (fun v μ32 h => ?_) (fun _ _ hp => False.elim hp)
          obtain ⟨r32, rfl, h⟩ := h
          refine v_norm (st' := [.int (bI r32)]) (cells' := 0) (slots' := 0) rfl rfl rfl ?_
          refine v_if_eq (n := 313) (t := 317) dX3_takeEntry_310 rfl (by decide) (fun hq => ?_) (fun hq => ?_)
          · replace h := h.1 (bI_f hq)
            refine v_iconst (n := 318) (x := nI 0) dX3_takeEntry_317 rfl (by decide) ?_
            exact v_zret dX3_takeEntry_318 rfl (by decide) (Nat.le_of_ble_eq_true rfl) (Nat.le_of_ble_eq_true rfl) h
          · replace h := h.2 (bI_nf hq)
            refine v_iconst (n := 314) (x := nI 1) dX3_takeEntry_313 rfl (by decide) ?_
            refine v_goto (n := 318) dX3_takeEntry_314 (by decide) ?_
            exact v_zret dX3_takeEntry_318 rfl (by decide) (Nat.le_of_ble_eq_true rfl) (Nat.le_of_ble_eq_true rfl) h
      replace h := h.2 hs4
      refine v_lookup (n := 319) (off := 275) dX3_takeEntry_44 (by decide) (by show Op.lookupswitch.offset [(103, 52), (113, 99), (115, 151), (116, 203), (119, 239)] 275 _ = _; rw [Op.lookupswitch.offset_cons, if_neg (fun e => lsw_ne hs0 (by decide) e.symm), Op.lookupswitch.offset_cons, if_neg (fun e => lsw_ne hs1 (by decide) e.symm), Op.lookupswitch.offset_cons, if_neg (fun e => lsw_ne hs2 (by decide) e.symm), Op.lookupswitch.offset_cons, if_neg (fun e => lsw_ne hs3 (by decide) e.symm), Op.lookupswitch.offset_cons, if_neg (fun e => lsw_ne hs4 (by decide) e.symm)]; rfl) (by decide) ?_
      refine v_iconst (n := 320) (x := nI 0) dX3_takeEntry_319 rfl (by decide) ?_
      exact v_zret dX3_takeEntry_320 rfl (by decide) (Nat.le_of_ble_eq_true rfl) (Nat.le_of_ble_eq_true rfl) h
    · replace h := h.2 (bI_nf hq)
      refine v_aload_n (n := 24) dX3_takeEntry_23 rfl rfl ?_
      refine v_getf (n := 27) dX3_takeEntry_24 rfl fl_X3_9 zokc_5 rfl ?_
      refine v_aload_n (n := 28) dX3_takeEntry_27 rfl rfl ?_
      refine v_getf (n := 31) dX3_takeEntry_28 rfl fl_X3_19 zokc_5 (rfl) ?_
      obtain ⟨j2, ej2, hj2, h⟩ := h
      refine v_cald (n := 32) (j := j2) dX3_takeEntry_31 rfl zokc_24 (by decide) rfl ej2 hj2 (rfl) ?_
      refine v_goto (n := 37) dX3_takeEntry_32 (by decide) ?_
      refine v_putf (n := 40) dX3_takeEntry_37 rfl fw_X3_33 zokc_5 (fun _ => rfl) rfl rfl ?_
      refine v_aload_n (n := 41) dX3_takeEntry_40 rfl rfl ?_
      refine v_getf (n := 44) dX3_takeEntry_41 rfl fl_X3_33 zokc_5 (congrArg Value.int (up_self _ _ _ _ _ _)) ?_
      by_cases hs0 : μ17 24 0 0 j2 = nI 103
      · replace h := h.1 hs0
        have hx : (μ17 24 0 0 j2).toInt = 103 := by rw [hs0]; rfl
        refine v_lookup (n := 96) (off := 52) dX3_takeEntry_44 (by decide) (by rw [hx]; rfl) (by decide) ?_
        refine v_aload_n (n := 97) dX3_takeEntry_96 rfl rfl ?_
        refine v_dup (n := 98) dX3_takeEntry_97 rfl rfl ?_
        refine v_getf (n := 101) dX3_takeEntry_98 rfl fl_X3_19 zokc_5 (congrArg Value.int (up_sl (by decide))) ?_
        refine v_iconst (n := 102) (x := nI 1) dX3_takeEntry_101 rfl (by decide) ?_
        refine v_iadd (n := 103) dX3_takeEntry_102 rfl ?_
        refine v_putf (n := 106) dX3_takeEntry_103 rfl fw_X3_19 zokc_5 (fun _ => rfl) rfl rfl ?_
        refine v_aload_n (n := 107) dX3_takeEntry_106 rfl rfl ?_
        refine v_bipush (n := 109) (x := nI 48) dX3_takeEntry_107 rfl (by decide) ?_
        refine v_bipush (n := 111) (x := nI 55) dX3_takeEntry_109 rfl (by decide) ?_
        refine v_callV (n := 114) (k := 5) (b := 0) (i := 0) (As := [.int (nI 48), .int (nI 55)]) (rest := []) dX3_takeEntry_111 rfl lk_X3_36 rfl rfl (Nat.le_of_ble_eq_true rfl) ⟨Nat.le_of_ble_eq_true rfl, Nat.le_of_ble_eq_true rfl, Nat.le_of_ble_eq_true rfl, Nat.le_of_ble_eq_true rfl⟩ zokc_5 h (fun v μ33 h => ?_) (fun _ _ hp => False.elim hp)
        obtain ⟨r33, rfl, h⟩ := h
        refine v_norm (st' := [.int (bI r33)]) (cells' := 0) (slots' := 0) rfl rfl rfl ?_
        refine v_if_eq (n := 117) (t := 141) dX3_takeEntry_114 rfl (by decide) (fun hq => ?_) (fun hq => ?_)
        · replace h := h.1 (bI_f hq)
          refine v_iconst (n := 142) (x := nI 0) dX3_takeEntry_141 rfl (by decide) ?_
          exact v_zret dX3_takeEntry_142 rfl (by decide) (Nat.le_of_ble_eq_true rfl) (Nat.le_of_ble_eq_true rfl) h
        · replace h := h.2 (bI_nf hq)
          refine v_aload_n (n := 118) dX3_takeEntry_117 rfl rfl ?_
          refine v_bipush (n := 120) (x := nI 49) dX3_takeEntry_118 rfl (by decide) ?_
          refine v_bipush (n := 122) (x := nI 51) dX3_takeEntry_120 rfl (by decide) ?_
          refine v_callV (n := 125) (k := 5) (b := 0) (i := 0) (As := [.int (nI 49), .int (nI 51)]) (rest := []) dX3_takeEntry_122 rfl lk_X3_39 rfl rfl (Nat.le_of_ble_eq_true rfl) ⟨Nat.le_of_ble_eq_true rfl, Nat.le_of_ble_eq_true rfl, Nat.le_of_ble_eq_true rfl, Nat.le_of_ble_eq_true rfl⟩ zokc_5 h (fun v μ34 h => ?_) (fun _ _ hp => False.elim hp)
          obtain ⟨r34, rfl, h⟩ := h
          refine v_norm (st' := [.int (bI r34)]) (cells' := 0) (slots' := 0) rfl rfl rfl ?_
          refine v_if_eq (n := 128) (t := 141) dX3_takeEntry_125 rfl (by decide) (fun hq => ?_) (fun hq => ?_)
          · replace h := h.1 (bI_f hq)
            refine v_iconst (n := 142) (x := nI 0) dX3_takeEntry_141 rfl (by decide) ?_
            exact v_zret dX3_takeEntry_142 rfl (by decide) (Nat.le_of_ble_eq_true rfl) (Nat.le_of_ble_eq_true rfl) h
          · replace h := h.2 (bI_nf hq)
            refine v_aload_n (n := 129) dX3_takeEntry_128 rfl rfl ?_
            refine v_bipush (n := 131) (x := nI 59) dX3_takeEntry_129 rfl (by decide) ?_
            refine v_callV (n := 134) (k := 5) (b := 0) (i := 0) (As := [.int (nI 59)]) (rest := []) dX3_takeEntry_131 rfl lk_X3_42 rfl rfl (Nat.le_of_ble_eq_true rfl) ⟨Nat.le_of_ble_eq_true rfl, Nat.le_of_ble_eq_true rfl, Nat.le_of_ble_eq_true rfl, Nat.le_of_ble_eq_true rfl⟩ zokc_5 h (fun v μ35 h => ?_) (fun _ _ hp => False.elim hp)
            obtain ⟨r35, rfl, h⟩ := h
            refine v_norm (st' := [.int (bI r35)]) (cells' := 0) (slots' := 0) rfl rfl rfl ?_
            refine v_if_eq (n := 137) (t := 141) dX3_takeEntry_134 rfl (by decide) (fun hq => ?_) (fun hq => ?_)
            · replace h := h.1 (bI_f hq)
              refine v_iconst (n := 142) (x := nI 0) dX3_takeEntry_141 rfl (by decide) ?_
              exact v_zret dX3_takeEntry_142 rfl (by decide) (Nat.le_of_ble_eq_true rfl) (Nat.le_of_ble_eq_true rfl) h
            · replace h := h.2 (bI_nf hq)
              refine v_iconst (n := 138) (x := nI 1) dX3_takeEntry_137 rfl (by decide) ?_
              refine v_goto (n := 142) dX3_takeEntry_138 (by decide) ?_
              exact v_zret dX3_takeEntry_142 rfl (by decide) (Nat.le_of_ble_eq_true rfl) (Nat.le_of_ble_eq_true rfl) h
      replace h := h.2 hs0
      by_cases hs1 : μ17 24 0 0 j2 = nI 113
      · replace h := h.1 hs1
        have hx : (μ17 24 0 0 j2).toInt = 113 := by rw [hs1]; rfl
        refine v_lookup (n := 143) (off := 99) dX3_takeEntry_44 (by decide) (by rw [hx]; rfl) (by decide) ?_
        refine v_aload_n (n := 144) dX3_takeEntry_143 rfl rfl ?_
        refine v_dup (n := 145) dX3_takeEntry_144 rfl rfl ?_
        refine v_getf (n := 148) dX3_takeEntry_145 rfl fl_X3_19 zokc_5 (congrArg Value.int (up_sl (by decide))) ?_
        refine v_iconst (n := 149) (x := nI 1) dX3_takeEntry_148 rfl (by decide) ?_
        refine v_iadd (n := 150) dX3_takeEntry_149 rfl ?_
        refine v_putf (n := 153) dX3_takeEntry_150 rfl fw_X3_19 zokc_5 (fun _ => rfl) rfl rfl ?_
        refine v_aload_n (n := 154) dX3_takeEntry_153 rfl rfl ?_
        refine v_callV (n := 157) (k := 5) (b := 0) (i := 0) (As := []) (rest := []) dX3_takeEntry_154 rfl lk_X3_46 rfl rfl (Nat.le_of_ble_eq_true rfl) ⟨Nat.le_of_ble_eq_true rfl, Nat.le_of_ble_eq_true rfl, Nat.le_of_ble_eq_true rfl, Nat.le_of_ble_eq_true rfl⟩ zokc_5 h (fun v μ36 h => ?_) (fun _ _ hp => False.elim hp)
        obtain ⟨r36, rfl, h⟩ := h
        refine v_norm (st' := [.int (bI r36)]) (cells' := 0) (slots' := 0) rfl rfl rfl ?_
        refine v_if_eq (n := 160) (t := 193) dX3_takeEntry_157 rfl (by decide) (fun hq => ?_) (fun hq => ?_)
        · replace h := h.1 (bI_f hq)
          refine v_iconst (n := 194) (x := nI 0) dX3_takeEntry_193 rfl (by decide) ?_
          exact v_zret dX3_takeEntry_194 rfl (by decide) (Nat.le_of_ble_eq_true rfl) (Nat.le_of_ble_eq_true rfl) h
        · replace h := h.2 (bI_nf hq)
          refine v_aload_n (n := 161) dX3_takeEntry_160 rfl rfl ?_
          refine v_bipush (n := 163) (x := nI 45) dX3_takeEntry_161 rfl (by decide) ?_
          refine v_callV (n := 166) (k := 5) (b := 0) (i := 0) (As := [.int (nI 45)]) (rest := []) dX3_takeEntry_163 rfl lk_X3_42 rfl rfl (Nat.le_of_ble_eq_true rfl) ⟨Nat.le_of_ble_eq_true rfl, Nat.le_of_ble_eq_true rfl, Nat.le_of_ble_eq_true rfl, Nat.le_of_ble_eq_true rfl⟩ zokc_5 h (fun v μ37 h => ?_) (fun _ _ hp => False.elim hp)
          obtain ⟨r37, rfl, h⟩ := h
          refine v_norm (st' := [.int (bI r37)]) (cells' := 0) (slots' := 0) rfl rfl rfl ?_
          refine v_if_eq (n := 169) (t := 193) dX3_takeEntry_166 rfl (by decide) (fun hq => ?_) (fun hq => ?_)
          · replace h := h.1 (bI_f hq)
            refine v_iconst (n := 194) (x := nI 0) dX3_takeEntry_193 rfl (by decide) ?_
            exact v_zret dX3_takeEntry_194 rfl (by decide) (Nat.le_of_ble_eq_true rfl) (Nat.le_of_ble_eq_true rfl) h
          · replace h := h.2 (bI_nf hq)
            refine v_aload_n (n := 170) dX3_takeEntry_169 rfl rfl ?_
            refine v_bipush (n := 172) (x := nI 48) dX3_takeEntry_170 rfl (by decide) ?_
            refine v_bipush (n := 174) (x := nI 53) dX3_takeEntry_172 rfl (by decide) ?_
            refine v_callV (n := 177) (k := 5) (b := 0) (i := 0) (As := [.int (nI 48), .int (nI 53)]) (rest := []) dX3_takeEntry_174 rfl lk_X3_39 rfl rfl (Nat.le_of_ble_eq_true rfl) ⟨Nat.le_of_ble_eq_true rfl, Nat.le_of_ble_eq_true rfl, Nat.le_of_ble_eq_true rfl, Nat.le_of_ble_eq_true rfl⟩ zokc_5 h (fun v μ38 h => ?_) (fun _ _ hp => False.elim hp)
            obtain ⟨r38, rfl, h⟩ := h
            refine v_norm (st' := [.int (bI r38)]) (cells' := 0) (slots' := 0) rfl rfl rfl ?_
            refine v_if_eq (n := 180) (t := 193) dX3_takeEntry_177 rfl (by decide) (fun hq => ?_) (fun hq => ?_)
            · replace h := h.1 (bI_f hq)
              refine v_iconst (n := 194) (x := nI 0) dX3_takeEntry_193 rfl (by decide) ?_
              exact v_zret dX3_takeEntry_194 rfl (by decide) (Nat.le_of_ble_eq_true rfl) (Nat.le_of_ble_eq_true rfl) h
            · replace h := h.2 (bI_nf hq)
              refine v_aload_n (n := 181) dX3_takeEntry_180 rfl rfl ?_
              refine v_bipush (n := 183) (x := nI 59) dX3_takeEntry_181 rfl (by decide) ?_
              refine v_callV (n := 186) (k := 5) (b := 0) (i := 0) (As := [.int (nI 59)]) (rest := []) dX3_takeEntry_183 rfl lk_X3_42 rfl rfl (Nat.le_of_ble_eq_true rfl) ⟨Nat.le_of_ble_eq_true rfl, Nat.le_of_ble_eq_true rfl, Nat.le_of_ble_eq_true rfl, Nat.le_of_ble_eq_true rfl⟩ zokc_5 h (fun v μ39 h => ?_) (fun _ _ hp => False.elim hp)
              obtain ⟨r39, rfl, h⟩ := h
              refine v_norm (st' := [.int (bI r39)]) (cells' := 0) (slots' := 0) rfl rfl rfl ?_
              refine v_if_eq (n := 189) (t := 193) dX3_takeEntry_186 rfl (by decide) (fun hq => ?_) (fun hq => ?_)
              · replace h := h.1 (bI_f hq)
                refine v_iconst (n := 194) (x := nI 0) dX3_takeEntry_193 rfl (by decide) ?_
                exact v_zret dX3_takeEntry_194 rfl (by decide) (Nat.le_of_ble_eq_true rfl) (Nat.le_of_ble_eq_true rfl) h
              · replace h := h.2 (bI_nf hq)
                refine v_iconst (n := 190) (x := nI 1) dX3_takeEntry_189 rfl (by decide) ?_
                refine v_goto (n := 194) dX3_takeEntry_190 (by decide) ?_
                exact v_zret dX3_takeEntry_194 rfl (by decide) (Nat.le_of_ble_eq_true rfl) (Nat.le_of_ble_eq_true rfl) h
      replace h := h.2 hs1
      by_cases hs2 : μ17 24 0 0 j2 = nI 115
      · replace h := h.1 hs2
        have hx : (μ17 24 0 0 j2).toInt = 115 := by rw [hs2]; rfl
        refine v_lookup (n := 195) (off := 151) dX3_takeEntry_44 (by decide) (by rw [hx]; rfl) (by decide) ?_
        refine v_aload_n (n := 196) dX3_takeEntry_195 rfl rfl ?_
        refine v_dup (n := 197) dX3_takeEntry_196 rfl rfl ?_
        refine v_getf (n := 200) dX3_takeEntry_197 rfl fl_X3_19 zokc_5 (congrArg Value.int (up_sl (by decide))) ?_
        refine v_iconst (n := 201) (x := nI 1) dX3_takeEntry_200 rfl (by decide) ?_
        refine v_iadd (n := 202) dX3_takeEntry_201 rfl ?_
        refine v_putf (n := 205) dX3_takeEntry_202 rfl fw_X3_19 zokc_5 (fun _ => rfl) rfl rfl ?_
        refine v_aload_n (n := 206) dX3_takeEntry_205 rfl rfl ?_
        refine v_callV (n := 209) (k := 5) (b := 0) (i := 0) (As := []) (rest := []) dX3_takeEntry_206 rfl lk_X3_46 rfl rfl (Nat.le_of_ble_eq_true rfl) ⟨Nat.le_of_ble_eq_true rfl, Nat.le_of_ble_eq_true rfl, Nat.le_of_ble_eq_true rfl, Nat.le_of_ble_eq_true rfl⟩ zokc_5 h (fun v μ40 h => ?_) (fun _ _ hp => False.elim hp)
        obtain ⟨r40, rfl, h⟩ := h
        refine v_norm (st' := [.int (bI r40)]) (cells' := 0) (slots' := 0) rfl rfl rfl ?_
        refine v_if_eq (n := 212) (t := 245) dX3_takeEntry_209 rfl (by decide) (fun hq => ?_) (fun hq => ?_)
        · replace h := h.1 (bI_f hq)
          refine v_iconst (n := 246) (x := nI 0) dX3_takeEntry_245 rfl (by decide) ?_
          exact v_zret dX3_takeEntry_246 rfl (by decide) (Nat.le_of_ble_eq_true rfl) (Nat.le_of_ble_eq_true rfl) h
        · replace h := h.2 (bI_nf hq)
          refine v_aload_n (n := 213) dX3_takeEntry_212 rfl rfl ?_
          refine v_bipush (n := 215) (x := nI 45) dX3_takeEntry_213 rfl (by decide) ?_
          refine v_callV (n := 218) (k := 5) (b := 0) (i := 0) (As := [.int (nI 45)]) (rest := []) dX3_takeEntry_215 rfl lk_X3_42 rfl rfl (Nat.le_of_ble_eq_true rfl) ⟨Nat.le_of_ble_eq_true rfl, Nat.le_of_ble_eq_true rfl, Nat.le_of_ble_eq_true rfl, Nat.le_of_ble_eq_true rfl⟩ zokc_5 h (fun v μ41 h => ?_) (fun _ _ hp => False.elim hp)
          obtain ⟨r41, rfl, h⟩ := h
          refine v_norm (st' := [.int (bI r41)]) (cells' := 0) (slots' := 0) rfl rfl rfl ?_
          refine v_if_eq (n := 221) (t := 245) dX3_takeEntry_218 rfl (by decide) (fun hq => ?_) (fun hq => ?_)
          · replace h := h.1 (bI_f hq)
            refine v_iconst (n := 246) (x := nI 0) dX3_takeEntry_245 rfl (by decide) ?_
            exact v_zret dX3_takeEntry_246 rfl (by decide) (Nat.le_of_ble_eq_true rfl) (Nat.le_of_ble_eq_true rfl) h
          · replace h := h.2 (bI_nf hq)
            refine v_aload_n (n := 222) dX3_takeEntry_221 rfl rfl ?_
            refine v_bipush (n := 224) (x := nI 48) dX3_takeEntry_222 rfl (by decide) ?_
            refine v_bipush (n := 226) (x := nI 57) dX3_takeEntry_224 rfl (by decide) ?_
            refine v_callV (n := 229) (k := 5) (b := 0) (i := 0) (As := [.int (nI 48), .int (nI 57)]) (rest := []) dX3_takeEntry_226 rfl lk_X3_39 rfl rfl (Nat.le_of_ble_eq_true rfl) ⟨Nat.le_of_ble_eq_true rfl, Nat.le_of_ble_eq_true rfl, Nat.le_of_ble_eq_true rfl, Nat.le_of_ble_eq_true rfl⟩ zokc_5 h (fun v μ42 h => ?_) (fun _ _ hp => False.elim hp)
            obtain ⟨r42, rfl, h⟩ := h
            refine v_norm (st' := [.int (bI r42)]) (cells' := 0) (slots' := 0) rfl rfl rfl ?_
            refine v_if_eq (n := 232) (t := 245) dX3_takeEntry_229 rfl (by decide) (fun hq => ?_) (fun hq => ?_)
            · replace h := h.1 (bI_f hq)
              refine v_iconst (n := 246) (x := nI 0) dX3_takeEntry_245 rfl (by decide) ?_
              exact v_zret dX3_takeEntry_246 rfl (by decide) (Nat.le_of_ble_eq_true rfl) (Nat.le_of_ble_eq_true rfl) h
            · replace h := h.2 (bI_nf hq)
              refine v_aload_n (n := 233) dX3_takeEntry_232 rfl rfl ?_
              refine v_bipush (n := 235) (x := nI 59) dX3_takeEntry_233 rfl (by decide) ?_
              refine v_callV (n := 238) (k := 5) (b := 0) (i := 0) (As := [.int (nI 59)]) (rest := []) dX3_takeEntry_235 rfl lk_X3_42 rfl rfl (Nat.le_of_ble_eq_true rfl) ⟨Nat.le_of_ble_eq_true rfl, Nat.le_of_ble_eq_true rfl, Nat.le_of_ble_eq_true rfl, Nat.le_of_ble_eq_true rfl⟩ zokc_5 h (fun v μ43 h => ?_) (fun _ _ hp => False.elim hp)
              obtain ⟨r43, rfl, h⟩ := h
              refine v_norm (st' := [.int (bI r43)]) (cells' := 0) (slots' := 0) rfl rfl rfl ?_
              refine v_if_eq (n := 241) (t := 245) dX3_takeEntry_238 rfl (by decide) (fun hq => ?_) (fun hq => ?_)
              · replace h := h.1 (bI_f hq)
                refine v_iconst (n := 246) (x := nI 0) dX3_takeEntry_245 rfl (by decide) ?_
                exact v_zret dX3_takeEntry_246 rfl (by decide) (Nat.le_of_ble_eq_true rfl) (Nat.le_of_ble_eq_true rfl) h
              · replace h := h.2 (bI_nf hq)
                refine v_iconst (n := 242) (x := nI 1) dX3_takeEntry_241 rfl (by decide) ?_
                refine v_goto (n := 246) dX3_takeEntry_242 (by decide) ?_
                exact v_zret dX3_takeEntry_246 rfl (by decide) (Nat.le_of_ble_eq_true rfl) (Nat.le_of_ble_eq_true rfl) h
      replace h := h.2 hs2
      by_cases hs3 : μ17 24 0 0 j2 = nI 116
      · replace h := h.1 hs3
        have hx : (μ17 24 0 0 j2).toInt = 116 := by rw [hs3]; rfl
        refine v_lookup (n := 247) (off := 203) dX3_takeEntry_44 (by decide) (by rw [hx]; rfl) (by decide) ?_
        refine v_aload_n (n := 248) dX3_takeEntry_247 rfl rfl ?_
        refine v_dup (n := 249) dX3_takeEntry_248 rfl rfl ?_
        refine v_getf (n := 252) dX3_takeEntry_249 rfl fl_X3_19 zokc_5 (congrArg Value.int (up_sl (by decide))) ?_
        refine v_iconst (n := 253) (x := nI 1) dX3_takeEntry_252 rfl (by decide) ?_
        refine v_iadd (n := 254) dX3_takeEntry_253 rfl ?_
        refine v_putf (n := 257) dX3_takeEntry_254 rfl fw_X3_19 zokc_5 (fun _ => rfl) rfl rfl ?_
        refine v_aload_n (n := 258) dX3_takeEntry_257 rfl rfl ?_
        refine v_bipush (n := 260) (x := nI 49) dX3_takeEntry_258 rfl (by decide) ?_
        refine v_bipush (n := 262) (x := nI 57) dX3_takeEntry_260 rfl (by decide) ?_
        refine v_callV (n := 265) (k := 5) (b := 0) (i := 0) (As := [.int (nI 49), .int (nI 57)]) (rest := []) dX3_takeEntry_262 rfl lk_X3_36 rfl rfl (Nat.le_of_ble_eq_true rfl) ⟨Nat.le_of_ble_eq_true rfl, Nat.le_of_ble_eq_true rfl, Nat.le_of_ble_eq_true rfl, Nat.le_of_ble_eq_true rfl⟩ zokc_5 h (fun v μ44 h => ?_) (fun _ _ hp => False.elim hp)
        obtain ⟨r44, rfl, h⟩ := h
        refine v_norm (st' := [.int (bI r44)]) (cells' := 0) (slots' := 0) rfl rfl rfl ?_
        refine v_if_eq (n := 268) (t := 281) dX3_takeEntry_265 rfl (by decide) (fun hq => ?_) (fun hq => ?_)
        · replace h := h.1 (bI_f hq)
          refine v_iconst (n := 282) (x := nI 0) dX3_takeEntry_281 rfl (by decide) ?_
          exact v_zret dX3_takeEntry_282 rfl (by decide) (Nat.le_of_ble_eq_true rfl) (Nat.le_of_ble_eq_true rfl) h
        · replace h := h.2 (bI_nf hq)
          refine v_aload_n (n := 269) dX3_takeEntry_268 rfl rfl ?_
          refine v_bipush (n := 271) (x := nI 59) dX3_takeEntry_269 rfl (by decide) ?_
          refine v_callV (n := 274) (k := 5) (b := 0) (i := 0) (As := [.int (nI 59)]) (rest := []) dX3_takeEntry_271 rfl lk_X3_42 rfl rfl (Nat.le_of_ble_eq_true rfl) ⟨Nat.le_of_ble_eq_true rfl, Nat.le_of_ble_eq_true rfl, Nat.le_of_ble_eq_true rfl, Nat.le_of_ble_eq_true rfl⟩ zokc_5 h (fun v μ45 h => ?_) (fun _ _ hp => False.elim hp)
          obtain ⟨r45, rfl, h⟩ := h
          refine v_norm (st' := [.int (bI r45)]) (cells' := 0) (slots' := 0) rfl rfl rfl ?_
          refine v_if_eq (n := 277) (t := 281) dX3_takeEntry_274 rfl (by decide) (fun hq => ?_) (fun hq => ?_)
          · replace h := h.1 (bI_f hq)
            refine v_iconst (n := 282) (x := nI 0) dX3_takeEntry_281 rfl (by decide) ?_
            exact v_zret dX3_takeEntry_282 rfl (by decide) (Nat.le_of_ble_eq_true rfl) (Nat.le_of_ble_eq_true rfl) h
          · replace h := h.2 (bI_nf hq)
            refine v_iconst (n := 278) (x := nI 1) dX3_takeEntry_277 rfl (by decide) ?_
            refine v_goto (n := 282) dX3_takeEntry_278 (by decide) ?_
            exact v_zret dX3_takeEntry_282 rfl (by decide) (Nat.le_of_ble_eq_true rfl) (Nat.le_of_ble_eq_true rfl) h
      replace h := h.2 hs3
      by_cases hs4 : μ17 24 0 0 j2 = nI 119
      · replace h := h.1 hs4
        have hx : (μ17 24 0 0 j2).toInt = 119 := by rw [hs4]; rfl
        refine v_lookup (n := 283) (off := 239) dX3_takeEntry_44 (by decide) (by rw [hx]; rfl) (by decide) ?_
        refine v_aload_n (n := 284) dX3_takeEntry_283 rfl rfl ?_
        refine v_dup (n := 285) dX3_takeEntry_284 rfl rfl ?_
        refine v_getf (n := 288) dX3_takeEntry_285 rfl fl_X3_19 zokc_5 (congrArg Value.int (up_sl (by decide))) ?_
        refine v_iconst (n := 289) (x := nI 1) dX3_takeEntry_288 rfl (by decide) ?_
        refine v_iadd (n := 290) dX3_takeEntry_289 rfl ?_
        refine v_putf (n := 293) dX3_takeEntry_290 rfl fw_X3_19 zokc_5 (fun _ => rfl) rfl rfl ?_
        refine v_aload_n (n := 294) dX3_takeEntry_293 rfl rfl ?_
        refine v_bipush (n := 296) (x := nI 48) dX3_takeEntry_294 rfl (by decide) ?_
        refine v_bipush (n := 298) (x := nI 57) dX3_takeEntry_296 rfl (by decide) ?_
        refine v_callV (n := 301) (k := 5) (b := 0) (i := 0) (As := [.int (nI 48), .int (nI 57)]) (rest := []) dX3_takeEntry_298 rfl lk_X3_36 rfl rfl (Nat.le_of_ble_eq_true rfl) ⟨Nat.le_of_ble_eq_true rfl, Nat.le_of_ble_eq_true rfl, Nat.le_of_ble_eq_true rfl, Nat.le_of_ble_eq_true rfl⟩ zokc_5 h (fun v μ46 h => ?_) (fun _ _ hp => False.elim hp)
        obtain ⟨r46, rfl, h⟩ := h
        refine v_norm (st' := [.int (bI r46)]) (cells' := 0) (slots' := 0) rfl rfl rfl ?_
        refine v_if_eq (n := 304) (t := 317) dX3_takeEntry_301 rfl (by decide) (fun hq => ?_) (fun hq => ?_)
        · replace h := h.1 (bI_f hq)
          refine v_iconst (n := 318) (x := nI 0) dX3_takeEntry_317 rfl (by decide) ?_
          exact v_zret dX3_takeEntry_318 rfl (by decide) (Nat.le_of_ble_eq_true rfl) (Nat.le_of_ble_eq_true rfl) h
        · replace h := h.2 (bI_nf hq)
          refine v_aload_n (n := 305) dX3_takeEntry_304 rfl rfl ?_
          refine v_bipush (n := 307) (x := nI 59) dX3_takeEntry_305 rfl (by decide) ?_
          refine v_callV (n := 310) (k := 5) (b := 0) (i := 0) (As := [.int (nI 59)]) (rest := []) dX3_takeEntry_307 rfl lk_X3_42 rfl rfl (Nat.le_of_ble_eq_true rfl) ⟨Nat.le_of_ble_eq_true rfl, Nat.le_of_ble_eq_true rfl, Nat.le_of_ble_eq_true rfl, Nat.le_of_ble_eq_true rfl⟩ zokc_5 h (fun v μ47 h => ?_) (fun _ _ hp => False.elim hp)
          obtain ⟨r47, rfl, h⟩ := h
          refine v_norm (st' := [.int (bI r47)]) (cells' := 0) (slots' := 0) rfl rfl rfl ?_
          refine v_if_eq (n := 313) (t := 317) dX3_takeEntry_310 rfl (by decide) (fun hq => ?_) (fun hq => ?_)
          · replace h := h.1 (bI_f hq)
            refine v_iconst (n := 318) (x := nI 0) dX3_takeEntry_317 rfl (by decide) ?_
            exact v_zret dX3_takeEntry_318 rfl (by decide) (Nat.le_of_ble_eq_true rfl) (Nat.le_of_ble_eq_true rfl) h
          · replace h := h.2 (bI_nf hq)
            refine v_iconst (n := 314) (x := nI 1) dX3_takeEntry_313 rfl (by decide) ?_
            refine v_goto (n := 318) dX3_takeEntry_314 (by decide) ?_
            exact v_zret dX3_takeEntry_318 rfl (by decide) (Nat.le_of_ble_eq_true rfl) (Nat.le_of_ble_eq_true rfl) h
      replace h := h.2 hs4
      refine v_lookup (n := 319) (off := 275) dX3_takeEntry_44 (by decide) (by show Op.lookupswitch.offset [(103, 52), (113, 99), (115, 151), (116, 203), (119, 239)] 275 _ = _; rw [Op.lookupswitch.offset_cons, if_neg (fun e => lsw_ne hs0 (by decide) e.symm), Op.lookupswitch.offset_cons, if_neg (fun e => lsw_ne hs1 (by decide) e.symm), Op.lookupswitch.offset_cons, if_neg (fun e => lsw_ne hs2 (by decide) e.symm), Op.lookupswitch.offset_cons, if_neg (fun e => lsw_ne hs3 (by decide) e.symm), Op.lookupswitch.offset_cons, if_neg (fun e => lsw_ne hs4 (by decide) e.symm)]; rfl) (by decide) ?_
      refine v_iconst (n := 320) (x := nI 0) dX3_takeEntry_319 rfl (by decide) ?_
      exact v_zret dX3_takeEntry_320 rfl (by decide) (Nat.le_of_ble_eq_true rfl) (Nat.le_of_ble_eq_true rfl) h

set_option maxRecDepth 20000 in
set_option maxHeartbeats 4000000 in
theorem wX3_isHere (G : Gl) {P : Option Value → St → Prop} {X : String → St → Prop} (x1 : Int32) (x2 : Int32) (μ : St)
    (h : ((μ 5 0 0 2 < 0 → P (some (.int (nI 0))) μ) ∧ (¬ μ 5 0 0 2 < 0 → ((μ 5 0 0 1 ≤ μ 5 0 0 2 → P (some (.int (nI 0))) μ) ∧ (¬ μ 5 0 0 1 ≤ μ 5 0 0 2 → ((nI 60 ≤ μ 5 0 0 2 → P (some (.int (nI 0))) μ) ∧ (¬ nI 60 ≤ μ 5 0 0 2 → ∃ j1 : Nat, μ 5 0 0 2 = nI j1 ∧ j1 < 60 ∧ ((μ 24 0 0 j1 < x1 → P (some (.int (nI 0))) μ) ∧ (¬ μ 24 0 0 j1 < x1 → ∃ j2 : Nat, μ 5 0 0 2 = nI j2 ∧ j2 < 60 ∧ ((x2 < μ 24 0 0 j2 → P (some (.int (nI 0))) μ) ∧ (¬ x2 < μ 24 0 0 j2 → P (some (.int (nI 1))) μ))))))))))) :
    Con G mX3_isHere [.ref (zad G.1 5 0 0), .int x1, .int x2] μ P X := by
  refine con_of pn_X3 rfl (Nat.le_of_ble_eq_true rfl) ?_
  show VL G mX3_isHere P X 0 [(0, .ref (zad G.1 5 0 0)), (1, .int x1), (2, .int x2)] [] μ
  refine v_aload_n (n := 1) dX3_isHere_0 rfl rfl ?_
  refine v_getf (n := 4) dX3_isHere_1 rfl fl_X3_19 zokc_5 (rfl) ?_
  refine v_if_lt (n := 7) (t := 57) dX3_isHere_4 rfl (by decide) (fun hq => ?_) (fun hq => ?_)
  · replace h := h.1 hq
    refine v_iconst (n := 58) (x := nI 0) dX3_isHere_57 rfl (by decide) ?_
    exact v_zret dX3_isHere_58 rfl (by decide) (Nat.le_of_ble_eq_true rfl) (Nat.le_of_ble_eq_true rfl) h
  · replace h := h.2 hq
    refine v_aload_n (n := 8) dX3_isHere_7 rfl rfl ?_
    refine v_getf (n := 11) dX3_isHere_8 rfl fl_X3_19 zokc_5 (rfl) ?_
    refine v_aload_n (n := 12) dX3_isHere_11 rfl rfl ?_
    refine v_getf (n := 15) dX3_isHere_12 rfl fl_X3_15 zokc_5 (rfl) ?_
    refine v_icmp_ge (n := 18) (t := 57) dX3_isHere_15 rfl (by decide) (fun hq => ?_) (fun hq => ?_)
    · replace h := h.1 hq
      refine v_iconst (n := 58) (x := nI 0) dX3_isHere_57 rfl (by decide) ?_
      exact v_zret dX3_isHere_58 rfl (by decide) (Nat.le_of_ble_eq_true rfl) (Nat.le_of_ble_eq_true rfl) h
    · replace h := h.2 hq
      refine v_aload_n (n := 19) dX3_isHere_18 rfl rfl ?_
      refine v_getf (n := 22) dX3_isHere_19 rfl fl_X3_19 zokc_5 (rfl) ?_
      refine v_bipush (n := 24) (x := nI 60) dX3_isHere_22 rfl (by decide) ?_
      refine v_icmp_ge (n := 27) (t := 57) dX3_isHere_24 rfl (by decide) (fun hq => ?_) (fun hq => ?_)
      · replace h := h.1 hq
        refine v_iconst (n := 58) (x := nI 0) dX3_isHere_57 rfl (by decide) ?_
        exact v_zret dX3_isHere_58 rfl (by decide) (Nat.le_of_ble_eq_true rfl) (Nat.le_of_ble_eq_true rfl) h
      · replace h := h.2 hq
        refine v_aload_n (n := 28) dX3_isHere_27 rfl rfl ?_
        refine v_getf (n := 31) dX3_isHere_28 rfl fl_X3_9 zokc_5 rfl ?_
        refine v_aload_n (n := 32) dX3_isHere_31 rfl rfl ?_
        refine v_getf (n := 35) dX3_isHere_32 rfl fl_X3_19 zokc_5 (rfl) ?_
        obtain ⟨j1, ej1, hj1, h⟩ := h
        refine v_cald (n := 36) (j := j1) dX3_isHere_35 rfl zokc_24 (by decide) rfl ej1 hj1 (rfl) ?_
        refine v_iload_n (n := 37) dX3_isHere_36 rfl rfl ?_
        refine v_icmp_lt (n := 40) (t := 57) dX3_isHere_37 rfl (by decide) (fun hq => ?_) (fun hq => ?_)
        · replace h := h.1 hq
          refine v_iconst (n := 58) (x := nI 0) dX3_isHere_57 rfl (by decide) ?_
          exact v_zret dX3_isHere_58 rfl (by decide) (Nat.le_of_ble_eq_true rfl) (Nat.le_of_ble_eq_true rfl) h
        · replace h := h.2 hq
          refine v_aload_n (n := 41) dX3_isHere_40 rfl rfl ?_
          refine v_getf (n := 44) dX3_isHere_41 rfl fl_X3_9 zokc_5 rfl ?_
          refine v_aload_n (n := 45) dX3_isHere_44 rfl rfl ?_
          refine v_getf (n := 48) dX3_isHere_45 rfl fl_X3_19 zokc_5 (rfl) ?_
          obtain ⟨j2, ej2, hj2, h⟩ := h
          refine v_cald (n := 49) (j := j2) dX3_isHere_48 rfl zokc_24 (by decide) rfl ej2 hj2 (rfl) ?_
          refine v_iload_n (n := 50) dX3_isHere_49 rfl rfl ?_
          refine v_icmp_gt (n := 53) (t := 57) dX3_isHere_50 rfl (by decide) (fun hq => ?_) (fun hq => ?_)
          · replace h := h.1 hq
            refine v_iconst (n := 58) (x := nI 0) dX3_isHere_57 rfl (by decide) ?_
            exact v_zret dX3_isHere_58 rfl (by decide) (Nat.le_of_ble_eq_true rfl) (Nat.le_of_ble_eq_true rfl) h
          · replace h := h.2 hq
            refine v_iconst (n := 54) (x := nI 1) dX3_isHere_53 rfl (by decide) ?_
            refine v_goto (n := 58) dX3_isHere_54 (by decide) ?_
            exact v_zret dX3_isHere_58 rfl (by decide) (Nat.le_of_ble_eq_true rfl) (Nat.le_of_ble_eq_true rfl) h

set_option maxRecDepth 20000 in
set_option maxHeartbeats 4000000 in
theorem wX3_takeSign (G : Gl) {P : Option Value → St → Prop} {X : String → St → Prop} (x1 : Int32) (μ : St)
    (h : Con G mX3_isHere [.ref (zad G.1 5 0 0), .int x1, .int x1] μ (fun v μ1 => ∃ r1 : Bool, v = some (.int (bI r1)) ∧ ((r1 = true → P (some (.int (nI 1))) (up μ1 5 0 0 2 ((μ1 5 0 0 2) + (nI 1)))) ∧ (r1 = false → P (some (.int (nI 0))) μ1))) noX) :
    Con G mX3_takeSign [.ref (zad G.1 5 0 0), .int x1] μ P X := by
  refine con_of pn_X3 rfl (Nat.le_of_ble_eq_true rfl) ?_
  show VL G mX3_takeSign P X 0 [(0, .ref (zad G.1 5 0 0)), (1, .int x1)] [] μ
  refine v_aload_n (n := 1) dX3_takeSign_0 rfl rfl ?_
  refine v_iload_n (n := 2) dX3_takeSign_1 rfl rfl ?_
  refine v_iload_n (n := 3) dX3_takeSign_2 rfl rfl ?_
  refine v_callV (n := 6) (k := 5) (b := 0) (i := 0) (As := [.int x1, .int x1]) (rest := []) dX3_takeSign_3 rfl lk_X3_29 rfl rfl (Nat.le_of_ble_eq_true rfl) ⟨Nat.le_of_ble_eq_true rfl, Nat.le_of_ble_eq_true rfl, Nat.le_of_ble_eq_true rfl, Nat.le_of_ble_eq_true rfl⟩ zokc_5 h (fun v μ1 h => ?_) (fun _ _ hp => False.elim hp)
  obtain ⟨r1, rfl, h⟩ := h
  refine v_norm (st' := [.int (bI r1)]) (cells' := 0) (slots' := 0) rfl rfl rfl ?_
  refine v_if_ne (n := 9) (t := 11) dX3_takeSign_6 rfl (by decide) (fun hq => ?_) (fun hq => ?_)
  · replace h := h.1 (bI_nf hq)
    refine v_aload_n (n := 12) dX3_takeSign_11 rfl rfl ?_
    refine v_dup (n := 13) dX3_takeSign_12 rfl rfl ?_
    refine v_getf (n := 16) dX3_takeSign_13 rfl fl_X3_19 zokc_5 (rfl) ?_
    refine v_iconst (n := 17) (x := nI 1) dX3_takeSign_16 rfl (by decide) ?_
    refine v_iadd (n := 18) dX3_takeSign_17 rfl ?_
    refine v_putf (n := 21) dX3_takeSign_18 rfl fw_X3_19 zokc_5 (fun _ => rfl) rfl rfl ?_
    refine v_iconst (n := 22) (x := nI 1) dX3_takeSign_21 rfl (by decide) ?_
    exact v_zret dX3_takeSign_22 rfl (by decide) (Nat.le_of_ble_eq_true rfl) (Nat.le_of_ble_eq_true rfl) h
  · replace h := h.2 (bI_f hq)
    refine v_iconst (n := 10) (x := nI 0) dX3_takeSign_9 rfl (by decide) ?_
    exact v_zret dX3_takeSign_10 rfl (by decide) (Nat.le_of_ble_eq_true rfl) (Nat.le_of_ble_eq_true rfl) h

set_option maxRecDepth 20000 in
set_option maxHeartbeats 4000000 in
theorem wX3_takeDigit (G : Gl) {P : Option Value → St → Prop} {X : String → St → Prop} (x1 : Int32) (x2 : Int32) (μ : St)
    (h : Con G mX3_isHere [.ref (zad G.1 5 0 0), .int x1, .int x2] μ (fun v μ1 => ∃ r1 : Bool, v = some (.int (bI r1)) ∧ ((r1 = true → ∃ j1 : Nat, μ1 5 0 0 2 = nI j1 ∧ j1 < 60 ∧ P (some (.int ((μ1 24 0 0 j1) - (nI 48)))) (up μ1 5 0 0 2 ((μ1 5 0 0 2) + (nI 1)))) ∧ (r1 = false → P (some (.int (-1 : Int32))) μ1))) noX) :
    Con G mX3_takeDigit [.ref (zad G.1 5 0 0), .int x1, .int x2] μ P X := by
  refine con_of pn_X3 rfl (Nat.le_of_ble_eq_true rfl) ?_
  show VL G mX3_takeDigit P X 0 [(0, .ref (zad G.1 5 0 0)), (1, .int x1), (2, .int x2)] [] μ
  refine v_aload_n (n := 1) dX3_takeDigit_0 rfl rfl ?_
  refine v_iload_n (n := 2) dX3_takeDigit_1 rfl rfl ?_
  refine v_iload_n (n := 3) dX3_takeDigit_2 rfl rfl ?_
  refine v_callV (n := 6) (k := 5) (b := 0) (i := 0) (As := [.int x1, .int x2]) (rest := []) dX3_takeDigit_3 rfl lk_X3_29 rfl rfl (Nat.le_of_ble_eq_true rfl) ⟨Nat.le_of_ble_eq_true rfl, Nat.le_of_ble_eq_true rfl, Nat.le_of_ble_eq_true rfl, Nat.le_of_ble_eq_true rfl⟩ zokc_5 h (fun v μ1 h => ?_) (fun _ _ hp => False.elim hp)
  obtain ⟨r1, rfl, h⟩ := h
  refine v_norm (st' := [.int (bI r1)]) (cells' := 0) (slots' := 0) rfl rfl rfl ?_
  refine v_if_ne (n := 9) (t := 11) dX3_takeDigit_6 rfl (by decide) (fun hq => ?_) (fun hq => ?_)
  · replace h := h.1 (bI_nf hq)
    refine v_aload_n (n := 12) dX3_takeDigit_11 rfl rfl ?_
    refine v_getf (n := 15) dX3_takeDigit_12 rfl fl_X3_9 zokc_5 rfl ?_
    refine v_aload_n (n := 16) dX3_takeDigit_15 rfl rfl ?_
    refine v_getf (n := 19) dX3_takeDigit_16 rfl fl_X3_19 zokc_5 (rfl) ?_
    obtain ⟨j1, ej1, hj1, h⟩ := h
    refine v_cald (n := 20) (j := j1) dX3_takeDigit_19 rfl zokc_24 (by decide) rfl ej1 hj1 (rfl) ?_
    refine v_bipush (n := 22) (x := nI 48) dX3_takeDigit_20 rfl (by decide) ?_
    refine v_isub (n := 23) dX3_takeDigit_22 rfl ?_
    refine v_istore_n (n := 24) (L' := [(0, .ref (zad G.1 5 0 0)), (1, .int x1), (2, .int x2), (3, .int ((μ1 24 0 0 j1) - (nI 48)))]) dX3_takeDigit_23 rfl (by decide) rfl ?_
    refine v_aload_n (n := 25) dX3_takeDigit_24 rfl rfl ?_
    refine v_dup (n := 26) dX3_takeDigit_25 rfl rfl ?_
    refine v_getf (n := 29) dX3_takeDigit_26 rfl fl_X3_19 zokc_5 (rfl) ?_
    refine v_iconst (n := 30) (x := nI 1) dX3_takeDigit_29 rfl (by decide) ?_
    refine v_iadd (n := 31) dX3_takeDigit_30 rfl ?_
    refine v_putf (n := 34) dX3_takeDigit_31 rfl fw_X3_19 zokc_5 (fun _ => rfl) rfl rfl ?_
    refine v_iload_n (n := 35) dX3_takeDigit_34 rfl rfl ?_
    exact v_iret dX3_takeDigit_35 rfl (Nat.le_of_ble_eq_true rfl) (Nat.le_of_ble_eq_true rfl) h
  · replace h := h.2 (bI_f hq)
    refine v_iconst (n := 10) (x := (-1 : Int32)) dX3_takeDigit_9 rfl (by decide) ?_
    exact v_iret dX3_takeDigit_10 rfl (Nat.le_of_ble_eq_true rfl) (Nat.le_of_ble_eq_true rfl) h

set_option maxRecDepth 20000 in
set_option maxHeartbeats 4000000 in
theorem wX3_takeNumber (G : Gl) {P : Option Value → St → Prop} {X : String → St → Prop} (x1 : Int32) (x2 : Int32) (μ : St)
    (h : Con G mX3_takeDigit [.ref (zad G.1 5 0 0), .int x1, .int x2] μ (fun v μ1 => ∃ r1 : Int32, v = some (.int r1) ∧ ((r1 = (-1 : Int32) → P (some (.int (nI 0))) (up μ1 5 0 0 5 r1)) ∧ (¬ r1 = (-1 : Int32) → P (some (.int (nI 1))) (up μ1 5 0 0 5 r1)))) noX) :
    Con G mX3_takeNumber [.ref (zad G.1 5 0 0), .int x1, .int x2] μ P X := by
  refine con_of pn_X3 rfl (Nat.le_of_ble_eq_true rfl) ?_
  show VL G mX3_takeNumber P X 0 [(0, .ref (zad G.1 5 0 0)), (1, .int x1), (2, .int x2)] [] μ
  refine v_aload_n (n := 1) dX3_takeNumber_0 rfl rfl ?_
  refine v_aload_n (n := 2) dX3_takeNumber_1 rfl rfl ?_
  refine v_iload_n (n := 3) dX3_takeNumber_2 rfl rfl ?_
  refine v_iload_n (n := 4) dX3_takeNumber_3 rfl rfl ?_
  refine v_callV (n := 7) (k := 5) (b := 0) (i := 0) (As := [.int x1, .int x2]) (rest := [.ref (zad G.1 5 0 0)]) dX3_takeNumber_4 rfl lk_X3_49 rfl rfl (Nat.le_of_ble_eq_true rfl) ⟨Nat.le_of_ble_eq_true rfl, Nat.le_of_ble_eq_true rfl, Nat.le_of_ble_eq_true rfl, Nat.le_of_ble_eq_true rfl⟩ zokc_5 h (fun v μ1 h => ?_) (fun _ _ hp => False.elim hp)
  obtain ⟨r1, rfl, h⟩ := h
  refine v_norm (st' := [.int r1, .ref (zad G.1 5 0 0)]) (cells' := 0) (slots' := 0) rfl rfl rfl ?_
  refine v_putf (n := 10) dX3_takeNumber_7 rfl fw_X3_53 zokc_5 (fun _ => rfl) rfl rfl ?_
  refine v_aload_n (n := 11) dX3_takeNumber_10 rfl rfl ?_
  refine v_getf (n := 14) dX3_takeNumber_11 rfl fl_X3_53 zokc_5 (congrArg Value.int (up_self _ _ _ _ _ _)) ?_
  refine v_iconst (n := 15) (x := (-1 : Int32)) dX3_takeNumber_14 rfl (by decide) ?_
  refine v_icmp_eq (n := 18) (t := 22) dX3_takeNumber_15 rfl (by decide) (fun hq => ?_) (fun hq => ?_)
  · replace h := h.1 hq
    refine v_iconst (n := 23) (x := nI 0) dX3_takeNumber_22 rfl (by decide) ?_
    exact v_zret dX3_takeNumber_23 rfl (by decide) (Nat.le_of_ble_eq_true rfl) (Nat.le_of_ble_eq_true rfl) h
  · replace h := h.2 hq
    refine v_iconst (n := 19) (x := nI 1) dX3_takeNumber_18 rfl (by decide) ?_
    refine v_goto (n := 23) dX3_takeNumber_19 (by decide) ?_
    exact v_zret dX3_takeNumber_23 rfl (by decide) (Nat.le_of_ble_eq_true rfl) (Nat.le_of_ble_eq_true rfl) h

set_option maxRecDepth 20000 in
set_option maxHeartbeats 4000000 in
theorem wX3_takeTarget (G : Gl) {P : Option Value → St → Prop} {X : String → St → Prop} (x1 : Int32) (x2 : Int32) (μ : St)
    (h : Con G mX3_takeDigit [.ref (zad G.1 5 0 0), .int x1, .int x2] μ (fun v μ1 => ∃ r1 : Int32, v = some (.int r1) ∧ ((r1 = (-1 : Int32) → P (some (.int (nI 0))) (up μ1 5 0 0 6 r1)) ∧ (¬ r1 = (-1 : Int32) → P (some (.int (nI 1))) (up μ1 5 0 0 6 r1)))) noX) :
    Con G mX3_takeTarget [.ref (zad G.1 5 0 0), .int x1, .int x2] μ P X := by
  refine con_of pn_X3 rfl (Nat.le_of_ble_eq_true rfl) ?_
  show VL G mX3_takeTarget P X 0 [(0, .ref (zad G.1 5 0 0)), (1, .int x1), (2, .int x2)] [] μ
  refine v_aload_n (n := 1) dX3_takeTarget_0 rfl rfl ?_
  refine v_aload_n (n := 2) dX3_takeTarget_1 rfl rfl ?_
  refine v_iload_n (n := 3) dX3_takeTarget_2 rfl rfl ?_
  refine v_iload_n (n := 4) dX3_takeTarget_3 rfl rfl ?_
  refine v_callV (n := 7) (k := 5) (b := 0) (i := 0) (As := [.int x1, .int x2]) (rest := [.ref (zad G.1 5 0 0)]) dX3_takeTarget_4 rfl lk_X3_49 rfl rfl (Nat.le_of_ble_eq_true rfl) ⟨Nat.le_of_ble_eq_true rfl, Nat.le_of_ble_eq_true rfl, Nat.le_of_ble_eq_true rfl, Nat.le_of_ble_eq_true rfl⟩ zokc_5 h (fun v μ1 h => ?_) (fun _ _ hp => False.elim hp)
  obtain ⟨r1, rfl, h⟩ := h
  refine v_norm (st' := [.int r1, .ref (zad G.1 5 0 0)]) (cells' := 0) (slots' := 0) rfl rfl rfl ?_
  refine v_putf (n := 10) dX3_takeTarget_7 rfl fw_X3_56 zokc_5 (fun _ => rfl) rfl rfl ?_
  refine v_aload_n (n := 11) dX3_takeTarget_10 rfl rfl ?_
  refine v_getf (n := 14) dX3_takeTarget_11 rfl fl_X3_56 zokc_5 (congrArg Value.int (up_self _ _ _ _ _ _)) ?_
  refine v_iconst (n := 15) (x := (-1 : Int32)) dX3_takeTarget_14 rfl (by decide) ?_
  refine v_icmp_eq (n := 18) (t := 22) dX3_takeTarget_15 rfl (by decide) (fun hq => ?_) (fun hq => ?_)
  · replace h := h.1 hq
    refine v_iconst (n := 23) (x := nI 0) dX3_takeTarget_22 rfl (by decide) ?_
    exact v_zret dX3_takeTarget_23 rfl (by decide) (Nat.le_of_ble_eq_true rfl) (Nat.le_of_ble_eq_true rfl) h
  · replace h := h.2 hq
    refine v_iconst (n := 19) (x := nI 1) dX3_takeTarget_18 rfl (by decide) ?_
    refine v_goto (n := 23) dX3_takeTarget_19 (by decide) ?_
    exact v_zret dX3_takeTarget_23 rfl (by decide) (Nat.le_of_ble_eq_true rfl) (Nat.le_of_ble_eq_true rfl) h

set_option maxRecDepth 20000 in
set_option maxHeartbeats 4000000 in
theorem wX3_takeGuest (G : Gl) {P : Option Value → St → Prop} {X : String → St → Prop}  (μ : St)
    (h : Con G mX3_takeNumber [.ref (zad G.1 5 0 0), .int (nI 48), .int (nI 57)] μ (fun v μ1 => ∃ r1 : Bool, v = some (.int (bI r1)) ∧ ((r1 = true → ((¬ μ1 5 0 0 5 = nI 1 → (((-1 : Int32) = (-1 : Int32) → P (some (.int (nI 1))) μ1) ∧ (¬ (-1 : Int32) = (-1 : Int32) → P (some (.int (nI 1))) (up μ1 5 0 0 5 ((nI 10) + (-1 : Int32)))))) ∧ (μ1 5 0 0 5 = nI 1 → Con G mX3_takeDigit [.ref (zad G.1 5 0 0), .int (nI 48), .int (nI 53)] μ1 (fun v μ2 => ∃ r2 : Int32, v = some (.int r2) ∧ ((r2 = (-1 : Int32) → P (some (.int (nI 1))) μ2) ∧ (¬ r2 = (-1 : Int32) → P (some (.int (nI 1))) (up μ2 5 0 0 5 ((nI 10) + r2))))) noX))) ∧ (r1 = false → P (some (.int (nI 0))) μ1))) noX) :
    Con G mX3_takeGuest [.ref (zad G.1 5 0 0)] μ P X := by
  refine con_of pn_X3 rfl (Nat.le_of_ble_eq_true rfl) ?_
  show VL G mX3_takeGuest P X 0 [(0, .ref (zad G.1 5 0 0))] [] μ
  refine v_aload_n (n := 1) dX3_takeGuest_0 rfl rfl ?_
  refine v_bipush (n := 3) (x := nI 48) dX3_takeGuest_1 rfl (by decide) ?_
  refine v_bipush (n := 5) (x := nI 57) dX3_takeGuest_3 rfl (by decide) ?_
  refine v_callV (n := 8) (k := 5) (b := 0) (i := 0) (As := [.int (nI 48), .int (nI 57)]) (rest := []) dX3_takeGuest_5 rfl lk_X3_36 rfl rfl (Nat.le_of_ble_eq_true rfl) ⟨Nat.le_of_ble_eq_true rfl, Nat.le_of_ble_eq_true rfl, Nat.le_of_ble_eq_true rfl, Nat.le_of_ble_eq_true rfl⟩ zokc_5 h (fun v μ1 h => ?_) (fun _ _ hp => False.elim hp)
  obtain ⟨r1, rfl, h⟩ := h
  refine v_norm (st' := [.int (bI r1)]) (cells' := 0) (slots' := 0) rfl rfl rfl ?_
  refine v_if_ne (n := 11) (t := 13) dX3_takeGuest_8 rfl (by decide) (fun hq => ?_) (fun hq => ?_)
  · replace h := h.1 (bI_nf hq)
    refine v_aload_n (n := 14) dX3_takeGuest_13 rfl rfl ?_
    refine v_getf (n := 17) dX3_takeGuest_14 rfl fl_X3_53 zokc_5 (rfl) ?_
    refine v_iconst (n := 18) (x := nI 1) dX3_takeGuest_17 rfl (by decide) ?_
    refine v_icmp_ne (n := 21) (t := 32) dX3_takeGuest_18 rfl (by decide) (fun hq => ?_) (fun hq => ?_)
    · replace h := h.1 hq
      refine v_iconst (n := 33) (x := (-1 : Int32)) dX3_takeGuest_32 rfl (by decide) ?_
      refine v_istore_n (n := 34) (L' := [(0, .ref (zad G.1 5 0 0)), (1, .int (-1 : Int32))]) dX3_takeGuest_33 rfl (by decide) rfl ?_
      refine v_iload_n (n := 35) dX3_takeGuest_34 rfl rfl ?_
      refine v_iconst (n := 36) (x := (-1 : Int32)) dX3_takeGuest_35 rfl (by decide) ?_
      refine v_icmp_eq (n := 39) (t := 47) dX3_takeGuest_36 rfl (by decide) (fun hq => ?_) (fun hq => ?_)
      · replace h := h.1 hq
        refine v_iconst (n := 48) (x := nI 1) dX3_takeGuest_47 rfl (by decide) ?_
        exact v_zret dX3_takeGuest_48 rfl (by decide) (Nat.le_of_ble_eq_true rfl) (Nat.le_of_ble_eq_true rfl) h
      · replace h := h.2 hq
        refine v_aload_n (n := 40) dX3_takeGuest_39 rfl rfl ?_
        refine v_bipush (n := 42) (x := nI 10) dX3_takeGuest_40 rfl (by decide) ?_
        refine v_iload_n (n := 43) dX3_takeGuest_42 rfl rfl ?_
        refine v_iadd (n := 44) dX3_takeGuest_43 rfl ?_
        refine v_putf (n := 47) dX3_takeGuest_44 rfl fw_X3_53 zokc_5 (fun _ => rfl) rfl rfl ?_
        refine v_iconst (n := 48) (x := nI 1) dX3_takeGuest_47 rfl (by decide) ?_
        exact v_zret dX3_takeGuest_48 rfl (by decide) (Nat.le_of_ble_eq_true rfl) (Nat.le_of_ble_eq_true rfl) h
    · replace h := h.2 hq
      refine v_aload_n (n := 22) dX3_takeGuest_21 rfl rfl ?_
      refine v_bipush (n := 24) (x := nI 48) dX3_takeGuest_22 rfl (by decide) ?_
      refine v_bipush (n := 26) (x := nI 53) dX3_takeGuest_24 rfl (by decide) ?_
      refine v_callV (n := 29) (k := 5) (b := 0) (i := 0) (As := [.int (nI 48), .int (nI 53)]) (rest := []) dX3_takeGuest_26 rfl lk_X3_49 rfl rfl (Nat.le_of_ble_eq_true rfl) ⟨Nat.le_of_ble_eq_true rfl, Nat.le_of_ble_eq_true rfl, Nat.le_of_ble_eq_true rfl, Nat.le_of_ble_eq_true rfl⟩ zokc_5 h (fun v μ2 h => ?_) (fun _ _ hp => False.elim hp)
      obtain ⟨r2, rfl, h⟩ := h
      refine v_norm (st' := [.int r2]) (cells' := 0) (slots' := 0) rfl rfl rfl ?_
      refine v_goto (n := 33) dX3_takeGuest_29 (by decide) ?_
      refine v_istore_n (n := 34) (L' := [(0, .ref (zad G.1 5 0 0)), (1, .int r2)]) dX3_takeGuest_33 rfl (by decide) rfl ?_
      refine v_iload_n (n := 35) dX3_takeGuest_34 rfl rfl ?_
      refine v_iconst (n := 36) (x := (-1 : Int32)) dX3_takeGuest_35 rfl (by decide) ?_
      refine v_icmp_eq (n := 39) (t := 47) dX3_takeGuest_36 rfl (by decide) (fun hq => ?_) (fun hq => ?_)
      · replace h := h.1 hq
        refine v_iconst (n := 48) (x := nI 1) dX3_takeGuest_47 rfl (by decide) ?_
        exact v_zret dX3_takeGuest_48 rfl (by decide) (Nat.le_of_ble_eq_true rfl) (Nat.le_of_ble_eq_true rfl) h
      · replace h := h.2 hq
        refine v_aload_n (n := 40) dX3_takeGuest_39 rfl rfl ?_
        refine v_bipush (n := 42) (x := nI 10) dX3_takeGuest_40 rfl (by decide) ?_
        refine v_iload_n (n := 43) dX3_takeGuest_42 rfl rfl ?_
        refine v_iadd (n := 44) dX3_takeGuest_43 rfl ?_
        refine v_putf (n := 47) dX3_takeGuest_44 rfl fw_X3_53 zokc_5 (fun _ => rfl) rfl rfl ?_
        refine v_iconst (n := 48) (x := nI 1) dX3_takeGuest_47 rfl (by decide) ?_
        exact v_zret dX3_takeGuest_48 rfl (by decide) (Nat.le_of_ble_eq_true rfl) (Nat.le_of_ble_eq_true rfl) h
  · replace h := h.2 (bI_f hq)
    refine v_iconst (n := 12) (x := nI 0) dX3_takeGuest_11 rfl (by decide) ?_
    exact v_zret dX3_takeGuest_12 rfl (by decide) (Nat.le_of_ble_eq_true rfl) (Nat.le_of_ble_eq_true rfl) h

set_option maxRecDepth 20000 in
set_option maxHeartbeats 4000000 in
theorem wX6_durationFrom (G : Gl) {P : Option Value → St → Prop} {X : String → St → Prop} (x1 : Int32) (μ : St)
    (h : ((isSt x1 = false → P (some (.int (nI 1000000))) μ) ∧ (isSt x1 = true → ∃ j1 : Nat, x1 = nI j1 ∧ j1 < 8 ∧ P (some (.int (μ 25 0 0 j1))) μ))) :
    Con G mX6_durationFrom [.ref (zad G.1 8 0 0), .int x1] μ P X := by
  refine con_of pn_X6 rfl (Nat.le_of_ble_eq_true rfl) ?_
  show VL G mX6_durationFrom P X 0 [(0, .ref (zad G.1 8 0 0)), (1, .int x1)] [] μ
  refine v_iload_n (n := 1) dX6_durationFrom_0 rfl rfl ?_
  refine v_callN (n := 4) (As := [.int x1]) (rest := []) dX6_durationFrom_1 rfl lk_X6_15 rfl rfl (Nat.le_of_ble_eq_true rfl) ⟨Nat.le_of_ble_eq_true rfl, Nat.le_of_ble_eq_true rfl, Nat.le_of_ble_eq_true rfl, Nat.le_of_ble_eq_true rfl⟩ (s_X7_isStation G x1 μ) (fun v μ9 hp => ?_) (fun _ _ hp => False.elim hp)
  rw [hp.1, hp.2]
  refine v_norm (st' := [.int (bI (isSt x1))]) (cells' := 0) (slots' := 0) rfl rfl rfl ?_
  refine v_if_eq (n := 7) (t := 16) dX6_durationFrom_4 rfl (by decide) (fun hq => ?_) (fun hq => ?_)
  · replace h := h.1 (bI_f hq)
    refine v_ldc (n := 18) (x := 1000000) dX6_durationFrom_16 rfl lc_X6_19 ?_
    refine v_top (y := nI 1000000) (by decide) ?_
    exact v_iret dX6_durationFrom_18 rfl (Nat.le_of_ble_eq_true rfl) (Nat.le_of_ble_eq_true rfl) h
  · replace h := h.2 (bI_nf hq)
    refine v_aload_n (n := 8) dX6_durationFrom_7 rfl rfl ?_
    refine v_getf (n := 11) dX6_durationFrom_8 rfl fl_X6_9 zokc_8 rfl ?_
    refine v_iload_n (n := 12) dX6_durationFrom_11 rfl rfl ?_
    obtain ⟨j1, ej1, hj1, h⟩ := h
    refine v_iald (n := 13) (j := j1) dX6_durationFrom_12 rfl zokc_25 (by decide) rfl ej1 hj1 (rfl) ?_
    refine v_goto (n := 18) dX6_durationFrom_13 (by decide) ?_
    exact v_iret dX6_durationFrom_18 rfl (Nat.le_of_ble_eq_true rfl) (Nat.le_of_ble_eq_true rfl) h

set_option maxRecDepth 20000 in
set_option maxHeartbeats 4000000 in
theorem wX6_measure (G : Gl) {P : Option Value → St → Prop} {X : String → St → Prop} (b : Nat) (hb : b < 11) (i2 : Nat) (hi2 : i2 < 16) (x3 : Int32) (μ : St)
    (h : VL G mX6_measure P X 3 [(0, .ref (zad G.1 8 0 0)), (1, .ref (zad G.1 2 b 0)), (2, .ref (zad G.1 3 b i2)), (3, .int x3), (4, .int (nI 0))] [] μ) :
    Con G mX6_measure [.ref (zad G.1 8 0 0), .ref (zad G.1 2 b 0), .ref (zad G.1 3 b i2), .int x3] μ P X := by
  refine con_of pn_X6 rfl (Nat.le_of_ble_eq_true rfl) ?_
  show VL G mX6_measure P X 0 [(0, .ref (zad G.1 8 0 0)), (1, .ref (zad G.1 2 b 0)), (2, .ref (zad G.1 3 b i2)), (3, .int x3)] [] μ
  refine v_iconst (n := 1) (x := nI 0) dX6_measure_0 rfl (by decide) ?_
  refine v_istore (n := 3) (L' := [(0, .ref (zad G.1 8 0 0)), (1, .ref (zad G.1 2 b 0)), (2, .ref (zad G.1 3 b i2)), (3, .int x3), (4, .int (nI 0))]) dX6_measure_1 rfl (by decide) rfl ?_
  exact h

set_option maxRecDepth 20000 in
set_option maxHeartbeats 4000000 in
theorem wX6_measure_3 (G : Gl) {P : Option Value → St → Prop} {X : String → St → Prop} (b : Nat) (hb : b < 11) (i2 : Nat) (hi2 : i2 < 16) (x3 : Int32) (i : Nat) (μ : St)
    (h : ((nI 8 ≤ nI i → VL G mX6_measure P X 38 [(0, .ref (zad G.1 8 0 0)), (1, .ref (zad G.1 2 b 0)), (2, .ref (zad G.1 3 b i2)), (3, .int x3), (4, .int (nI 1))] [] μ) ∧ (¬ nI 8 ≤ nI i → ((¬ nI i = x3 → i < 8 ∧ VL G mX6_measure P X 3 [(0, .ref (zad G.1 8 0 0)), (1, .ref (zad G.1 2 b 0)), (2, .ref (zad G.1 3 b i2)), (3, .int x3), (4, .int (nI (i + 1)))] [] (up μ 25 0 0 i (nI 1000000))) ∧ (nI i = x3 → i < 8 ∧ VL G mX6_measure P X 3 [(0, .ref (zad G.1 8 0 0)), (1, .ref (zad G.1 2 b 0)), (2, .ref (zad G.1 3 b i2)), (3, .int x3), (4, .int (nI (i + 1)))] [] (up μ 25 0 0 i (nI 0))))))) :
    VL G mX6_measure P X 3 [(0, .ref (zad G.1 8 0 0)), (1, .ref (zad G.1 2 b 0)), (2, .ref (zad G.1 3 b i2)), (3, .int x3), (4, .int (nI i))] [] μ := by
  refine v_iload (n := 5) dX6_measure_3 rfl rfl ?_
  refine v_bipush (n := 7) (x := nI 8) dX6_measure_5 rfl (by decide) ?_
  refine v_icmp_ge (n := 10) (t := 35) dX6_measure_7 rfl (by decide) (fun hq => ?_) (fun hq => ?_)
  · replace h := h.1 hq
    refine v_iconst (n := 36) (x := nI 1) dX6_measure_35 rfl (by decide) ?_
    refine v_istore (n := 38) (L' := [(0, .ref (zad G.1 8 0 0)), (1, .ref (zad G.1 2 b 0)), (2, .ref (zad G.1 3 b i2)), (3, .int x3), (4, .int (nI 1))]) dX6_measure_36 rfl (by decide) rfl ?_
    exact h
  · replace h := h.2 hq
    refine v_aload_n (n := 11) dX6_measure_10 rfl rfl ?_
    refine v_getf (n := 14) dX6_measure_11 rfl fl_X6_9 zokc_8 rfl ?_
    refine v_iload (n := 16) dX6_measure_14 rfl rfl ?_
    refine v_iload (n := 18) dX6_measure_16 rfl rfl ?_
    refine v_iload_n (n := 19) dX6_measure_18 rfl rfl ?_
    refine v_icmp_ne (n := 22) (t := 26) dX6_measure_19 rfl (by decide) (fun hq => ?_) (fun hq => ?_)
    · replace h := h.1 hq
      refine v_ldc (n := 28) (x := 1000000) dX6_measure_26 rfl lc_X6_19 ?_
      refine v_top (y := nI 1000000) (by decide) ?_
      obtain ⟨hf1, h⟩ := h
      refine v_iast (n := 29) (j := i) dX6_measure_28 rfl zokc_25 (by decide) (by decide) rfl rfl hf1 (fun _ => rfl) ?_
      refine v_iinc (n := 32) (x := nI i) (y := nI (i + 1)) (L' := [(0, .ref (zad G.1 8 0 0)), (1, .ref (zad G.1 2 b 0)), (2, .ref (zad G.1 3 b i2)), (3, .int x3), (4, .int (nI (i + 1)))]) dX6_measure_29 rfl rfl (nI_1 i) (by decide) rfl ?_
      refine v_goto (n := 3) dX6_measure_32 (by decide) ?_
      exact h
    · replace h := h.2 hq
      refine v_iconst (n := 23) (x := nI 0) dX6_measure_22 rfl (by decide) ?_
      refine v_goto (n := 28) dX6_measure_23 (by decide) ?_
      obtain ⟨hf2, h⟩ := h
      refine v_iast (n := 29) (j := i) dX6_measure_28 rfl zokc_25 (by decide) (by decide) rfl rfl hf2 (fun _ => rfl) ?_
      refine v_iinc (n := 32) (x := nI i) (y := nI (i + 1)) (L' := [(0, .ref (zad G.1 8 0 0)), (1, .ref (zad G.1 2 b 0)), (2, .ref (zad G.1 3 b i2)), (3, .int x3), (4, .int (nI (i + 1)))]) dX6_measure_29 rfl rfl (nI_1 i) (by decide) rfl ?_
      refine v_goto (n := 3) dX6_measure_32 (by decide) ?_
      exact h

set_option maxRecDepth 20000 in
set_option maxHeartbeats 4000000 in
theorem wX6_measure_38 (G : Gl) {P : Option Value → St → Prop} {X : String → St → Prop} (b : Nat) (hb : b < 11) (i2 : Nat) (hi2 : i2 < 16) (x3 : Int32) (i : Nat) (μ : St)
    (h : ((nI 8 ≤ nI i → P none μ) ∧ (¬ nI 8 ≤ nI i → Con G mX6_shorten [.ref (zad G.1 8 0 0), .ref (zad G.1 2 b 0), .ref (zad G.1 3 b i2)] μ (fun v μ1 => ∃ r1 : Bool, v = some (.int (bI r1)) ∧ ((r1 = true → VL G mX6_measure P X 38 [(0, .ref (zad G.1 8 0 0)), (1, .ref (zad G.1 2 b 0)), (2, .ref (zad G.1 3 b i2)), (3, .int x3), (4, .int (nI (i + 1)))] [] μ1) ∧ (r1 = false → P none μ1))) noX))) :
    VL G mX6_measure P X 38 [(0, .ref (zad G.1 8 0 0)), (1, .ref (zad G.1 2 b 0)), (2, .ref (zad G.1 3 b i2)), (3, .int x3), (4, .int (nI i))] [] μ := by
  refine v_iload (n := 40) dX6_measure_38 rfl rfl ?_
  refine v_bipush (n := 42) (x := nI 8) dX6_measure_40 rfl (by decide) ?_
  refine v_icmp_ge (n := 45) (t := 61) dX6_measure_42 rfl (by decide) (fun hq => ?_) (fun hq => ?_)
  · replace h := h.1 hq
    exact v_vret dX6_measure_61 rfl (Nat.le_of_ble_eq_true rfl) (Nat.le_of_ble_eq_true rfl) h
  · replace h := h.2 hq
    refine v_aload_n (n := 46) dX6_measure_45 rfl rfl ?_
    refine v_aload_n (n := 47) dX6_measure_46 rfl rfl ?_
    refine v_aload_n (n := 48) dX6_measure_47 rfl rfl ?_
    refine v_callV (n := 51) (k := 8) (b := 0) (i := 0) (As := [.ref (zad G.1 2 b 0), .ref (zad G.1 3 b i2)]) (rest := []) dX6_measure_48 rfl lk_X6_20 rfl rfl (Nat.le_of_ble_eq_true rfl) ⟨Nat.le_of_ble_eq_true rfl, Nat.le_of_ble_eq_true rfl, Nat.le_of_ble_eq_true rfl, Nat.le_of_ble_eq_true rfl⟩ zokc_8 h (fun v μ1 h => ?_) (fun _ _ hp => False.elim hp)
    obtain ⟨r1, rfl, h⟩ := h
    refine v_norm (st' := [.int (bI r1)]) (cells' := 0) (slots' := 0) rfl rfl rfl ?_
    refine v_if_ne (n := 54) (t := 55) dX6_measure_51 rfl (by decide) (fun hq => ?_) (fun hq => ?_)
    · replace h := h.1 (bI_nf hq)
      refine v_iinc (n := 58) (x := nI i) (y := nI (i + 1)) (L' := [(0, .ref (zad G.1 8 0 0)), (1, .ref (zad G.1 2 b 0)), (2, .ref (zad G.1 3 b i2)), (3, .int x3), (4, .int (nI (i + 1)))]) dX6_measure_55 rfl rfl (nI_1 i) (by decide) rfl ?_
      refine v_goto (n := 38) dX6_measure_58 (by decide) ?_
      exact h
    · replace h := h.2 (bI_f hq)
      exact v_vret dX6_measure_54 rfl (Nat.le_of_ble_eq_true rfl) (Nat.le_of_ble_eq_true rfl) h

set_option maxRecDepth 20000 in
set_option maxHeartbeats 4000000 in
theorem wX6_shorten (G : Gl) {P : Option Value → St → Prop} {X : String → St → Prop} (b : Nat) (hb : b < 11) (i2 : Nat) (hi2 : i2 < 16) (μ : St)
    (h : VL G mX6_shorten P X 5 [(0, .ref (zad G.1 8 0 0)), (1, .ref (zad G.1 2 b 0)), (2, .ref (zad G.1 3 b i2)), (3, .int (nI 0)), (4, .int (nI 0))] [] μ) :
    Con G mX6_shorten [.ref (zad G.1 8 0 0), .ref (zad G.1 2 b 0), .ref (zad G.1 3 b i2)] μ P X := by
  refine con_of pn_X6 rfl (Nat.le_of_ble_eq_true rfl) ?_
  show VL G mX6_shorten P X 0 [(0, .ref (zad G.1 8 0 0)), (1, .ref (zad G.1 2 b 0)), (2, .ref (zad G.1 3 b i2))] [] μ
  refine v_iconst (n := 1) (x := nI 0) dX6_shorten_0 rfl (by decide) ?_
  refine v_istore_n (n := 2) (L' := [(0, .ref (zad G.1 8 0 0)), (1, .ref (zad G.1 2 b 0)), (2, .ref (zad G.1 3 b i2)), (3, .int (nI 0))]) dX6_shorten_1 rfl (by decide) rfl ?_
  refine v_iconst (n := 3) (x := nI 0) dX6_shorten_2 rfl (by decide) ?_
  refine v_istore (n := 5) (L' := [(0, .ref (zad G.1 8 0 0)), (1, .ref (zad G.1 2 b 0)), (2, .ref (zad G.1 3 b i2)), (3, .int (nI 0)), (4, .int (nI 0))]) dX6_shorten_3 rfl (by decide) rfl ?_
  exact h

set_option maxRecDepth 20000 in
set_option maxHeartbeats 4000000 in
theorem wX6_shorten_5 (G : Gl) {P : Option Value → St → Prop} {X : String → St → Prop} (b : Nat) (hb : b < 11) (i2 : Nat) (hi2 : i2 < 16) (y3 : Bool) (i : Nat) (μ : St)
    (h : ((μ 2 b 0 3 ≤ nI i → VL G mX6_shorten P X 71 [(0, .ref (zad G.1 8 0 0)), (1, .ref (zad G.1 2 b 0)), (2, .ref (zad G.1 3 b i2)), (3, .int (bI y3)), (4, .int (nI 0))] [] μ) ∧ (¬ μ 2 b 0 3 ≤ nI i → i < 6 ∧ ((iwl μ b i2 i = false → VL G mX6_shorten P X 5 [(0, .ref (zad G.1 8 0 0)), (1, .ref (zad G.1 2 b 0)), (2, .ref (zad G.1 3 b i2)), (3, .int (bI y3)), (4, .int (nI (i + 1)))] [] μ) ∧ (iwl μ b i2 i = true → Con G mX6_durationFrom [.ref (zad G.1 8 0 0), .int (μ 6 b i 1)] μ (fun v μ1 => ∃ r1 : Int32, v = some (.int r1) ∧ Con G mX6_shortenFrom [.ref (zad G.1 8 0 0), .int (μ 6 b i 0), .int ((μ 6 b i 5) + r1)] μ1 (fun v μ2 => ∃ r2 : Bool, v = some (.int (bI r2)) ∧ ((r2 = false → VL G mX6_shorten P X 5 [(0, .ref (zad G.1 8 0 0)), (1, .ref (zad G.1 2 b 0)), (2, .ref (zad G.1 3 b i2)), (3, .int (bI y3)), (4, .int (nI (i + 1)))] [] μ2) ∧ (r2 = true → VL G mX6_shorten P X 5 [(0, .ref (zad G.1 8 0 0)), (1, .ref (zad G.1 2 b 0)), (2, .ref (zad G.1 3 b i2)), (3, .int (nI 1)), (4, .int (nI (i + 1)))] [] μ2))) noX) noX))))) :
    VL G mX6_shorten P X 5 [(0, .ref (zad G.1 8 0 0)), (1, .ref (zad G.1 2 b 0)), (2, .ref (zad G.1 3 b i2)), (3, .int (bI y3)), (4, .int (nI i))] [] μ := by
  refine v_iload (n := 7) dX6_shorten_5 rfl rfl ?_
  refine v_aload_n (n := 8) dX6_shorten_7 rfl rfl ?_
  refine v_getf (n := 11) dX6_shorten_8 rfl fl_X6_24 (zok_2 hb) (rfl) ?_
  refine v_icmp_ge (n := 14) (t := 68) dX6_shorten_11 rfl (by decide) (fun hq => ?_) (fun hq => ?_)
  · replace h := h.1 hq
    refine v_iconst (n := 69) (x := nI 0) dX6_shorten_68 rfl (by decide) ?_
    refine v_istore (n := 71) (L' := [(0, .ref (zad G.1 8 0 0)), (1, .ref (zad G.1 2 b 0)), (2, .ref (zad G.1 3 b i2)), (3, .int (bI y3)), (4, .int (nI 0))]) dX6_shorten_69 rfl (by decide) rfl ?_
    exact h
  · replace h := h.2 hq
    refine v_aload_n (n := 15) dX6_shorten_14 rfl rfl ?_
    refine v_getf (n := 18) dX6_shorten_15 rfl fl_X6_30 (zok_2 hb) rfl ?_
    refine v_iload (n := 20) dX6_shorten_18 rfl rfl ?_
    obtain ⟨hf1, h⟩ := h
    refine v_aald (n := 21) (j := i) dX6_shorten_20 rfl (zok_20 hb) (by decide) rfl rfl hf1 rfl ?_
    refine v_astore (n := 23) (L' := [(0, .ref (zad G.1 8 0 0)), (1, .ref (zad G.1 2 b 0)), (2, .ref (zad G.1 3 b i2)), (3, .int (bI y3)), (4, .int (nI i)), (5, .ref (zad G.1 6 b i))]) dX6_shorten_21 rfl (by decide) rfl ?_
    refine v_aload_n (n := 24) dX6_shorten_23 rfl rfl ?_
    refine v_aload_n (n := 25) dX6_shorten_24 rfl rfl ?_
    refine v_aload (n := 27) dX6_shorten_25 rfl rfl ?_
    refine v_callV (n := 30) (k := 2) (b := b) (i := 0) (As := [.ref (zad G.1 3 b i2), .ref (zad G.1 6 b i)]) (rest := []) dX6_shorten_27 rfl lk_X6_34 rfl rfl (Nat.le_of_ble_eq_true rfl) ⟨Nat.le_of_ble_eq_true rfl, Nat.le_of_ble_eq_true rfl, Nat.le_of_ble_eq_true rfl, Nat.le_of_ble_eq_true rfl⟩ (zok_2 hb) (s_X0_isWayFor G b hb i2 hi2 i hf1 μ) (fun v μ9 hp => ?_) (fun _ _ hp => False.elim hp)
    rw [hp.1, hp.2]
    refine v_norm (st' := [.int (bI (iwl μ b i2 i))]) (cells' := 0) (slots' := 0) rfl rfl rfl ?_
    refine v_if_eq (n := 33) (t := 62) dX6_shorten_30 rfl (by decide) (fun hq => ?_) (fun hq => ?_)
    · replace h := h.1 (bI_f hq)
      refine v_iinc (n := 65) (x := nI i) (y := nI (i + 1)) (L' := [(0, .ref (zad G.1 8 0 0)), (1, .ref (zad G.1 2 b 0)), (2, .ref (zad G.1 3 b i2)), (3, .int (bI y3)), (4, .int (nI (i + 1))), (5, .ref (zad G.1 6 b i))]) dX6_shorten_62 rfl rfl (nI_1 i) (by decide) rfl ?_
      refine v_goto (n := 5) dX6_shorten_65 (by decide) ?_
      exact v_pick [0, 1, 2, 3, 4] rfl h
    · replace h := h.2 (bI_nf hq)
      refine v_aload_n (n := 34) dX6_shorten_33 rfl rfl ?_
      refine v_aload (n := 36) dX6_shorten_34 rfl rfl ?_
      refine v_getf (n := 39) dX6_shorten_36 rfl fl_X6_38 (zok_6 hb hf1) (rfl) ?_
      refine v_aload (n := 41) dX6_shorten_39 rfl rfl ?_
      refine v_getf (n := 44) dX6_shorten_41 rfl fl_X6_43 (zok_6 hb hf1) (rfl) ?_
      refine v_aload_n (n := 45) dX6_shorten_44 rfl rfl ?_
      refine v_aload (n := 47) dX6_shorten_45 rfl rfl ?_
      refine v_getf (n := 50) dX6_shorten_47 rfl fl_X6_46 (zok_6 hb hf1) (rfl) ?_
      refine v_callV (n := 53) (k := 8) (b := 0) (i := 0) (As := [.int (μ 6 b i 1)]) (rest := [.int (μ 6 b i 5), .int (μ 6 b i 0), .ref (zad G.1 8 0 0)]) dX6_shorten_50 rfl lk_X6_49 rfl rfl (Nat.le_of_ble_eq_true rfl) ⟨Nat.le_of_ble_eq_true rfl, Nat.le_of_ble_eq_true rfl, Nat.le_of_ble_eq_true rfl, Nat.le_of_ble_eq_true rfl⟩ zokc_8 h (fun v μ1 h => ?_) (fun _ _ hp => False.elim hp)
      obtain ⟨r1, rfl, h⟩ := h
      refine v_norm (st' := [.int r1, .int (μ 6 b i 5), .int (μ 6 b i 0), .ref (zad G.1 8 0 0)]) (cells' := 0) (slots' := 0) rfl rfl rfl ?_
      refine v_iadd (n := 54) dX6_shorten_53 rfl ?_
      refine v_callV (n := 57) (k := 8) (b := 0) (i := 0) (As := [.int (μ 6 b i 0), .int ((μ 6 b i 5) + r1)]) (rest := []) dX6_shorten_54 rfl lk_X6_53 rfl rfl (Nat.le_of_ble_eq_true rfl) ⟨Nat.le_of_ble_eq_true rfl, Nat.le_of_ble_eq_true rfl, Nat.le_of_ble_eq_true rfl, Nat.le_of_ble_eq_true rfl⟩ zokc_8 h (fun v μ2 h => ?_) (fun _ _ hp => False.elim hp)
      obtain ⟨r2, rfl, h⟩ := h
      refine v_norm (st' := [.int (bI r2)]) (cells' := 0) (slots' := 0) rfl rfl rfl ?_
      refine v_if_eq (n := 60) (t := 62) dX6_shorten_57 rfl (by decide) (fun hq => ?_) (fun hq => ?_)
      · replace h := h.1 (bI_f hq)
        refine v_iinc (n := 65) (x := nI i) (y := nI (i + 1)) (L' := [(0, .ref (zad G.1 8 0 0)), (1, .ref (zad G.1 2 b 0)), (2, .ref (zad G.1 3 b i2)), (3, .int (bI y3)), (4, .int (nI (i + 1))), (5, .ref (zad G.1 6 b i))]) dX6_shorten_62 rfl rfl (nI_1 i) (by decide) rfl ?_
        refine v_goto (n := 5) dX6_shorten_65 (by decide) ?_
        exact v_pick [0, 1, 2, 3, 4] rfl h
      · replace h := h.2 (bI_nf hq)
        refine v_iconst (n := 61) (x := nI 1) dX6_shorten_60 rfl (by decide) ?_
        refine v_istore_n (n := 62) (L' := [(0, .ref (zad G.1 8 0 0)), (1, .ref (zad G.1 2 b 0)), (2, .ref (zad G.1 3 b i2)), (3, .int (nI 1)), (4, .int (nI i)), (5, .ref (zad G.1 6 b i))]) dX6_shorten_61 rfl (by decide) rfl ?_
        refine v_iinc (n := 65) (x := nI i) (y := nI (i + 1)) (L' := [(0, .ref (zad G.1 8 0 0)), (1, .ref (zad G.1 2 b 0)), (2, .ref (zad G.1 3 b i2)), (3, .int (nI 1)), (4, .int (nI (i + 1))), (5, .ref (zad G.1 6 b i))]) dX6_shorten_62 rfl rfl (nI_1 i) (by decide) rfl ?_
        refine v_goto (n := 5) dX6_shorten_65 (by decide) ?_
        exact v_pick [0, 1, 2, 3, 4] rfl h

set_option maxRecDepth 20000 in
set_option maxHeartbeats 4000000 in
theorem wX6_shorten_71 (G : Gl) {P : Option Value → St → Prop} {X : String → St → Prop} (b : Nat) (hb : b < 11) (i2 : Nat) (hi2 : i2 < 16) (y3 : Bool) (i : Nat) (μ : St)
    (h : ((μ 2 b 0 4 ≤ nI i → P (some (.int (bI y3))) μ) ∧ (¬ μ 2 b 0 4 ≤ nI i → i < 10 ∧ ((iwp μ b i2 i = false → VL G mX6_shorten P X 71 [(0, .ref (zad G.1 8 0 0)), (1, .ref (zad G.1 2 b 0)), (2, .ref (zad G.1 3 b i2)), (3, .int (bI y3)), (4, .int (nI (i + 1)))] [] μ) ∧ (iwp μ b i2 i = true → Con G mX6_durationFrom [.ref (zad G.1 8 0 0), .int (μ 7 b i 1)] μ (fun v μ1 => ∃ r1 : Int32, v = some (.int r1) ∧ Con G mX6_shortenFrom [.ref (zad G.1 8 0 0), .int (μ 7 b i 0), .int ((rfo μ b i i2) + r1)] μ1 (fun v μ2 => ∃ r2 : Bool, v = some (.int (bI r2)) ∧ ((r2 = false → VL G mX6_shorten P X 71 [(0, .ref (zad G.1 8 0 0)), (1, .ref (zad G.1 2 b 0)), (2, .ref (zad G.1 3 b i2)), (3, .int (bI y3)), (4, .int (nI (i + 1)))] [] μ2) ∧ (r2 = true → VL G mX6_shorten P X 71 [(0, .ref (zad G.1 8 0 0)), (1, .ref (zad G.1 2 b 0)), (2, .ref (zad G.1 3 b i2)), (3, .int (nI 1)), (4, .int (nI (i + 1)))] [] μ2))) noX) noX))))) :
    VL G mX6_shorten P X 71 [(0, .ref (zad G.1 8 0 0)), (1, .ref (zad G.1 2 b 0)), (2, .ref (zad G.1 3 b i2)), (3, .int (bI y3)), (4, .int (nI i))] [] μ := by
  refine v_iload (n := 73) dX6_shorten_71 rfl rfl ?_
  refine v_aload_n (n := 74) dX6_shorten_73 rfl rfl ?_
  refine v_getf (n := 77) dX6_shorten_74 rfl fl_X6_57 (zok_2 hb) (rfl) ?_
  refine v_icmp_ge (n := 80) (t := 135) dX6_shorten_77 rfl (by decide) (fun hq => ?_) (fun hq => ?_)
  · replace h := h.1 hq
    refine v_iload_n (n := 136) dX6_shorten_135 rfl rfl ?_
    exact v_zret dX6_shorten_136 rfl (nar_bI _) (Nat.le_of_ble_eq_true rfl) (Nat.le_of_ble_eq_true rfl) h
  · replace h := h.2 hq
    refine v_aload_n (n := 81) dX6_shorten_80 rfl rfl ?_
    refine v_getf (n := 84) dX6_shorten_81 rfl fl_X6_60 (zok_2 hb) rfl ?_
    refine v_iload (n := 86) dX6_shorten_84 rfl rfl ?_
    obtain ⟨hf1, h⟩ := h
    refine v_aald (n := 87) (j := i) dX6_shorten_86 rfl (zok_21 hb) (by decide) rfl rfl hf1 rfl ?_
    refine v_astore (n := 89) (L' := [(0, .ref (zad G.1 8 0 0)), (1, .ref (zad G.1 2 b 0)), (2, .ref (zad G.1 3 b i2)), (3, .int (bI y3)), (4, .int (nI i)), (5, .ref (zad G.1 7 b i))]) dX6_shorten_87 rfl (by decide) rfl ?_
    refine v_aload_n (n := 90) dX6_shorten_89 rfl rfl ?_
    refine v_aload_n (n := 91) dX6_shorten_90 rfl rfl ?_
    refine v_aload (n := 93) dX6_shorten_91 rfl rfl ?_
    refine v_callV (n := 96) (k := 2) (b := b) (i := 0) (As := [.ref (zad G.1 3 b i2), .ref (zad G.1 7 b i)]) (rest := []) dX6_shorten_93 rfl lk_X6_64 rfl rfl (Nat.le_of_ble_eq_true rfl) ⟨Nat.le_of_ble_eq_true rfl, Nat.le_of_ble_eq_true rfl, Nat.le_of_ble_eq_true rfl, Nat.le_of_ble_eq_true rfl⟩ (zok_2 hb) (s_X0_isWayFor_ G b hb i2 hi2 i hf1 μ) (fun v μ9 hp => ?_) (fun _ _ hp => False.elim hp)
    rw [hp.1, hp.2]
    refine v_norm (st' := [.int (bI (iwp μ b i2 i))]) (cells' := 0) (slots' := 0) rfl rfl rfl ?_
    refine v_if_eq (n := 99) (t := 129) dX6_shorten_96 rfl (by decide) (fun hq => ?_) (fun hq => ?_)
    · replace h := h.1 (bI_f hq)
      refine v_iinc (n := 132) (x := nI i) (y := nI (i + 1)) (L' := [(0, .ref (zad G.1 8 0 0)), (1, .ref (zad G.1 2 b 0)), (2, .ref (zad G.1 3 b i2)), (3, .int (bI y3)), (4, .int (nI (i + 1))), (5, .ref (zad G.1 7 b i))]) dX6_shorten_129 rfl rfl (nI_1 i) (by decide) rfl ?_
      refine v_goto (n := 71) dX6_shorten_132 (by decide) ?_
      exact v_pick [0, 1, 2, 3, 4] rfl h
    · replace h := h.2 (bI_nf hq)
      refine v_aload_n (n := 100) dX6_shorten_99 rfl rfl ?_
      refine v_aload (n := 102) dX6_shorten_100 rfl rfl ?_
      refine v_getf (n := 105) dX6_shorten_102 rfl fl_X6_67 (zok_7 hb hf1) (rfl) ?_
      refine v_aload (n := 107) dX6_shorten_105 rfl rfl ?_
      refine v_aload_n (n := 108) dX6_shorten_107 rfl rfl ?_
      refine v_callV (n := 111) (k := 7) (b := b) (i := i) (As := [.ref (zad G.1 3 b i2)]) (rest := [.int (μ 7 b i 0), .ref (zad G.1 8 0 0)]) dX6_shorten_108 rfl lk_X6_72 rfl rfl (Nat.le_of_ble_eq_true rfl) ⟨Nat.le_of_ble_eq_true rfl, Nat.le_of_ble_eq_true rfl, Nat.le_of_ble_eq_true rfl, Nat.le_of_ble_eq_true rfl⟩ (zok_7 hb hf1) (s_X5_restFor G b hb i hf1 i2 hi2 μ) (fun v μ9 hp => ?_) (fun _ _ hp => False.elim hp)
      rw [hp.1, hp.2]
      refine v_norm (st' := [.int (rfo μ b i i2), .int (μ 7 b i 0), .ref (zad G.1 8 0 0)]) (cells' := 0) (slots' := 0) rfl rfl rfl ?_
      refine v_aload_n (n := 112) dX6_shorten_111 rfl rfl ?_
      refine v_aload (n := 114) dX6_shorten_112 rfl rfl ?_
      refine v_getf (n := 117) dX6_shorten_114 rfl fl_X6_76 (zok_7 hb hf1) (rfl) ?_
      refine v_callV (n := 120) (k := 8) (b := 0) (i := 0) (As := [.int (μ 7 b i 1)]) (rest := [.int (rfo μ b i i2), .int (μ 7 b i 0), .ref (zad G.1 8 0 0)]) dX6_shorten_117 rfl lk_X6_49 rfl rfl (Nat.le_of_ble_eq_true rfl) ⟨Nat.le_of_ble_eq_true rfl, Nat.le_of_ble_eq_true rfl, Nat.le_of_ble_eq_true rfl, Nat.le_of_ble_eq_true rfl⟩ zokc_8 h (fun v μ1 h => ?_) (fun _ _ hp => False.elim hp)
      obtain ⟨r1, rfl, h⟩ := h
      refine v_norm (st' := [.int r1, .int (rfo μ b i i2), .int (μ 7 b i 0), .ref (zad G.1 8 0 0)]) (cells' := 0) (slots' := 0) rfl rfl rfl ?_
      refine v_iadd (n := 121) dX6_shorten_120 rfl ?_
      refine v_callV (n := 124) (k := 8) (b := 0) (i := 0) (As := [.int (μ 7 b i 0), .int ((rfo μ b i i2) + r1)]) (rest := []) dX6_shorten_121 rfl lk_X6_53 rfl rfl (Nat.le_of_ble_eq_true rfl) ⟨Nat.le_of_ble_eq_true rfl, Nat.le_of_ble_eq_true rfl, Nat.le_of_ble_eq_true rfl, Nat.le_of_ble_eq_true rfl⟩ zokc_8 h (fun v μ2 h => ?_) (fun _ _ hp => False.elim hp)
      obtain ⟨r2, rfl, h⟩ := h
      refine v_norm (st' := [.int (bI r2)]) (cells' := 0) (slots' := 0) rfl rfl rfl ?_
      refine v_if_eq (n := 127) (t := 129) dX6_shorten_124 rfl (by decide) (fun hq => ?_) (fun hq => ?_)
      · replace h := h.1 (bI_f hq)
        refine v_iinc (n := 132) (x := nI i) (y := nI (i + 1)) (L' := [(0, .ref (zad G.1 8 0 0)), (1, .ref (zad G.1 2 b 0)), (2, .ref (zad G.1 3 b i2)), (3, .int (bI y3)), (4, .int (nI (i + 1))), (5, .ref (zad G.1 7 b i))]) dX6_shorten_129 rfl rfl (nI_1 i) (by decide) rfl ?_
        refine v_goto (n := 71) dX6_shorten_132 (by decide) ?_
        exact v_pick [0, 1, 2, 3, 4] rfl h
      · replace h := h.2 (bI_nf hq)
        refine v_iconst (n := 128) (x := nI 1) dX6_shorten_127 rfl (by decide) ?_
        refine v_istore_n (n := 129) (L' := [(0, .ref (zad G.1 8 0 0)), (1, .ref (zad G.1 2 b 0)), (2, .ref (zad G.1 3 b i2)), (3, .int (nI 1)), (4, .int (nI i)), (5, .ref (zad G.1 7 b i))]) dX6_shorten_128 rfl (by decide) rfl ?_
        refine v_iinc (n := 132) (x := nI i) (y := nI (i + 1)) (L' := [(0, .ref (zad G.1 8 0 0)), (1, .ref (zad G.1 2 b 0)), (2, .ref (zad G.1 3 b i2)), (3, .int (nI 1)), (4, .int (nI (i + 1))), (5, .ref (zad G.1 7 b i))]) dX6_shorten_129 rfl rfl (nI_1 i) (by decide) rfl ?_
        refine v_goto (n := 71) dX6_shorten_132 (by decide) ?_
        exact v_pick [0, 1, 2, 3, 4] rfl h

set_option maxRecDepth 20000 in
set_option maxHeartbeats 4000000 in
theorem wX6_shortenFrom (G : Gl) {P : Option Value → St → Prop} {X : String → St → Prop} (x1 : Int32) (x2 : Int32) (μ : St)
    (h : ((isSt x1 = false → P (some (.int (nI 0))) μ) ∧ (isSt x1 = true → ∃ j1 : Nat, x1 = nI j1 ∧ j1 < 8 ∧ ((x2 < μ 25 0 0 j1 → ∃ j2 : Nat, x1 = nI j2 ∧ j2 < 8 ∧ P (some (.int (nI 1))) (up μ 25 0 0 j2 x2)) ∧ (¬ x2 < μ 25 0 0 j1 → P (some (.int (nI 0))) μ))))) :
    Con G mX6_shortenFrom [.ref (zad G.1 8 0 0), .int x1, .int x2] μ P X := by
  refine con_of pn_X6 rfl (Nat.le_of_ble_eq_true rfl) ?_
  show VL G mX6_shortenFrom P X 0 [(0, .ref (zad G.1 8 0 0)), (1, .int x1), (2, .int x2)] [] μ
  refine v_iload_n (n := 1) dX6_shortenFrom_0 rfl rfl ?_
  refine v_callN (n := 4) (As := [.int x1]) (rest := []) dX6_shortenFrom_1 rfl lk_X6_15 rfl rfl (Nat.le_of_ble_eq_true rfl) ⟨Nat.le_of_ble_eq_true rfl, Nat.le_of_ble_eq_true rfl, Nat.le_of_ble_eq_true rfl, Nat.le_of_ble_eq_true rfl⟩ (s_X7_isStation G x1 μ) (fun v μ9 hp => ?_) (fun _ _ hp => False.elim hp)
  rw [hp.1, hp.2]
  refine v_norm (st' := [.int (bI (isSt x1))]) (cells' := 0) (slots' := 0) rfl rfl rfl ?_
  refine v_if_eq (n := 7) (t := 17) dX6_shortenFrom_4 rfl (by decide) (fun hq => ?_) (fun hq => ?_)
  · replace h := h.1 (bI_f hq)
    refine v_iconst (n := 18) (x := nI 0) dX6_shortenFrom_17 rfl (by decide) ?_
    exact v_zret dX6_shortenFrom_18 rfl (by decide) (Nat.le_of_ble_eq_true rfl) (Nat.le_of_ble_eq_true rfl) h
  · replace h := h.2 (bI_nf hq)
    refine v_iload_n (n := 8) dX6_shortenFrom_7 rfl rfl ?_
    refine v_aload_n (n := 9) dX6_shortenFrom_8 rfl rfl ?_
    refine v_getf (n := 12) dX6_shortenFrom_9 rfl fl_X6_9 zokc_8 rfl ?_
    refine v_iload_n (n := 13) dX6_shortenFrom_12 rfl rfl ?_
    obtain ⟨j1, ej1, hj1, h⟩ := h
    refine v_iald (n := 14) (j := j1) dX6_shortenFrom_13 rfl zokc_25 (by decide) rfl ej1 hj1 (rfl) ?_
    refine v_icmp_lt (n := 17) (t := 19) dX6_shortenFrom_14 rfl (by decide) (fun hq => ?_) (fun hq => ?_)
    · replace h := h.1 hq
      refine v_aload_n (n := 20) dX6_shortenFrom_19 rfl rfl ?_
      refine v_getf (n := 23) dX6_shortenFrom_20 rfl fl_X6_9 zokc_8 rfl ?_
      refine v_iload_n (n := 24) dX6_shortenFrom_23 rfl rfl ?_
      refine v_iload_n (n := 25) dX6_shortenFrom_24 rfl rfl ?_
      obtain ⟨j2, ej2, hj2, h⟩ := h
      refine v_iast (n := 26) (j := j2) dX6_shortenFrom_25 rfl zokc_25 (by decide) (by decide) rfl ej2 hj2 (fun _ => rfl) ?_
      refine v_iconst (n := 27) (x := nI 1) dX6_shortenFrom_26 rfl (by decide) ?_
      exact v_zret dX6_shortenFrom_27 rfl (by decide) (Nat.le_of_ble_eq_true rfl) (Nat.le_of_ble_eq_true rfl) h
    · replace h := h.2 hq
      refine v_iconst (n := 18) (x := nI 0) dX6_shortenFrom_17 rfl (by decide) ?_
      exact v_zret dX6_shortenFrom_18 rfl (by decide) (Nat.le_of_ble_eq_true rfl) (Nat.le_of_ble_eq_true rfl) h

set_option maxRecDepth 20000 in
set_option maxHeartbeats 4000000 in
theorem wX6_bestPartFrom (G : Gl) {P : Option Value → St → Prop} {X : String → St → Prop} (b : Nat) (hb : b < 11) (i2 : Nat) (hi2 : i2 < 16) (x3 : Int32) (μ : St)
    (h : Con G mX6_durationFrom [.ref (zad G.1 8 0 0), .int x3] μ (fun v μ1 => ∃ r1 : Int32, v = some (.int r1) ∧ ((r1 < nI 1000000 → VL G mX6_bestPartFrom P X 19 [(0, .ref (zad G.1 8 0 0)), (1, .ref (zad G.1 2 b 0)), (2, .ref (zad G.1 3 b i2)), (3, .int x3), (4, .int r1), (5, .int (nI 0))] [] μ1) ∧ (¬ r1 < nI 1000000 → P (some (.int (-1 : Int32))) μ1))) noX) :
    Con G mX6_bestPartFrom [.ref (zad G.1 8 0 0), .ref (zad G.1 2 b 0), .ref (zad G.1 3 b i2), .int x3] μ P X := by
  refine con_of pn_X6 rfl (Nat.le_of_ble_eq_true rfl) ?_
  show VL G mX6_bestPartFrom P X 0 [(0, .ref (zad G.1 8 0 0)), (1, .ref (zad G.1 2 b 0)), (2, .ref (zad G.1 3 b i2)), (3, .int x3)] [] μ
  refine v_aload_n (n := 1) dX6_bestPartFrom_0 rfl rfl ?_
  refine v_iload_n (n := 2) dX6_bestPartFrom_1 rfl rfl ?_
  refine v_callV (n := 5) (k := 8) (b := 0) (i := 0) (As := [.int x3]) (rest := []) dX6_bestPartFrom_2 rfl lk_X6_49 rfl rfl (Nat.le_of_ble_eq_true rfl) ⟨Nat.le_of_ble_eq_true rfl, Nat.le_of_ble_eq_true rfl, Nat.le_of_ble_eq_true rfl, Nat.le_of_ble_eq_true rfl⟩ zokc_8 h (fun v μ1 h => ?_) (fun _ _ hp => False.elim hp)
  obtain ⟨r1, rfl, h⟩ := h
  refine v_norm (st' := [.int r1]) (cells' := 0) (slots' := 0) rfl rfl rfl ?_
  refine v_istore (n := 7) (L' := [(0, .ref (zad G.1 8 0 0)), (1, .ref (zad G.1 2 b 0)), (2, .ref (zad G.1 3 b i2)), (3, .int x3), (4, .int r1)]) dX6_bestPartFrom_5 rfl (by decide) rfl ?_
  refine v_iload (n := 9) dX6_bestPartFrom_7 rfl rfl ?_
  refine v_ldc (n := 11) (x := 1000000) dX6_bestPartFrom_9 rfl lc_X6_19 ?_
  refine v_top (y := nI 1000000) (by decide) ?_
  refine v_icmp_lt (n := 14) (t := 16) dX6_bestPartFrom_11 rfl (by decide) (fun hq => ?_) (fun hq => ?_)
  · replace h := h.1 hq
    refine v_iconst (n := 17) (x := nI 0) dX6_bestPartFrom_16 rfl (by decide) ?_
    refine v_istore (n := 19) (L' := [(0, .ref (zad G.1 8 0 0)), (1, .ref (zad G.1 2 b 0)), (2, .ref (zad G.1 3 b i2)), (3, .int x3), (4, .int r1), (5, .int (nI 0))]) dX6_bestPartFrom_17 rfl (by decide) rfl ?_
    exact h
  · replace h := h.2 hq
    refine v_iconst (n := 15) (x := (-1 : Int32)) dX6_bestPartFrom_14 rfl (by decide) ?_
    exact v_iret dX6_bestPartFrom_15 rfl (Nat.le_of_ble_eq_true rfl) (Nat.le_of_ble_eq_true rfl) h

set_option maxRecDepth 20000 in
set_option maxHeartbeats 4000000 in
theorem wX6_bestPartFrom_19 (G : Gl) {P : Option Value → St → Prop} {X : String → St → Prop} (b : Nat) (hb : b < 11) (i2 : Nat) (hi2 : i2 < 16) (x3 : Int32) (y4 : Int32) (i : Nat) (μ : St)
    (h : ((μ 2 b 0 3 ≤ nI i → VL G mX6_bestPartFrom P X 88 [(0, .ref (zad G.1 8 0 0)), (1, .ref (zad G.1 2 b 0)), (2, .ref (zad G.1 3 b i2)), (3, .int x3), (4, .int y4), (5, .int (nI 0))] [] μ) ∧ (¬ μ 2 b 0 3 ≤ nI i → i < 6 ∧ ((¬ μ 6 b i 0 = x3 → VL G mX6_bestPartFrom P X 19 [(0, .ref (zad G.1 8 0 0)), (1, .ref (zad G.1 2 b 0)), (2, .ref (zad G.1 3 b i2)), (3, .int x3), (4, .int y4), (5, .int (nI (i + 1)))] [] μ) ∧ (μ 6 b i 0 = x3 → ((iwl μ b i2 i = false → VL G mX6_bestPartFrom P X 19 [(0, .ref (zad G.1 8 0 0)), (1, .ref (zad G.1 2 b 0)), (2, .ref (zad G.1 3 b i2)), (3, .int x3), (4, .int y4), (5, .int (nI (i + 1)))] [] μ) ∧ (iwl μ b i2 i = true → Con G mX6_durationFrom [.ref (zad G.1 8 0 0), .int (μ 6 b i 1)] μ (fun v μ1 => ∃ r1 : Int32, v = some (.int r1) ∧ ((¬ (μ 6 b i 5) + r1 = y4 → VL G mX6_bestPartFrom P X 19 [(0, .ref (zad G.1 8 0 0)), (1, .ref (zad G.1 2 b 0)), (2, .ref (zad G.1 3 b i2)), (3, .int x3), (4, .int y4), (5, .int (nI (i + 1)))] [] μ1) ∧ ((μ 6 b i 5) + r1 = y4 → P (some (.int (nI i))) μ1))) noX))))))) :
    VL G mX6_bestPartFrom P X 19 [(0, .ref (zad G.1 8 0 0)), (1, .ref (zad G.1 2 b 0)), (2, .ref (zad G.1 3 b i2)), (3, .int x3), (4, .int y4), (5, .int (nI i))] [] μ := by
  refine v_iload (n := 21) dX6_bestPartFrom_19 rfl rfl ?_
  refine v_aload_n (n := 22) dX6_bestPartFrom_21 rfl rfl ?_
  refine v_getf (n := 25) dX6_bestPartFrom_22 rfl fl_X6_24 (zok_2 hb) (rfl) ?_
  refine v_icmp_ge (n := 28) (t := 85) dX6_bestPartFrom_25 rfl (by decide) (fun hq => ?_) (fun hq => ?_)
  · replace h := h.1 hq
    refine v_iconst (n := 86) (x := nI 0) dX6_bestPartFrom_85 rfl (by decide) ?_
    refine v_istore (n := 88) (L' := [(0, .ref (zad G.1 8 0 0)), (1, .ref (zad G.1 2 b 0)), (2, .ref (zad G.1 3 b i2)), (3, .int x3), (4, .int y4), (5, .int (nI 0))]) dX6_bestPartFrom_86 rfl (by decide) rfl ?_
    exact h
  · replace h := h.2 hq
    refine v_aload_n (n := 29) dX6_bestPartFrom_28 rfl rfl ?_
    refine v_getf (n := 32) dX6_bestPartFrom_29 rfl fl_X6_30 (zok_2 hb) rfl ?_
    refine v_iload (n := 34) dX6_bestPartFrom_32 rfl rfl ?_
    obtain ⟨hf1, h⟩ := h
    refine v_aald (n := 35) (j := i) dX6_bestPartFrom_34 rfl (zok_20 hb) (by decide) rfl rfl hf1 rfl ?_
    refine v_astore (n := 37) (L' := [(0, .ref (zad G.1 8 0 0)), (1, .ref (zad G.1 2 b 0)), (2, .ref (zad G.1 3 b i2)), (3, .int x3), (4, .int y4), (5, .int (nI i)), (6, .ref (zad G.1 6 b i))]) dX6_bestPartFrom_35 rfl (by decide) rfl ?_
    refine v_aload (n := 39) dX6_bestPartFrom_37 rfl rfl ?_
    refine v_getf (n := 42) dX6_bestPartFrom_39 rfl fl_X6_38 (zok_6 hb hf1) (rfl) ?_
    refine v_iload_n (n := 43) dX6_bestPartFrom_42 rfl rfl ?_
    refine v_icmp_ne (n := 46) (t := 79) dX6_bestPartFrom_43 rfl (by decide) (fun hq => ?_) (fun hq => ?_)
    · replace h := h.1 hq
      refine v_iinc (n := 82) (x := nI i) (y := nI (i + 1)) (L' := [(0, .ref (zad G.1 8 0 0)), (1, .ref (zad G.1 2 b 0)), (2, .ref (zad G.1 3 b i2)), (3, .int x3), (4, .int y4), (5, .int (nI (i + 1))), (6, .ref (zad G.1 6 b i))]) dX6_bestPartFrom_79 rfl rfl (nI_1 i) (by decide) rfl ?_
      refine v_goto (n := 19) dX6_bestPartFrom_82 (by decide) ?_
      exact v_pick [0, 1, 2, 3, 4, 5] rfl h
    · replace h := h.2 hq
      refine v_aload_n (n := 47) dX6_bestPartFrom_46 rfl rfl ?_
      refine v_aload_n (n := 48) dX6_bestPartFrom_47 rfl rfl ?_
      refine v_aload (n := 50) dX6_bestPartFrom_48 rfl rfl ?_
      refine v_callV (n := 53) (k := 2) (b := b) (i := 0) (As := [.ref (zad G.1 3 b i2), .ref (zad G.1 6 b i)]) (rest := []) dX6_bestPartFrom_50 rfl lk_X6_34 rfl rfl (Nat.le_of_ble_eq_true rfl) ⟨Nat.le_of_ble_eq_true rfl, Nat.le_of_ble_eq_true rfl, Nat.le_of_ble_eq_true rfl, Nat.le_of_ble_eq_true rfl⟩ (zok_2 hb) (s_X0_isWayFor G b hb i2 hi2 i hf1 μ) (fun v μ9 hp => ?_) (fun _ _ hp => False.elim hp)
      rw [hp.1, hp.2]
      refine v_norm (st' := [.int (bI (iwl μ b i2 i))]) (cells' := 0) (slots' := 0) rfl rfl rfl ?_
      refine v_if_eq (n := 56) (t := 79) dX6_bestPartFrom_53 rfl (by decide) (fun hq => ?_) (fun hq => ?_)
      · replace h := h.1 (bI_f hq)
        refine v_iinc (n := 82) (x := nI i) (y := nI (i + 1)) (L' := [(0, .ref (zad G.1 8 0 0)), (1, .ref (zad G.1 2 b 0)), (2, .ref (zad G.1 3 b i2)), (3, .int x3), (4, .int y4), (5, .int (nI (i + 1))), (6, .ref (zad G.1 6 b i))]) dX6_bestPartFrom_79 rfl rfl (nI_1 i) (by decide) rfl ?_
        refine v_goto (n := 19) dX6_bestPartFrom_82 (by decide) ?_
        exact v_pick [0, 1, 2, 3, 4, 5] rfl h
      · replace h := h.2 (bI_nf hq)
        refine v_aload (n := 58) dX6_bestPartFrom_56 rfl rfl ?_
        refine v_getf (n := 61) dX6_bestPartFrom_58 rfl fl_X6_43 (zok_6 hb hf1) (rfl) ?_
        refine v_aload_n (n := 62) dX6_bestPartFrom_61 rfl rfl ?_
        refine v_aload (n := 64) dX6_bestPartFrom_62 rfl rfl ?_
        refine v_getf (n := 67) dX6_bestPartFrom_64 rfl fl_X6_46 (zok_6 hb hf1) (rfl) ?_
        refine v_callV (n := 70) (k := 8) (b := 0) (i := 0) (As := [.int (μ 6 b i 1)]) (rest := [.int (μ 6 b i 5)]) dX6_bestPartFrom_67 rfl lk_X6_49 rfl rfl (Nat.le_of_ble_eq_true rfl) ⟨Nat.le_of_ble_eq_true rfl, Nat.le_of_ble_eq_true rfl, Nat.le_of_ble_eq_true rfl, Nat.le_of_ble_eq_true rfl⟩ zokc_8 h (fun v μ1 h => ?_) (fun _ _ hp => False.elim hp)
        obtain ⟨r1, rfl, h⟩ := h
        refine v_norm (st' := [.int r1, .int (μ 6 b i 5)]) (cells' := 0) (slots' := 0) rfl rfl rfl ?_
        refine v_iadd (n := 71) dX6_bestPartFrom_70 rfl ?_
        refine v_iload (n := 73) dX6_bestPartFrom_71 rfl rfl ?_
        refine v_icmp_ne (n := 76) (t := 79) dX6_bestPartFrom_73 rfl (by decide) (fun hq => ?_) (fun hq => ?_)
        · replace h := h.1 hq
          refine v_iinc (n := 82) (x := nI i) (y := nI (i + 1)) (L' := [(0, .ref (zad G.1 8 0 0)), (1, .ref (zad G.1 2 b 0)), (2, .ref (zad G.1 3 b i2)), (3, .int x3), (4, .int y4), (5, .int (nI (i + 1))), (6, .ref (zad G.1 6 b i))]) dX6_bestPartFrom_79 rfl rfl (nI_1 i) (by decide) rfl ?_
          refine v_goto (n := 19) dX6_bestPartFrom_82 (by decide) ?_
          exact v_pick [0, 1, 2, 3, 4, 5] rfl h
        · replace h := h.2 hq
          refine v_iload (n := 78) dX6_bestPartFrom_76 rfl rfl ?_
          exact v_iret dX6_bestPartFrom_78 rfl (Nat.le_of_ble_eq_true rfl) (Nat.le_of_ble_eq_true rfl) h

set_option maxRecDepth 20000 in
set_option maxHeartbeats 4000000 in
theorem wX6_bestPartFrom_88 (G : Gl) {P : Option Value → St → Prop} {X : String → St → Prop} (b : Nat) (hb : b < 11) (i2 : Nat) (hi2 : i2 < 16) (x3 : Int32) (y4 : Int32) (i : Nat) (μ : St)
    (h : ((μ 2 b 0 4 ≤ nI i → P (some (.int (-1 : Int32))) μ) ∧ (¬ μ 2 b 0 4 ≤ nI i → i < 10 ∧ ((¬ μ 7 b i 0 = x3 → VL G mX6_bestPartFrom P X 88 [(0, .ref (zad G.1 8 0 0)), (1, .ref (zad G.1 2 b 0)), (2, .ref (zad G.1 3 b i2)), (3, .int x3), (4, .int y4), (5, .int (nI (i + 1)))] [] μ) ∧ (μ 7 b i 0 = x3 → ((iwp μ b i2 i = false → VL G mX6_bestPartFrom P X 88 [(0, .ref (zad G.1 8 0 0)), (1, .ref (zad G.1 2 b 0)), (2, .ref (zad G.1 3 b i2)), (3, .int x3), (4, .int y4), (5, .int (nI (i + 1)))] [] μ) ∧ (iwp μ b i2 i = true → Con G mX6_durationFrom [.ref (zad G.1 8 0 0), .int (μ 7 b i 1)] μ (fun v μ1 => ∃ r1 : Int32, v = some (.int r1) ∧ ((¬ (rfo μ b i i2) + r1 = y4 → VL G mX6_bestPartFrom P X 88 [(0, .ref (zad G.1 8 0 0)), (1, .ref (zad G.1 2 b 0)), (2, .ref (zad G.1 3 b i2)), (3, .int x3), (4, .int y4), (5, .int (nI (i + 1)))] [] μ1) ∧ ((rfo μ b i i2) + r1 = y4 → P (some (.int (nI (100 + i)))) μ1))) noX))))))) :
    VL G mX6_bestPartFrom P X 88 [(0, .ref (zad G.1 8 0 0)), (1, .ref (zad G.1 2 b 0)), (2, .ref (zad G.1 3 b i2)), (3, .int x3), (4, .int y4), (5, .int (nI i))] [] μ := by
  refine v_iload (n := 90) dX6_bestPartFrom_88 rfl rfl ?_
  refine v_aload_n (n := 91) dX6_bestPartFrom_90 rfl rfl ?_
  refine v_getf (n := 94) dX6_bestPartFrom_91 rfl fl_X6_57 (zok_2 hb) (rfl) ?_
  refine v_icmp_ge (n := 97) (t := 158) dX6_bestPartFrom_94 rfl (by decide) (fun hq => ?_) (fun hq => ?_)
  · replace h := h.1 hq
    refine v_iconst (n := 159) (x := (-1 : Int32)) dX6_bestPartFrom_158 rfl (by decide) ?_
    exact v_iret dX6_bestPartFrom_159 rfl (Nat.le_of_ble_eq_true rfl) (Nat.le_of_ble_eq_true rfl) h
  · replace h := h.2 hq
    refine v_aload_n (n := 98) dX6_bestPartFrom_97 rfl rfl ?_
    refine v_getf (n := 101) dX6_bestPartFrom_98 rfl fl_X6_60 (zok_2 hb) rfl ?_
    refine v_iload (n := 103) dX6_bestPartFrom_101 rfl rfl ?_
    obtain ⟨hf1, h⟩ := h
    refine v_aald (n := 104) (j := i) dX6_bestPartFrom_103 rfl (zok_21 hb) (by decide) rfl rfl hf1 rfl ?_
    refine v_astore (n := 106) (L' := [(0, .ref (zad G.1 8 0 0)), (1, .ref (zad G.1 2 b 0)), (2, .ref (zad G.1 3 b i2)), (3, .int x3), (4, .int y4), (5, .int (nI i)), (6, .ref (zad G.1 7 b i))]) dX6_bestPartFrom_104 rfl (by decide) rfl ?_
    refine v_aload (n := 108) dX6_bestPartFrom_106 rfl rfl ?_
    refine v_getf (n := 111) dX6_bestPartFrom_108 rfl fl_X6_67 (zok_7 hb hf1) (rfl) ?_
    refine v_iload_n (n := 112) dX6_bestPartFrom_111 rfl rfl ?_
    refine v_icmp_ne (n := 115) (t := 152) dX6_bestPartFrom_112 rfl (by decide) (fun hq => ?_) (fun hq => ?_)
    · replace h := h.1 hq
      refine v_iinc (n := 155) (x := nI i) (y := nI (i + 1)) (L' := [(0, .ref (zad G.1 8 0 0)), (1, .ref (zad G.1 2 b 0)), (2, .ref (zad G.1 3 b i2)), (3, .int x3), (4, .int y4), (5, .int (nI (i + 1))), (6, .ref (zad G.1 7 b i))]) dX6_bestPartFrom_152 rfl rfl (nI_1 i) (by decide) rfl ?_
      refine v_goto (n := 88) dX6_bestPartFrom_155 (by decide) ?_
      exact v_pick [0, 1, 2, 3, 4, 5] rfl h
    · replace h := h.2 hq
      refine v_aload_n (n := 116) dX6_bestPartFrom_115 rfl rfl ?_
      refine v_aload_n (n := 117) dX6_bestPartFrom_116 rfl rfl ?_
      refine v_aload (n := 119) dX6_bestPartFrom_117 rfl rfl ?_
      refine v_callV (n := 122) (k := 2) (b := b) (i := 0) (As := [.ref (zad G.1 3 b i2), .ref (zad G.1 7 b i)]) (rest := []) dX6_bestPartFrom_119 rfl lk_X6_64 rfl rfl (Nat.le_of_ble_eq_true rfl) ⟨Nat.le_of_ble_eq_true rfl, Nat.le_of_ble_eq_true rfl, Nat.le_of_ble_eq_true rfl, Nat.le_of_ble_eq_true rfl⟩ (zok_2 hb) (s_X0_isWayFor_ G b hb i2 hi2 i hf1 μ) (fun v μ9 hp => ?_) (fun _ _ hp => False.elim hp)
      rw [hp.1, hp.2]
      refine v_norm (st' := [.int (bI (iwp μ b i2 i))]) (cells' := 0) (slots' := 0) rfl rfl rfl ?_
      refine v_if_eq (n := 125) (t := 152) dX6_bestPartFrom_122 rfl (by decide) (fun hq => ?_) (fun hq => ?_)
      · replace h := h.1 (bI_f hq)
        refine v_iinc (n := 155) (x := nI i) (y := nI (i + 1)) (L' := [(0, .ref (zad G.1 8 0 0)), (1, .ref (zad G.1 2 b 0)), (2, .ref (zad G.1 3 b i2)), (3, .int x3), (4, .int y4), (5, .int (nI (i + 1))), (6, .ref (zad G.1 7 b i))]) dX6_bestPartFrom_152 rfl rfl (nI_1 i) (by decide) rfl ?_
        refine v_goto (n := 88) dX6_bestPartFrom_155 (by decide) ?_
        exact v_pick [0, 1, 2, 3, 4, 5] rfl h
      · replace h := h.2 (bI_nf hq)
        refine v_aload (n := 127) dX6_bestPartFrom_125 rfl rfl ?_
        refine v_aload_n (n := 128) dX6_bestPartFrom_127 rfl rfl ?_
        refine v_callV (n := 131) (k := 7) (b := b) (i := i) (As := [.ref (zad G.1 3 b i2)]) (rest := []) dX6_bestPartFrom_128 rfl lk_X6_72 rfl rfl (Nat.le_of_ble_eq_true rfl) ⟨Nat.le_of_ble_eq_true rfl, Nat.le_of_ble_eq_true rfl, Nat.le_of_ble_eq_true rfl, Nat.le_of_ble_eq_true rfl⟩ (zok_7 hb hf1) (s_X5_restFor G b hb i hf1 i2 hi2 μ) (fun v μ9 hp => ?_) (fun _ _ hp => False.elim hp)
        rw [hp.1, hp.2]
        refine v_norm (st' := [.int (rfo μ b i i2)]) (cells' := 0) (slots' := 0) rfl rfl rfl ?_
        refine v_aload_n (n := 132) dX6_bestPartFrom_131 rfl rfl ?_
        refine v_aload (n := 134) dX6_bestPartFrom_132 rfl rfl ?_
        refine v_getf (n := 137) dX6_bestPartFrom_134 rfl fl_X6_76 (zok_7 hb hf1) (rfl) ?_
        refine v_callV (n := 140) (k := 8) (b := 0) (i := 0) (As := [.int (μ 7 b i 1)]) (rest := [.int (rfo μ b i i2)]) dX6_bestPartFrom_137 rfl lk_X6_49 rfl rfl (Nat.le_of_ble_eq_true rfl) ⟨Nat.le_of_ble_eq_true rfl, Nat.le_of_ble_eq_true rfl, Nat.le_of_ble_eq_true rfl, Nat.le_of_ble_eq_true rfl⟩ zokc_8 h (fun v μ1 h => ?_) (fun _ _ hp => False.elim hp)
        obtain ⟨r1, rfl, h⟩ := h
        refine v_norm (st' := [.int r1, .int (rfo μ b i i2)]) (cells' := 0) (slots' := 0) rfl rfl rfl ?_
        refine v_iadd (n := 141) dX6_bestPartFrom_140 rfl ?_
        refine v_iload (n := 143) dX6_bestPartFrom_141 rfl rfl ?_
        refine v_icmp_ne (n := 146) (t := 152) dX6_bestPartFrom_143 rfl (by decide) (fun hq => ?_) (fun hq => ?_)
        · replace h := h.1 hq
          refine v_iinc (n := 155) (x := nI i) (y := nI (i + 1)) (L' := [(0, .ref (zad G.1 8 0 0)), (1, .ref (zad G.1 2 b 0)), (2, .ref (zad G.1 3 b i2)), (3, .int x3), (4, .int y4), (5, .int (nI (i + 1))), (6, .ref (zad G.1 7 b i))]) dX6_bestPartFrom_152 rfl rfl (nI_1 i) (by decide) rfl ?_
          refine v_goto (n := 88) dX6_bestPartFrom_155 (by decide) ?_
          exact v_pick [0, 1, 2, 3, 4, 5] rfl h
        · replace h := h.2 hq
          refine v_bipush (n := 148) (x := nI 100) dX6_bestPartFrom_146 rfl (by decide) ?_
          refine v_iload (n := 150) dX6_bestPartFrom_148 rfl rfl ?_
          refine v_iadd (n := 151) dX6_bestPartFrom_150 rfl ?_
          refine v_top (y := nI (100 + i)) (nI_add 100 i) ?_
          exact v_iret dX6_bestPartFrom_151 rfl (Nat.le_of_ble_eq_true rfl) (Nat.le_of_ble_eq_true rfl) h

set_option maxRecDepth 20000 in
set_option maxHeartbeats 4000000 in
theorem wX6_stationsWithoutWay (G : Gl) {P : Option Value → St → Prop} {X : String → St → Prop}  (μ : St)
    (h : VL G mX6_stationsWithoutWay P X 4 [(0, .ref (zad G.1 8 0 0)), (1, .int (nI 0)), (2, .int (nI 0))] [] μ) :
    Con G mX6_stationsWithoutWay [.ref (zad G.1 8 0 0)] μ P X := by
  refine con_of pn_X6 rfl (Nat.le_of_ble_eq_true rfl) ?_
  show VL G mX6_stationsWithoutWay P X 0 [(0, .ref (zad G.1 8 0 0))] [] μ
  refine v_iconst (n := 1) (x := nI 0) dX6_stationsWithoutWay_0 rfl (by decide) ?_
  refine v_istore_n (n := 2) (L' := [(0, .ref (zad G.1 8 0 0)), (1, .int (nI 0))]) dX6_stationsWithoutWay_1 rfl (by decide) rfl ?_
  refine v_iconst (n := 3) (x := nI 0) dX6_stationsWithoutWay_2 rfl (by decide) ?_
  refine v_istore_n (n := 4) (L' := [(0, .ref (zad G.1 8 0 0)), (1, .int (nI 0)), (2, .int (nI 0))]) dX6_stationsWithoutWay_3 rfl (by decide) rfl ?_
  exact h

set_option maxRecDepth 20000 in
set_option maxHeartbeats 4000000 in
theorem wX6_stationsWithoutWay_4 (G : Gl) {P : Option Value → St → Prop} {X : String → St → Prop} (y1 : Int32) (i : Nat) (μ : St)
    (h : ((nI 8 ≤ nI i → P (some (.int y1)) μ) ∧ (¬ nI 8 ≤ nI i → i < 8 ∧ ((μ 25 0 0 i < nI 1000000 → VL G mX6_stationsWithoutWay P X 4 [(0, .ref (zad G.1 8 0 0)), (1, .int y1), (2, .int (nI (i + 1)))] [] μ) ∧ (¬ μ 25 0 0 i < nI 1000000 → VL G mX6_stationsWithoutWay P X 4 [(0, .ref (zad G.1 8 0 0)), (1, .int (y1 ||| ((nI 1) <<< ((nI i) &&& 31)))), (2, .int (nI (i + 1)))] [] μ))))) :
    VL G mX6_stationsWithoutWay P X 4 [(0, .ref (zad G.1 8 0 0)), (1, .int y1), (2, .int (nI i))] [] μ := by
  refine v_iload_n (n := 5) dX6_stationsWithoutWay_4 rfl rfl ?_
  refine v_bipush (n := 7) (x := nI 8) dX6_stationsWithoutWay_5 rfl (by decide) ?_
  refine v_icmp_ge (n := 10) (t := 33) dX6_stationsWithoutWay_7 rfl (by decide) (fun hq => ?_) (fun hq => ?_)
  · replace h := h.1 hq
    refine v_iload_n (n := 34) dX6_stationsWithoutWay_33 rfl rfl ?_
    exact v_iret dX6_stationsWithoutWay_34 rfl (Nat.le_of_ble_eq_true rfl) (Nat.le_of_ble_eq_true rfl) h
  · replace h := h.2 hq
    refine v_aload_n (n := 11) dX6_stationsWithoutWay_10 rfl rfl ?_
    refine v_getf (n := 14) dX6_stationsWithoutWay_11 rfl fl_X6_9 zokc_8 rfl ?_
    refine v_iload_n (n := 15) dX6_stationsWithoutWay_14 rfl rfl ?_
    obtain ⟨hf1, h⟩ := h
    refine v_iald (n := 16) (j := i) dX6_stationsWithoutWay_15 rfl zokc_25 (by decide) rfl rfl hf1 (rfl) ?_
    refine v_ldc (n := 18) (x := 1000000) dX6_stationsWithoutWay_16 rfl lc_X6_19 ?_
    refine v_top (y := nI 1000000) (by decide) ?_
    refine v_icmp_lt (n := 21) (t := 27) dX6_stationsWithoutWay_18 rfl (by decide) (fun hq => ?_) (fun hq => ?_)
    · replace h := h.1 hq
      refine v_iinc (n := 30) (x := nI i) (y := nI (i + 1)) (L' := [(0, .ref (zad G.1 8 0 0)), (1, .int y1), (2, .int (nI (i + 1)))]) dX6_stationsWithoutWay_27 rfl rfl (nI_1 i) (by decide) rfl ?_
      refine v_goto (n := 4) dX6_stationsWithoutWay_30 (by decide) ?_
      exact h
    · replace h := h.2 hq
      refine v_iload_n (n := 22) dX6_stationsWithoutWay_21 rfl rfl ?_
      refine v_iconst (n := 23) (x := nI 1) dX6_stationsWithoutWay_22 rfl (by decide) ?_
      refine v_iload_n (n := 24) dX6_stationsWithoutWay_23 rfl rfl ?_
      refine v_ishl (n := 25) dX6_stationsWithoutWay_24 rfl ?_
      refine v_ior (n := 26) dX6_stationsWithoutWay_25 rfl ?_
      refine v_istore_n (n := 27) (L' := [(0, .ref (zad G.1 8 0 0)), (1, .int (y1 ||| ((nI 1) <<< ((nI i) &&& 31)))), (2, .int (nI i))]) dX6_stationsWithoutWay_26 rfl (by decide) rfl ?_
      refine v_iinc (n := 30) (x := nI i) (y := nI (i + 1)) (L' := [(0, .ref (zad G.1 8 0 0)), (1, .int (y1 ||| ((nI 1) <<< ((nI i) &&& 31)))), (2, .int (nI (i + 1)))]) dX6_stationsWithoutWay_27 rfl rfl (nI_1 i) (by decide) rfl ?_
      refine v_goto (n := 4) dX6_stationsWithoutWay_30 (by decide) ?_
      exact h

set_option maxRecDepth 20000 in
set_option maxHeartbeats 4000000 in
theorem wX6_stationsFrom (G : Gl) {P : Option Value → St → Prop} {X : String → St → Prop} (b : Nat) (hb : b < 11) (i2 : Nat) (hi2 : i2 < 16) (x3 : Int32) (μ : St)
    (h : VL G mX6_stationsFrom P X 8 [(0, .ref (zad G.1 8 0 0)), (1, .ref (zad G.1 2 b 0)), (2, .ref (zad G.1 3 b i2)), (3, .int x3), (4, .int ((nI 1) <<< (x3 &&& 31))), (5, .int (nI 1))] [] μ) :
    Con G mX6_stationsFrom [.ref (zad G.1 8 0 0), .ref (zad G.1 2 b 0), .ref (zad G.1 3 b i2), .int x3] μ P X := by
  refine con_of pn_X6 rfl (Nat.le_of_ble_eq_true rfl) ?_
  show VL G mX6_stationsFrom P X 0 [(0, .ref (zad G.1 8 0 0)), (1, .ref (zad G.1 2 b 0)), (2, .ref (zad G.1 3 b i2)), (3, .int x3)] [] μ
  refine v_iconst (n := 1) (x := nI 1) dX6_stationsFrom_0 rfl (by decide) ?_
  refine v_iload_n (n := 2) dX6_stationsFrom_1 rfl rfl ?_
  refine v_ishl (n := 3) dX6_stationsFrom_2 rfl ?_
  refine v_istore (n := 5) (L' := [(0, .ref (zad G.1 8 0 0)), (1, .ref (zad G.1 2 b 0)), (2, .ref (zad G.1 3 b i2)), (3, .int x3), (4, .int ((nI 1) <<< (x3 &&& 31)))]) dX6_stationsFrom_3 rfl (by decide) rfl ?_
  refine v_iconst (n := 6) (x := nI 1) dX6_stationsFrom_5 rfl (by decide) ?_
  refine v_istore (n := 8) (L' := [(0, .ref (zad G.1 8 0 0)), (1, .ref (zad G.1 2 b 0)), (2, .ref (zad G.1 3 b i2)), (3, .int x3), (4, .int ((nI 1) <<< (x3 &&& 31))), (5, .int (nI 1))]) dX6_stationsFrom_6 rfl (by decide) rfl ?_
  exact h

set_option maxRecDepth 20000 in
set_option maxHeartbeats 4000000 in
theorem wX6_stationsFrom_8 (G : Gl) {P : Option Value → St → Prop} {X : String → St → Prop} (b : Nat) (hb : b < 11) (i2 : Nat) (hi2 : i2 < 16) (x3 : Int32) (y4 : Int32) (i : Nat) (μ : St)
    (h : ((nI 8 ≤ nI i → P (some (.int y4)) μ) ∧ (¬ nI 8 ≤ nI i → Con G mX6_spread [.ref (zad G.1 8 0 0), .ref (zad G.1 2 b 0), .ref (zad G.1 3 b i2), .int y4] μ (fun v μ1 => ∃ r1 : Int32, v = some (.int r1) ∧ VL G mX6_stationsFrom P X 8 [(0, .ref (zad G.1 8 0 0)), (1, .ref (zad G.1 2 b 0)), (2, .ref (zad G.1 3 b i2)), (3, .int x3), (4, .int r1), (5, .int (nI (i + 1)))] [] μ1) noX))) :
    VL G mX6_stationsFrom P X 8 [(0, .ref (zad G.1 8 0 0)), (1, .ref (zad G.1 2 b 0)), (2, .ref (zad G.1 3 b i2)), (3, .int x3), (4, .int y4), (5, .int (nI i))] [] μ := by
  refine v_iload (n := 10) dX6_stationsFrom_8 rfl rfl ?_
  refine v_bipush (n := 12) (x := nI 8) dX6_stationsFrom_10 rfl (by decide) ?_
  refine v_icmp_ge (n := 15) (t := 31) dX6_stationsFrom_12 rfl (by decide) (fun hq => ?_) (fun hq => ?_)
  · replace h := h.1 hq
    refine v_iload (n := 33) dX6_stationsFrom_31 rfl rfl ?_
    exact v_iret dX6_stationsFrom_33 rfl (Nat.le_of_ble_eq_true rfl) (Nat.le_of_ble_eq_true rfl) h
  · replace h := h.2 hq
    refine v_aload_n (n := 16) dX6_stationsFrom_15 rfl rfl ?_
    refine v_aload_n (n := 17) dX6_stationsFrom_16 rfl rfl ?_
    refine v_aload_n (n := 18) dX6_stationsFrom_17 rfl rfl ?_
    refine v_iload (n := 20) dX6_stationsFrom_18 rfl rfl ?_
    refine v_callV (n := 23) (k := 8) (b := 0) (i := 0) (As := [.ref (zad G.1 2 b 0), .ref (zad G.1 3 b i2), .int y4]) (rest := []) dX6_stationsFrom_20 rfl lk_X6_79 rfl rfl (Nat.le_of_ble_eq_true rfl) ⟨Nat.le_of_ble_eq_true rfl, Nat.le_of_ble_eq_true rfl, Nat.le_of_ble_eq_true rfl, Nat.le_of_ble_eq_true rfl⟩ zokc_8 h (fun v μ1 h => ?_) (fun _ _ hp => False.elim hp)
    obtain ⟨r1, rfl, h⟩ := h
    refine v_norm (st' := [.int r1]) (cells' := 0) (slots' := 0) rfl rfl rfl ?_
    refine v_istore (n := 25) (L' := [(0, .ref (zad G.1 8 0 0)), (1, .ref (zad G.1 2 b 0)), (2, .ref (zad G.1 3 b i2)), (3, .int x3), (4, .int r1), (5, .int (nI i))]) dX6_stationsFrom_23 rfl (by decide) rfl ?_
    refine v_iinc (n := 28) (x := nI i) (y := nI (i + 1)) (L' := [(0, .ref (zad G.1 8 0 0)), (1, .ref (zad G.1 2 b 0)), (2, .ref (zad G.1 3 b i2)), (3, .int x3), (4, .int r1), (5, .int (nI (i + 1)))]) dX6_stationsFrom_25 rfl rfl (nI_1 i) (by decide) rfl ?_
    refine v_goto (n := 8) dX6_stationsFrom_28 (by decide) ?_
    exact h

set_option maxRecDepth 20000 in
set_option maxHeartbeats 4000000 in
theorem wX6_spread (G : Gl) {P : Option Value → St → Prop} {X : String → St → Prop} (b : Nat) (hb : b < 11) (i2 : Nat) (hi2 : i2 < 16) (x3 : Int32) (μ : St)
    (h : VL G mX6_spread P X 6 [(0, .ref (zad G.1 8 0 0)), (1, .ref (zad G.1 2 b 0)), (2, .ref (zad G.1 3 b i2)), (3, .int x3), (4, .int x3), (5, .int (nI 0))] [] μ) :
    Con G mX6_spread [.ref (zad G.1 8 0 0), .ref (zad G.1 2 b 0), .ref (zad G.1 3 b i2), .int x3] μ P X := by
  refine con_of pn_X6 rfl (Nat.le_of_ble_eq_true rfl) ?_
  show VL G mX6_spread P X 0 [(0, .ref (zad G.1 8 0 0)), (1, .ref (zad G.1 2 b 0)), (2, .ref (zad G.1 3 b i2)), (3, .int x3)] [] μ
  refine v_iload_n (n := 1) dX6_spread_0 rfl rfl ?_
  refine v_istore (n := 3) (L' := [(0, .ref (zad G.1 8 0 0)), (1, .ref (zad G.1 2 b 0)), (2, .ref (zad G.1 3 b i2)), (3, .int x3), (4, .int x3)]) dX6_spread_1 rfl (by decide) rfl ?_
  refine v_iconst (n := 4) (x := nI 0) dX6_spread_3 rfl (by decide) ?_
  refine v_istore (n := 6) (L' := [(0, .ref (zad G.1 8 0 0)), (1, .ref (zad G.1 2 b 0)), (2, .ref (zad G.1 3 b i2)), (3, .int x3), (4, .int x3), (5, .int (nI 0))]) dX6_spread_4 rfl (by decide) rfl ?_
  exact h

set_option maxRecDepth 20000 in
set_option maxHeartbeats 4000000 in
theorem wX6_spread_6 (G : Gl) {P : Option Value → St → Prop} {X : String → St → Prop} (b : Nat) (hb : b < 11) (i2 : Nat) (hi2 : i2 < 16) (x3 : Int32) (y4 : Int32) (i : Nat) (μ : St)
    (h : ((μ 2 b 0 3 ≤ nI i → VL G mX6_spread P X 68 [(0, .ref (zad G.1 8 0 0)), (1, .ref (zad G.1 2 b 0)), (2, .ref (zad G.1 3 b i2)), (3, .int x3), (4, .int y4), (5, .int (nI 0))] [] μ) ∧ (¬ μ 2 b 0 3 ≤ nI i → i < 6 ∧ (((y4 >>> ((μ 6 b i 0) &&& 31)) &&& (nI 1) = 0 → VL G mX6_spread P X 6 [(0, .ref (zad G.1 8 0 0)), (1, .ref (zad G.1 2 b 0)), (2, .ref (zad G.1 3 b i2)), (3, .int x3), (4, .int y4), (5, .int (nI (i + 1)))] [] μ) ∧ (¬ (y4 >>> ((μ 6 b i 0) &&& 31)) &&& (nI 1) = 0 → ((iwl μ b i2 i = false → VL G mX6_spread P X 6 [(0, .ref (zad G.1 8 0 0)), (1, .ref (zad G.1 2 b 0)), (2, .ref (zad G.1 3 b i2)), (3, .int x3), (4, .int y4), (5, .int (nI (i + 1)))] [] μ) ∧ (iwl μ b i2 i = true → VL G mX6_spread P X 6 [(0, .ref (zad G.1 8 0 0)), (1, .ref (zad G.1 2 b 0)), (2, .ref (zad G.1 3 b i2)), (3, .int x3), (4, .int (y4 ||| ((nI 1) <<< ((μ 6 b i 1) &&& 31)))), (5, .int (nI (i + 1)))] [] μ))))))) :
    VL G mX6_spread P X 6 [(0, .ref (zad G.1 8 0 0)), (1, .ref (zad G.1 2 b 0)), (2, .ref (zad G.1 3 b i2)), (3, .int x3), (4, .int y4), (5, .int (nI i))] [] μ := by
  refine v_iload (n := 8) dX6_spread_6 rfl rfl ?_
  refine v_aload_n (n := 9) dX6_spread_8 rfl rfl ?_
  refine v_getf (n := 12) dX6_spread_9 rfl fl_X6_24 (zok_2 hb) (rfl) ?_
  refine v_icmp_ge (n := 15) (t := 65) dX6_spread_12 rfl (by decide) (fun hq => ?_) (fun hq => ?_)
  · replace h := h.1 hq
    refine v_iconst (n := 66) (x := nI 0) dX6_spread_65 rfl (by decide) ?_
    refine v_istore (n := 68) (L' := [(0, .ref (zad G.1 8 0 0)), (1, .ref (zad G.1 2 b 0)), (2, .ref (zad G.1 3 b i2)), (3, .int x3), (4, .int y4), (5, .int (nI 0))]) dX6_spread_66 rfl (by decide) rfl ?_
    exact h
  · replace h := h.2 hq
    refine v_aload_n (n := 16) dX6_spread_15 rfl rfl ?_
    refine v_getf (n := 19) dX6_spread_16 rfl fl_X6_30 (zok_2 hb) rfl ?_
    refine v_iload (n := 21) dX6_spread_19 rfl rfl ?_
    obtain ⟨hf1, h⟩ := h
    refine v_aald (n := 22) (j := i) dX6_spread_21 rfl (zok_20 hb) (by decide) rfl rfl hf1 rfl ?_
    refine v_astore (n := 24) (L' := [(0, .ref (zad G.1 8 0 0)), (1, .ref (zad G.1 2 b 0)), (2, .ref (zad G.1 3 b i2)), (3, .int x3), (4, .int y4), (5, .int (nI i)), (6, .ref (zad G.1 6 b i))]) dX6_spread_22 rfl (by decide) rfl ?_
    refine v_iload (n := 26) dX6_spread_24 rfl rfl ?_
    refine v_aload (n := 28) dX6_spread_26 rfl rfl ?_
    refine v_getf (n := 31) dX6_spread_28 rfl fl_X6_38 (zok_6 hb hf1) (rfl) ?_
    refine v_ishr (n := 32) dX6_spread_31 rfl ?_
    refine v_iconst (n := 33) (x := nI 1) dX6_spread_32 rfl (by decide) ?_
    refine v_iand (n := 34) dX6_spread_33 rfl ?_
    refine v_if_eq (n := 37) (t := 59) dX6_spread_34 rfl (by decide) (fun hq => ?_) (fun hq => ?_)
    · replace h := h.1 hq
      refine v_iinc (n := 62) (x := nI i) (y := nI (i + 1)) (L' := [(0, .ref (zad G.1 8 0 0)), (1, .ref (zad G.1 2 b 0)), (2, .ref (zad G.1 3 b i2)), (3, .int x3), (4, .int y4), (5, .int (nI (i + 1))), (6, .ref (zad G.1 6 b i))]) dX6_spread_59 rfl rfl (nI_1 i) (by decide) rfl ?_
      refine v_goto (n := 6) dX6_spread_62 (by decide) ?_
      exact v_pick [0, 1, 2, 3, 4, 5] rfl h
    · replace h := h.2 hq
      refine v_aload_n (n := 38) dX6_spread_37 rfl rfl ?_
      refine v_aload_n (n := 39) dX6_spread_38 rfl rfl ?_
      refine v_aload (n := 41) dX6_spread_39 rfl rfl ?_
      refine v_callV (n := 44) (k := 2) (b := b) (i := 0) (As := [.ref (zad G.1 3 b i2), .ref (zad G.1 6 b i)]) (rest := []) dX6_spread_41 rfl lk_X6_34 rfl rfl (Nat.le_of_ble_eq_true rfl) ⟨Nat.le_of_ble_eq_true rfl, Nat.le_of_ble_eq_true rfl, Nat.le_of_ble_eq_true rfl, Nat.le_of_ble_eq_true rfl⟩ (zok_2 hb) (s_X0_isWayFor G b hb i2 hi2 i hf1 μ) (fun v μ9 hp => ?_) (fun _ _ hp => False.elim hp)
      rw [hp.1, hp.2]
      refine v_norm (st' := [.int (bI (iwl μ b i2 i))]) (cells' := 0) (slots' := 0) rfl rfl rfl ?_
      refine v_if_eq (n := 47) (t := 59) dX6_spread_44 rfl (by decide) (fun hq => ?_) (fun hq => ?_)
      · replace h := h.1 (bI_f hq)
        refine v_iinc (n := 62) (x := nI i) (y := nI (i + 1)) (L' := [(0, .ref (zad G.1 8 0 0)), (1, .ref (zad G.1 2 b 0)), (2, .ref (zad G.1 3 b i2)), (3, .int x3), (4, .int y4), (5, .int (nI (i + 1))), (6, .ref (zad G.1 6 b i))]) dX6_spread_59 rfl rfl (nI_1 i) (by decide) rfl ?_
        refine v_goto (n := 6) dX6_spread_62 (by decide) ?_
        exact v_pick [0, 1, 2, 3, 4, 5] rfl h
      · replace h := h.2 (bI_nf hq)
        refine v_iload (n := 49) dX6_spread_47 rfl rfl ?_
        refine v_iconst (n := 50) (x := nI 1) dX6_spread_49 rfl (by decide) ?_
        refine v_aload (n := 52) dX6_spread_50 rfl rfl ?_
        refine v_getf (n := 55) dX6_spread_52 rfl fl_X6_46 (zok_6 hb hf1) (rfl) ?_
        refine v_ishl (n := 56) dX6_spread_55 rfl ?_
        refine v_ior (n := 57) dX6_spread_56 rfl ?_
        refine v_istore (n := 59) (L' := [(0, .ref (zad G.1 8 0 0)), (1, .ref (zad G.1 2 b 0)), (2, .ref (zad G.1 3 b i2)), (3, .int x3), (4, .int (y4 ||| ((nI 1) <<< ((μ 6 b i 1) &&& 31)))), (5, .int (nI i)), (6, .ref (zad G.1 6 b i))]) dX6_spread_57 rfl (by decide) rfl ?_
        refine v_iinc (n := 62) (x := nI i) (y := nI (i + 1)) (L' := [(0, .ref (zad G.1 8 0 0)), (1, .ref (zad G.1 2 b 0)), (2, .ref (zad G.1 3 b i2)), (3, .int x3), (4, .int (y4 ||| ((nI 1) <<< ((μ 6 b i 1) &&& 31)))), (5, .int (nI (i + 1))), (6, .ref (zad G.1 6 b i))]) dX6_spread_59 rfl rfl (nI_1 i) (by decide) rfl ?_
        refine v_goto (n := 6) dX6_spread_62 (by decide) ?_
        exact v_pick [0, 1, 2, 3, 4, 5] rfl h

set_option maxRecDepth 20000 in
set_option maxHeartbeats 4000000 in
theorem wX6_spread_68 (G : Gl) {P : Option Value → St → Prop} {X : String → St → Prop} (b : Nat) (hb : b < 11) (i2 : Nat) (hi2 : i2 < 16) (x3 : Int32) (y4 : Int32) (i : Nat) (μ : St)
    (h : ((μ 2 b 0 4 ≤ nI i → P (some (.int y4)) μ) ∧ (¬ μ 2 b 0 4 ≤ nI i → i < 10 ∧ (((y4 >>> ((μ 7 b i 0) &&& 31)) &&& (nI 1) = 0 → VL G mX6_spread P X 68 [(0, .ref (zad G.1 8 0 0)), (1, .ref (zad G.1 2 b 0)), (2, .ref (zad G.1 3 b i2)), (3, .int x3), (4, .int y4), (5, .int (nI (i + 1)))] [] μ) ∧ (¬ (y4 >>> ((μ 7 b i 0) &&& 31)) &&& (nI 1) = 0 → ((iwp μ b i2 i = false → VL G mX6_spread P X 68 [(0, .ref (zad G.1 8 0 0)), (1, .ref (zad G.1 2 b 0)), (2, .ref (zad G.1 3 b i2)), (3, .int x3), (4, .int y4), (5, .int (nI (i + 1)))] [] μ) ∧ (iwp μ b i2 i = true → VL G mX6_spread P X 68 [(0, .ref (zad G.1 8 0 0)), (1, .ref (zad G.1 2 b 0)), (2, .ref (zad G.1 3 b i2)), (3, .int x3), (4, .int (y4 ||| ((nI 1) <<< ((μ 7 b i 1) &&& 31)))), (5, .int (nI (i + 1)))] [] μ))))))) :
    VL G mX6_spread P X 68 [(0, .ref (zad G.1 8 0 0)), (1, .ref (zad G.1 2 b 0)), (2, .ref (zad G.1 3 b i2)), (3, .int x3), (4, .int y4), (5, .int (nI i))] [] μ := by
  refine v_iload (n := 70) dX6_spread_68 rfl rfl ?_
  refine v_aload_n (n := 71) dX6_spread_70 rfl rfl ?_
  refine v_getf (n := 74) dX6_spread_71 rfl fl_X6_57 (zok_2 hb) (rfl) ?_
  refine v_icmp_ge (n := 77) (t := 127) dX6_spread_74 rfl (by decide) (fun hq => ?_) (fun hq => ?_)
  · replace h := h.1 hq
    refine v_iload (n := 129) dX6_spread_127 rfl rfl ?_
    exact v_iret dX6_spread_129 rfl (Nat.le_of_ble_eq_true rfl) (Nat.le_of_ble_eq_true rfl) h
  · replace h := h.2 hq
    refine v_aload_n (n := 78) dX6_spread_77 rfl rfl ?_
    refine v_getf (n := 81) dX6_spread_78 rfl fl_X6_60 (zok_2 hb) rfl ?_
    refine v_iload (n := 83) dX6_spread_81 rfl rfl ?_
    obtain ⟨hf1, h⟩ := h
    refine v_aald (n := 84) (j := i) dX6_spread_83 rfl (zok_21 hb) (by decide) rfl rfl hf1 rfl ?_
    refine v_astore (n := 86) (L' := [(0, .ref (zad G.1 8 0 0)), (1, .ref (zad G.1 2 b 0)), (2, .ref (zad G.1 3 b i2)), (3, .int x3), (4, .int y4), (5, .int (nI i)), (6, .ref (zad G.1 7 b i))]) dX6_spread_84 rfl (by decide) rfl ?_
    refine v_iload (n := 88) dX6_spread_86 rfl rfl ?_
    refine v_aload (n := 90) dX6_spread_88 rfl rfl ?_
    refine v_getf (n := 93) dX6_spread_90 rfl fl_X6_67 (zok_7 hb hf1) (rfl) ?_
    refine v_ishr (n := 94) dX6_spread_93 rfl ?_
    refine v_iconst (n := 95) (x := nI 1) dX6_spread_94 rfl (by decide) ?_
    refine v_iand (n := 96) dX6_spread_95 rfl ?_
    refine v_if_eq (n := 99) (t := 121) dX6_spread_96 rfl (by decide) (fun hq => ?_) (fun hq => ?_)
    · replace h := h.1 hq
      refine v_iinc (n := 124) (x := nI i) (y := nI (i + 1)) (L' := [(0, .ref (zad G.1 8 0 0)), (1, .ref (zad G.1 2 b 0)), (2, .ref (zad G.1 3 b i2)), (3, .int x3), (4, .int y4), (5, .int (nI (i + 1))), (6, .ref (zad G.1 7 b i))]) dX6_spread_121 rfl rfl (nI_1 i) (by decide) rfl ?_
      refine v_goto (n := 68) dX6_spread_124 (by decide) ?_
      exact v_pick [0, 1, 2, 3, 4, 5] rfl h
    · replace h := h.2 hq
      refine v_aload_n (n := 100) dX6_spread_99 rfl rfl ?_
      refine v_aload_n (n := 101) dX6_spread_100 rfl rfl ?_
      refine v_aload (n := 103) dX6_spread_101 rfl rfl ?_
      refine v_callV (n := 106) (k := 2) (b := b) (i := 0) (As := [.ref (zad G.1 3 b i2), .ref (zad G.1 7 b i)]) (rest := []) dX6_spread_103 rfl lk_X6_64 rfl rfl (Nat.le_of_ble_eq_true rfl) ⟨Nat.le_of_ble_eq_true rfl, Nat.le_of_ble_eq_true rfl, Nat.le_of_ble_eq_true rfl, Nat.le_of_ble_eq_true rfl⟩ (zok_2 hb) (s_X0_isWayFor_ G b hb i2 hi2 i hf1 μ) (fun v μ9 hp => ?_) (fun _ _ hp => False.elim hp)
      rw [hp.1, hp.2]
      refine v_norm (st' := [.int (bI (iwp μ b i2 i))]) (cells' := 0) (slots' := 0) rfl rfl rfl ?_
      refine v_if_eq (n := 109) (t := 121) dX6_spread_106 rfl (by decide) (fun hq => ?_) (fun hq => ?_)
      · replace h := h.1 (bI_f hq)
        refine v_iinc (n := 124) (x := nI i) (y := nI (i + 1)) (L' := [(0, .ref (zad G.1 8 0 0)), (1, .ref (zad G.1 2 b 0)), (2, .ref (zad G.1 3 b i2)), (3, .int x3), (4, .int y4), (5, .int (nI (i + 1))), (6, .ref (zad G.1 7 b i))]) dX6_spread_121 rfl rfl (nI_1 i) (by decide) rfl ?_
        refine v_goto (n := 68) dX6_spread_124 (by decide) ?_
        exact v_pick [0, 1, 2, 3, 4, 5] rfl h
      · replace h := h.2 (bI_nf hq)
        refine v_iload (n := 111) dX6_spread_109 rfl rfl ?_
        refine v_iconst (n := 112) (x := nI 1) dX6_spread_111 rfl (by decide) ?_
        refine v_aload (n := 114) dX6_spread_112 rfl rfl ?_
        refine v_getf (n := 117) dX6_spread_114 rfl fl_X6_76 (zok_7 hb hf1) (rfl) ?_
        refine v_ishl (n := 118) dX6_spread_117 rfl ?_
        refine v_ior (n := 119) dX6_spread_118 rfl ?_
        refine v_istore (n := 121) (L' := [(0, .ref (zad G.1 8 0 0)), (1, .ref (zad G.1 2 b 0)), (2, .ref (zad G.1 3 b i2)), (3, .int x3), (4, .int (y4 ||| ((nI 1) <<< ((μ 7 b i 1) &&& 31)))), (5, .int (nI i)), (6, .ref (zad G.1 7 b i))]) dX6_spread_119 rfl (by decide) rfl ?_
        refine v_iinc (n := 124) (x := nI i) (y := nI (i + 1)) (L' := [(0, .ref (zad G.1 8 0 0)), (1, .ref (zad G.1 2 b 0)), (2, .ref (zad G.1 3 b i2)), (3, .int x3), (4, .int (y4 ||| ((nI 1) <<< ((μ 7 b i 1) &&& 31)))), (5, .int (nI (i + 1))), (6, .ref (zad G.1 7 b i))]) dX6_spread_121 rfl rfl (nI_1 i) (by decide) rfl ?_
        refine v_goto (n := 68) dX6_spread_124 (by decide) ?_
        exact v_pick [0, 1, 2, 3, 4, 5] rfl h

