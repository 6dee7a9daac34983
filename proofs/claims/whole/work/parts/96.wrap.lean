/-! ===== the law's wrappers (by program) ===== -/
def LW (G : Gl) (Z : MD) (av : List Value) (W : Nat) (v : Option Value) (μ' : St) : Prop := ∃ k r μ1, k < 4 ∧ v = some (.int (nI k)) ∧ Lk μ1 μ' ∧ Mc (offG G) Z av W k r μ1 ∧ (k = 0 → μ' 35 0 0 0 = r)
def LWd (G : Gl) (x1 : Int32) (W : Nat) (v : Option Value) (μ' : St) : Prop := ∃ k r μ1, k < 4 ∧ v = some (.int (nI k)) ∧ Lk μ1 μ' ∧ Con (offG G) mX8_load [.ref (zad G.1 10 0 0), .int x1] μ1 (MPd W k r) noX ∧ (k = 0 → r = FP.ddiv (FP.i2d (μ' 36 0 0 0)) (FP.i2d (μ' 36 0 0 1)) ∧ vf_n64 r)
theorem cl_L_13 : Cond.classLink RL 13 "java/lang/IndexOutOfBoundsException" ∈ GW := GW_q2 151 (by decide +kernel) rfl
theorem cl_L_15 : Cond.classLink RL 15 "java/lang/IllegalArgumentException" ∈ GW := GW_q2 231 (by decide +kernel) rfl
theorem cl_L_17 : Cond.classLink RL 17 "java/lang/IllegalStateException" ∈ GW := GW_q2 232 (by decide +kernel) rfl
theorem cl_L_54 : Cond.classLink RL 54 "java/lang/UnsupportedOperationException" ∈ GW := GW_q3 196 (by decide +kernel) rfl
theorem cl_L_72 : Cond.classLink RL 72 "java/util/NoSuchElementException" ∈ GW := GW_q4 58 (by decide +kernel) rfl
theorem cl_L_121 : Cond.classLink RL 121 "java/lang/ArithmeticException" ∈ GW := GW_q5 72 (by decide +kernel) rfl
theorem ca_ArithmeticException : Cond.castable "java/lang/ArithmeticException" "java/lang/ArithmeticException" ∈ lw_tbl := TB_q5 84 (by decide +kernel)
theorem ca_IllegalArgumentException : Cond.castable "java/lang/IllegalArgumentException" "java/lang/IllegalArgumentException" ∈ lw_tbl := TB_q3 18 (by decide +kernel)
theorem ca_IllegalStateException : Cond.castable "java/lang/IllegalStateException" "java/lang/IllegalStateException" ∈ lw_tbl := TB_q3 34 (by decide +kernel)
theorem ca_IndexOutOfBoundsException : Cond.castable "java/lang/IndexOutOfBoundsException" "java/lang/IndexOutOfBoundsException" ∈ lw_tbl := TB_q3 5 (by decide +kernel)
theorem ca_UnsupportedOperationException : Cond.castable "java/lang/UnsupportedOperationException" "java/lang/UnsupportedOperationException" ∈ lw_tbl := TB_q3 217 (by decide +kernel)
theorem ca_NoSuchElementException : Cond.castable "java/util/NoSuchElementException" "java/util/NoSuchElementException" ∈ lw_tbl := TB_q4 65 (by decide +kernel)
theorem lw_addLift {G : Gl} {μ : St} {W : Nat} (hG : G.2.2.2 = true) (x1 x2 x3 x4 x5 x6 : Int32) (h : Opn (offG G) mX7_addLift mX8_addLift [.int x1, .int x2, .int x3, .int x4, .int x5, .int x6] W ["java/lang/IndexOutOfBoundsException", "java/lang/IllegalArgumentException", "java/lang/IllegalStateException"] μ) : ConH G mL_addLift [.ref (zad G.1 9 0 0), .int x1, .int x2, .int x3, .int x4, .int x5, .int x6, .ref (zad G.1 35 0 0)] μ (LW G mX8_addLift [.int x1, .int x2, .int x3, .int x4, .int x5, .int x6] W) noX := by
  refine conH_of pn_L (Nat.le_of_ble_eq_true rfl) ?_
  show V G mL_addLift mL_addLift.2.2.2.2.1 (QM G mL_addLift (LW G mX8_addLift [.int x1, .int x2, .int x3, .int x4, .int x5, .int x6] W) noX) 0 [(0, .ref (zad G.1 9 0 0)), (1, .int x1), (2, .int x2), (3, .int x3), (4, .int x4), (5, .int x5), (6, .int x6), (7, .ref (zad G.1 35 0 0))] [] μ 0 0
  refine v_aload (n := 2) dL_addLift_0 rfl rfl ?_
  refine v_iconst (n := 3) (x := nI 0) dL_addLift_2 rfl rfl ?_
  refine v_aload_n (n := 4) dL_addLift_3 rfl rfl ?_
  refine v_iload_n (n := 5) dL_addLift_4 rfl rfl ?_
  refine v_iload_n (n := 6) dL_addLift_5 rfl rfl ?_
  refine v_iload_n (n := 7) dL_addLift_6 rfl rfl ?_
  refine v_iload (n := 9) dL_addLift_7 rfl rfl ?_
  refine v_iload (n := 11) dL_addLift_9 rfl rfl ?_
  refine v_iload (n := 13) dL_addLift_11 rfl rfl ?_
  refine v_callV0 (n := 16) (k := 9) (b := 0) (i := 0) (As := [.int x1, .int x2, .int x3, .int x4, .int x5, .int x6]) (rest := [.int (nI 0), .ref (zad G.1 35 0 0)]) dL_addLift_13 rfl lk_L_7 rfl rfl (Nat.le_of_ble_eq_true rfl) ⟨Nat.le_of_ble_eq_true rfl, Nat.le_of_ble_eq_true rfl, Nat.le_of_ble_eq_true rfl, Nat.le_of_ble_eq_true rfl⟩ zokc_9 (Lk.refl μ) h (fun v μ' hp => ?_) (fun E μ' hp => ?_)
  · obtain ⟨r, rfl, hm⟩ := hp
    show V _ _ _ _ _ _ [.int r, .int (nI 0), .ref (zad G.1 35 0 0)] _ _ _
    refine v_i2l (n := 17) dL_addLift_16 rfl ?_
    refine v_last (n := 18) (j := 0) dL_addLift_17 rfl hG zokc_35 (by decide) (by decide) rfl rfl (by decide) (fun _ => rfl) ?_
    refine v_goto (n := 33) dL_addLift_18 (by decide) ?_
    refine v_iconst (n := 34) (x := nI 0) dL_addLift_33 rfl rfl ?_
    exact v_iret dL_addLift_34 rfl (Nat.le_of_ble_eq_true rfl) (Nat.le_of_ble_eq_true rfl) ⟨0, r, μ', by decide, rfl, Lk.ovr.upd (by decide), hm, fun _ => up_self _ _ _ _ _ _⟩
  · obtain ⟨k, hk, hm⟩ := hp
    match k, hk, hm with
    | 0, hk, hm =>
      cases hk
      refine v_catch (name := "java/lang/IndexOutOfBoundsException") (pre := []) (x := ⟨0, 18, 21, 13⟩) (suf := [⟨0, 18, 25, 15⟩, ⟨0, 18, 29, 17⟩]) rfl (fun _ h => absurd h List.not_mem_nil) rfl (by decide) cl_L_13 ca_IndexOutOfBoundsException (fun a => ?_)
      refine v_astore (n := 23) dL_addLift_21 rfl (by decide) rfl ?_
      refine v_iconst (n := 24) (x := nI 1) dL_addLift_23 rfl rfl ?_
      exact v_iret dL_addLift_24 rfl (Nat.le_of_ble_eq_true rfl) (Nat.le_of_ble_eq_true rfl) ⟨1, _, μ', by decide, rfl, Lk.ovr, hm, fun z => by cases z⟩
    | 1, hk, hm =>
      cases hk
      refine v_catch (name := "java/lang/IllegalArgumentException") (pre := [⟨0, 18, 21, 13⟩]) (x := ⟨0, 18, 25, 15⟩) (suf := [⟨0, 18, 29, 17⟩]) rfl (List.forall_mem_cons.mpr ⟨⟨by decide, "java/lang/IndexOutOfBoundsException", cl_L_13, List.mem_of_getElem? (i := 0) rfl⟩, fun _ h => absurd h List.not_mem_nil⟩) rfl (by decide) cl_L_15 ca_IllegalArgumentException (fun a => ?_)
      refine v_astore (n := 27) dL_addLift_25 rfl (by decide) rfl ?_
      refine v_iconst (n := 28) (x := nI 2) dL_addLift_27 rfl rfl ?_
      exact v_iret dL_addLift_28 rfl (Nat.le_of_ble_eq_true rfl) (Nat.le_of_ble_eq_true rfl) ⟨2, _, μ', by decide, rfl, Lk.ovr, hm, fun z => by cases z⟩
    | 2, hk, hm =>
      cases hk
      refine v_catch (name := "java/lang/IllegalStateException") (pre := [⟨0, 18, 21, 13⟩, ⟨0, 18, 25, 15⟩]) (x := ⟨0, 18, 29, 17⟩) (suf := []) rfl (List.forall_mem_cons.mpr ⟨⟨by decide, "java/lang/IndexOutOfBoundsException", cl_L_13, List.mem_of_getElem? (i := 1) rfl⟩, List.forall_mem_cons.mpr ⟨⟨by decide, "java/lang/IllegalArgumentException", cl_L_15, List.mem_of_getElem? (i := 2) rfl⟩, fun _ h => absurd h List.not_mem_nil⟩⟩) rfl (by decide) cl_L_17 ca_IllegalStateException (fun a => ?_)
      refine v_astore (n := 31) dL_addLift_29 rfl (by decide) rfl ?_
      refine v_iconst (n := 32) (x := nI 3) dL_addLift_31 rfl rfl ?_
      exact v_iret dL_addLift_32 rfl (Nat.le_of_ble_eq_true rfl) (Nat.le_of_ble_eq_true rfl) ⟨3, _, μ', by decide, rfl, Lk.ovr, hm, fun z => by cases z⟩
    | j + 3, hk, hm => cases hk
theorem lw_addPiste {G : Gl} {μ : St} {W : Nat} (hG : G.2.2.2 = true) (x1 x2 x3 x4 : Int32) (h : Opn (offG G) mX7_addPiste mX8_addPiste [.int x1, .int x2, .int x3, .int x4] W ["java/lang/IndexOutOfBoundsException", "java/lang/IllegalArgumentException", "java/lang/IllegalStateException"] μ) : ConH G mL_addPiste [.ref (zad G.1 9 0 0), .int x1, .int x2, .int x3, .int x4, .ref (zad G.1 35 0 0)] μ (LW G mX8_addPiste [.int x1, .int x2, .int x3, .int x4] W) noX := by
  refine conH_of pn_L (Nat.le_of_ble_eq_true rfl) ?_
  show V G mL_addPiste mL_addPiste.2.2.2.2.1 (QM G mL_addPiste (LW G mX8_addPiste [.int x1, .int x2, .int x3, .int x4] W) noX) 0 [(0, .ref (zad G.1 9 0 0)), (1, .int x1), (2, .int x2), (3, .int x3), (4, .int x4), (5, .ref (zad G.1 35 0 0))] [] μ 0 0
  refine v_aload (n := 2) dL_addPiste_0 rfl rfl ?_
  refine v_iconst (n := 3) (x := nI 0) dL_addPiste_2 rfl rfl ?_
  refine v_aload_n (n := 4) dL_addPiste_3 rfl rfl ?_
  refine v_iload_n (n := 5) dL_addPiste_4 rfl rfl ?_
  refine v_iload_n (n := 6) dL_addPiste_5 rfl rfl ?_
  refine v_iload_n (n := 7) dL_addPiste_6 rfl rfl ?_
  refine v_iload (n := 9) dL_addPiste_7 rfl rfl ?_
  refine v_callV0 (n := 12) (k := 9) (b := 0) (i := 0) (As := [.int x1, .int x2, .int x3, .int x4]) (rest := [.int (nI 0), .ref (zad G.1 35 0 0)]) dL_addPiste_9 rfl lk_L_19 rfl rfl (Nat.le_of_ble_eq_true rfl) ⟨Nat.le_of_ble_eq_true rfl, Nat.le_of_ble_eq_true rfl, Nat.le_of_ble_eq_true rfl, Nat.le_of_ble_eq_true rfl⟩ zokc_9 (Lk.refl μ) h (fun v μ' hp => ?_) (fun E μ' hp => ?_)
  · obtain ⟨r, rfl, hm⟩ := hp
    show V _ _ _ _ _ _ [.int r, .int (nI 0), .ref (zad G.1 35 0 0)] _ _ _
    refine v_i2l (n := 13) dL_addPiste_12 rfl ?_
    refine v_last (n := 14) (j := 0) dL_addPiste_13 rfl hG zokc_35 (by decide) (by decide) rfl rfl (by decide) (fun _ => rfl) ?_
    refine v_goto (n := 29) dL_addPiste_14 (by decide) ?_
    refine v_iconst (n := 30) (x := nI 0) dL_addPiste_29 rfl rfl ?_
    exact v_iret dL_addPiste_30 rfl (Nat.le_of_ble_eq_true rfl) (Nat.le_of_ble_eq_true rfl) ⟨0, r, μ', by decide, rfl, Lk.ovr.upd (by decide), hm, fun _ => up_self _ _ _ _ _ _⟩
  · obtain ⟨k, hk, hm⟩ := hp
    match k, hk, hm with
    | 0, hk, hm =>
      cases hk
      refine v_catch (name := "java/lang/IndexOutOfBoundsException") (pre := []) (x := ⟨0, 14, 17, 13⟩) (suf := [⟨0, 14, 21, 15⟩, ⟨0, 14, 25, 17⟩]) rfl (fun _ h => absurd h List.not_mem_nil) rfl (by decide) cl_L_13 ca_IndexOutOfBoundsException (fun a => ?_)
      refine v_astore (n := 19) dL_addPiste_17 rfl (by decide) rfl ?_
      refine v_iconst (n := 20) (x := nI 1) dL_addPiste_19 rfl rfl ?_
      exact v_iret dL_addPiste_20 rfl (Nat.le_of_ble_eq_true rfl) (Nat.le_of_ble_eq_true rfl) ⟨1, _, μ', by decide, rfl, Lk.ovr, hm, fun z => by cases z⟩
    | 1, hk, hm =>
      cases hk
      refine v_catch (name := "java/lang/IllegalArgumentException") (pre := [⟨0, 14, 17, 13⟩]) (x := ⟨0, 14, 21, 15⟩) (suf := [⟨0, 14, 25, 17⟩]) rfl (List.forall_mem_cons.mpr ⟨⟨by decide, "java/lang/IndexOutOfBoundsException", cl_L_13, List.mem_of_getElem? (i := 0) rfl⟩, fun _ h => absurd h List.not_mem_nil⟩) rfl (by decide) cl_L_15 ca_IllegalArgumentException (fun a => ?_)
      refine v_astore (n := 23) dL_addPiste_21 rfl (by decide) rfl ?_
      refine v_iconst (n := 24) (x := nI 2) dL_addPiste_23 rfl rfl ?_
      exact v_iret dL_addPiste_24 rfl (Nat.le_of_ble_eq_true rfl) (Nat.le_of_ble_eq_true rfl) ⟨2, _, μ', by decide, rfl, Lk.ovr, hm, fun z => by cases z⟩
    | 2, hk, hm =>
      cases hk
      refine v_catch (name := "java/lang/IllegalStateException") (pre := [⟨0, 14, 17, 13⟩, ⟨0, 14, 21, 15⟩]) (x := ⟨0, 14, 25, 17⟩) (suf := []) rfl (List.forall_mem_cons.mpr ⟨⟨by decide, "java/lang/IndexOutOfBoundsException", cl_L_13, List.mem_of_getElem? (i := 1) rfl⟩, List.forall_mem_cons.mpr ⟨⟨by decide, "java/lang/IllegalArgumentException", cl_L_15, List.mem_of_getElem? (i := 2) rfl⟩, fun _ h => absurd h List.not_mem_nil⟩⟩) rfl (by decide) cl_L_17 ca_IllegalStateException (fun a => ?_)
      refine v_astore (n := 27) dL_addPiste_25 rfl (by decide) rfl ?_
      refine v_iconst (n := 28) (x := nI 3) dL_addPiste_27 rfl rfl ?_
      exact v_iret dL_addPiste_28 rfl (Nat.le_of_ble_eq_true rfl) (Nat.le_of_ble_eq_true rfl) ⟨3, _, μ', by decide, rfl, Lk.ovr, hm, fun z => by cases z⟩
    | j + 3, hk, hm => cases hk
theorem lw_setWind {G : Gl} {μ : St} {W : Nat} (hG : G.2.2.2 = true) (x1 : Int32) (h : Opn (offG G) mX7_setWind mX8_setWind [.int x1] W ["java/lang/IllegalArgumentException"] μ) : ConH G mL_setWind [.ref (zad G.1 9 0 0), .int x1, .ref (zad G.1 35 0 0)] μ (LW G mX8_setWind [.int x1] W) noX := by
  refine conH_of pn_L (Nat.le_of_ble_eq_true rfl) ?_
  show V G mL_setWind mL_setWind.2.2.2.2.1 (QM G mL_setWind (LW G mX8_setWind [.int x1] W) noX) 0 [(0, .ref (zad G.1 9 0 0)), (1, .int x1), (2, .ref (zad G.1 35 0 0))] [] μ 0 0
  refine v_aload_n (n := 1) dL_setWind_0 rfl rfl ?_
  refine v_iconst (n := 2) (x := nI 0) dL_setWind_1 rfl rfl ?_
  refine v_aload_n (n := 3) dL_setWind_2 rfl rfl ?_
  refine v_iload_n (n := 4) dL_setWind_3 rfl rfl ?_
  refine v_callV0 (n := 7) (k := 9) (b := 0) (i := 0) (As := [.int x1]) (rest := [.int (nI 0), .ref (zad G.1 35 0 0)]) dL_setWind_4 rfl lk_L_23 rfl rfl (Nat.le_of_ble_eq_true rfl) ⟨Nat.le_of_ble_eq_true rfl, Nat.le_of_ble_eq_true rfl, Nat.le_of_ble_eq_true rfl, Nat.le_of_ble_eq_true rfl⟩ zokc_9 (Lk.refl μ) h (fun v μ' hp => ?_) (fun E μ' hp => ?_)
  · obtain ⟨r, rfl, hm⟩ := hp
    show V _ _ _ _ _ _ [.int r, .int (nI 0), .ref (zad G.1 35 0 0)] _ _ _
    refine v_i2l (n := 8) dL_setWind_7 rfl ?_
    refine v_last (n := 9) (j := 0) dL_setWind_8 rfl hG zokc_35 (by decide) (by decide) rfl rfl (by decide) (fun _ => rfl) ?_
    refine v_goto (n := 15) dL_setWind_9 (by decide) ?_
    refine v_iconst (n := 16) (x := nI 0) dL_setWind_15 rfl rfl ?_
    exact v_iret dL_setWind_16 rfl (Nat.le_of_ble_eq_true rfl) (Nat.le_of_ble_eq_true rfl) ⟨0, r, μ', by decide, rfl, Lk.ovr.upd (by decide), hm, fun _ => up_self _ _ _ _ _ _⟩
  · obtain ⟨k, hk, hm⟩ := hp
    match k, hk, hm with
    | 0, hk, hm =>
      cases hk
      refine v_catch (name := "java/lang/IllegalArgumentException") (pre := []) (x := ⟨0, 9, 12, 15⟩) (suf := []) rfl (fun _ h => absurd h List.not_mem_nil) rfl (by decide) cl_L_15 ca_IllegalArgumentException (fun a => ?_)
      refine v_astore_n (n := 13) dL_setWind_12 rfl (by decide) rfl ?_
      refine v_iconst (n := 14) (x := nI 1) dL_setWind_13 rfl rfl ?_
      exact v_iret dL_setWind_14 rfl (Nat.le_of_ble_eq_true rfl) (Nat.le_of_ble_eq_true rfl) ⟨1, _, μ', by decide, rfl, Lk.ovr, hm, fun z => by cases z⟩
    | j + 1, hk, hm => cases hk
theorem lw_lift {G : Gl} {μ : St} {W : Nat} (hG : G.2.2.2 = true) (x1 x2 : Int32) (h : Opn (offG G) mX7_lift mX8_lift [.int x1, .int x2] W ["java/lang/IndexOutOfBoundsException", "java/lang/IllegalArgumentException"] μ) : ConH G mL_lift [.ref (zad G.1 9 0 0), .int x1, .int x2, .ref (zad G.1 35 0 0)] μ (LW G mX8_lift [.int x1, .int x2] W) noX := by
  refine conH_of pn_L (Nat.le_of_ble_eq_true rfl) ?_
  show V G mL_lift mL_lift.2.2.2.2.1 (QM G mL_lift (LW G mX8_lift [.int x1, .int x2] W) noX) 0 [(0, .ref (zad G.1 9 0 0)), (1, .int x1), (2, .int x2), (3, .ref (zad G.1 35 0 0))] [] μ 0 0
  refine v_aload_n (n := 1) dL_lift_0 rfl rfl ?_
  refine v_iconst (n := 2) (x := nI 0) dL_lift_1 rfl rfl ?_
  refine v_aload_n (n := 3) dL_lift_2 rfl rfl ?_
  refine v_iload_n (n := 4) dL_lift_3 rfl rfl ?_
  refine v_iload_n (n := 5) dL_lift_4 rfl rfl ?_
  refine v_callV0 (n := 8) (k := 9) (b := 0) (i := 0) (As := [.int x1, .int x2]) (rest := [.int (nI 0), .ref (zad G.1 35 0 0)]) dL_lift_5 rfl lk_L_27 rfl rfl (Nat.le_of_ble_eq_true rfl) ⟨Nat.le_of_ble_eq_true rfl, Nat.le_of_ble_eq_true rfl, Nat.le_of_ble_eq_true rfl, Nat.le_of_ble_eq_true rfl⟩ zokc_9 (Lk.refl μ) h (fun v μ' hp => ?_) (fun E μ' hp => ?_)
  · obtain ⟨r, rfl, hm⟩ := hp
    show V _ _ _ _ _ _ [.int r, .int (nI 0), .ref (zad G.1 35 0 0)] _ _ _
    refine v_i2l (n := 9) dL_lift_8 rfl ?_
    refine v_last (n := 10) (j := 0) dL_lift_9 rfl hG zokc_35 (by decide) (by decide) rfl rfl (by decide) (fun _ => rfl) ?_
    refine v_goto (n := 21) dL_lift_10 (by decide) ?_
    refine v_iconst (n := 22) (x := nI 0) dL_lift_21 rfl rfl ?_
    exact v_iret dL_lift_22 rfl (Nat.le_of_ble_eq_true rfl) (Nat.le_of_ble_eq_true rfl) ⟨0, r, μ', by decide, rfl, Lk.ovr.upd (by decide), hm, fun _ => up_self _ _ _ _ _ _⟩
  · obtain ⟨k, hk, hm⟩ := hp
    match k, hk, hm with
    | 0, hk, hm =>
      cases hk
      refine v_catch (name := "java/lang/IndexOutOfBoundsException") (pre := []) (x := ⟨0, 10, 13, 13⟩) (suf := [⟨0, 10, 17, 15⟩]) rfl (fun _ h => absurd h List.not_mem_nil) rfl (by decide) cl_L_13 ca_IndexOutOfBoundsException (fun a => ?_)
      refine v_astore (n := 15) dL_lift_13 rfl (by decide) rfl ?_
      refine v_iconst (n := 16) (x := nI 1) dL_lift_15 rfl rfl ?_
      exact v_iret dL_lift_16 rfl (Nat.le_of_ble_eq_true rfl) (Nat.le_of_ble_eq_true rfl) ⟨1, _, μ', by decide, rfl, Lk.ovr, hm, fun z => by cases z⟩
    | 1, hk, hm =>
      cases hk
      refine v_catch (name := "java/lang/IllegalArgumentException") (pre := [⟨0, 10, 13, 13⟩]) (x := ⟨0, 10, 17, 15⟩) (suf := []) rfl (List.forall_mem_cons.mpr ⟨⟨by decide, "java/lang/IndexOutOfBoundsException", cl_L_13, List.mem_of_getElem? (i := 0) rfl⟩, fun _ h => absurd h List.not_mem_nil⟩) rfl (by decide) cl_L_15 ca_IllegalArgumentException (fun a => ?_)
      refine v_astore (n := 19) dL_lift_17 rfl (by decide) rfl ?_
      refine v_iconst (n := 20) (x := nI 2) dL_lift_19 rfl rfl ?_
      exact v_iret dL_lift_20 rfl (Nat.le_of_ble_eq_true rfl) (Nat.le_of_ble_eq_true rfl) ⟨2, _, μ', by decide, rfl, Lk.ovr, hm, fun z => by cases z⟩
    | j + 2, hk, hm => cases hk
theorem lw_piste {G : Gl} {μ : St} {W : Nat} (hG : G.2.2.2 = true) (x1 x2 : Int32) (h : Opn (offG G) mX7_piste mX8_piste [.int x1, .int x2] W ["java/lang/IndexOutOfBoundsException", "java/lang/IllegalArgumentException"] μ) : ConH G mL_piste [.ref (zad G.1 9 0 0), .int x1, .int x2, .ref (zad G.1 35 0 0)] μ (LW G mX8_piste [.int x1, .int x2] W) noX := by
  refine conH_of pn_L (Nat.le_of_ble_eq_true rfl) ?_
  show V G mL_piste mL_piste.2.2.2.2.1 (QM G mL_piste (LW G mX8_piste [.int x1, .int x2] W) noX) 0 [(0, .ref (zad G.1 9 0 0)), (1, .int x1), (2, .int x2), (3, .ref (zad G.1 35 0 0))] [] μ 0 0
  refine v_aload_n (n := 1) dL_piste_0 rfl rfl ?_
  refine v_iconst (n := 2) (x := nI 0) dL_piste_1 rfl rfl ?_
  refine v_aload_n (n := 3) dL_piste_2 rfl rfl ?_
  refine v_iload_n (n := 4) dL_piste_3 rfl rfl ?_
  refine v_iload_n (n := 5) dL_piste_4 rfl rfl ?_
  refine v_callV0 (n := 8) (k := 9) (b := 0) (i := 0) (As := [.int x1, .int x2]) (rest := [.int (nI 0), .ref (zad G.1 35 0 0)]) dL_piste_5 rfl lk_L_31 rfl rfl (Nat.le_of_ble_eq_true rfl) ⟨Nat.le_of_ble_eq_true rfl, Nat.le_of_ble_eq_true rfl, Nat.le_of_ble_eq_true rfl, Nat.le_of_ble_eq_true rfl⟩ zokc_9 (Lk.refl μ) h (fun v μ' hp => ?_) (fun E μ' hp => ?_)
  · obtain ⟨r, rfl, hm⟩ := hp
    show V _ _ _ _ _ _ [.int r, .int (nI 0), .ref (zad G.1 35 0 0)] _ _ _
    refine v_i2l (n := 9) dL_piste_8 rfl ?_
    refine v_last (n := 10) (j := 0) dL_piste_9 rfl hG zokc_35 (by decide) (by decide) rfl rfl (by decide) (fun _ => rfl) ?_
    refine v_goto (n := 21) dL_piste_10 (by decide) ?_
    refine v_iconst (n := 22) (x := nI 0) dL_piste_21 rfl rfl ?_
    exact v_iret dL_piste_22 rfl (Nat.le_of_ble_eq_true rfl) (Nat.le_of_ble_eq_true rfl) ⟨0, r, μ', by decide, rfl, Lk.ovr.upd (by decide), hm, fun _ => up_self _ _ _ _ _ _⟩
  · obtain ⟨k, hk, hm⟩ := hp
    match k, hk, hm with
    | 0, hk, hm =>
      cases hk
      refine v_catch (name := "java/lang/IndexOutOfBoundsException") (pre := []) (x := ⟨0, 10, 13, 13⟩) (suf := [⟨0, 10, 17, 15⟩]) rfl (fun _ h => absurd h List.not_mem_nil) rfl (by decide) cl_L_13 ca_IndexOutOfBoundsException (fun a => ?_)
      refine v_astore (n := 15) dL_piste_13 rfl (by decide) rfl ?_
      refine v_iconst (n := 16) (x := nI 1) dL_piste_15 rfl rfl ?_
      exact v_iret dL_piste_16 rfl (Nat.le_of_ble_eq_true rfl) (Nat.le_of_ble_eq_true rfl) ⟨1, _, μ', by decide, rfl, Lk.ovr, hm, fun z => by cases z⟩
    | 1, hk, hm =>
      cases hk
      refine v_catch (name := "java/lang/IllegalArgumentException") (pre := [⟨0, 10, 13, 13⟩]) (x := ⟨0, 10, 17, 15⟩) (suf := []) rfl (List.forall_mem_cons.mpr ⟨⟨by decide, "java/lang/IndexOutOfBoundsException", cl_L_13, List.mem_of_getElem? (i := 0) rfl⟩, fun _ h => absurd h List.not_mem_nil⟩) rfl (by decide) cl_L_15 ca_IllegalArgumentException (fun a => ?_)
      refine v_astore (n := 19) dL_piste_17 rfl (by decide) rfl ?_
      refine v_iconst (n := 20) (x := nI 2) dL_piste_19 rfl rfl ?_
      exact v_iret dL_piste_20 rfl (Nat.le_of_ble_eq_true rfl) (Nat.le_of_ble_eq_true rfl) ⟨2, _, μ', by decide, rfl, Lk.ovr, hm, fun z => by cases z⟩
    | j + 2, hk, hm => cases hk
theorem lw_open {G : Gl} {μ : St} {W : Nat} (hG : G.2.2.2 = true) (x1 x2 : Int32) (h : Opn (offG G) mX7_open mX8_open [.int x1, .int x2] W ["java/lang/IndexOutOfBoundsException", "java/lang/IllegalStateException"] μ) : ConH G mL_open [.ref (zad G.1 9 0 0), .int x1, .int x2, .ref (zad G.1 35 0 0)] μ (LW G mX8_open [.int x1, .int x2] W) noX := by
  refine conH_of pn_L (Nat.le_of_ble_eq_true rfl) ?_
  show V G mL_open mL_open.2.2.2.2.1 (QM G mL_open (LW G mX8_open [.int x1, .int x2] W) noX) 0 [(0, .ref (zad G.1 9 0 0)), (1, .int x1), (2, .int x2), (3, .ref (zad G.1 35 0 0))] [] μ 0 0
  refine v_aload_n (n := 1) dL_open_0 rfl rfl ?_
  refine v_iconst (n := 2) (x := nI 0) dL_open_1 rfl rfl ?_
  refine v_aload_n (n := 3) dL_open_2 rfl rfl ?_
  refine v_iload_n (n := 4) dL_open_3 rfl rfl ?_
  refine v_iload_n (n := 5) dL_open_4 rfl rfl ?_
  refine v_callV0 (n := 8) (k := 9) (b := 0) (i := 0) (As := [.int x1, .int x2]) (rest := [.int (nI 0), .ref (zad G.1 35 0 0)]) dL_open_5 rfl lk_L_34 rfl rfl (Nat.le_of_ble_eq_true rfl) ⟨Nat.le_of_ble_eq_true rfl, Nat.le_of_ble_eq_true rfl, Nat.le_of_ble_eq_true rfl, Nat.le_of_ble_eq_true rfl⟩ zokc_9 (Lk.refl μ) h (fun v μ' hp => ?_) (fun E μ' hp => ?_)
  · obtain ⟨r, rfl, hm⟩ := hp
    show V _ _ _ _ _ _ [.int r, .int (nI 0), .ref (zad G.1 35 0 0)] _ _ _
    refine v_i2l (n := 9) dL_open_8 rfl ?_
    refine v_last (n := 10) (j := 0) dL_open_9 rfl hG zokc_35 (by decide) (by decide) rfl rfl (by decide) (fun _ => rfl) ?_
    refine v_goto (n := 21) dL_open_10 (by decide) ?_
    refine v_iconst (n := 22) (x := nI 0) dL_open_21 rfl rfl ?_
    exact v_iret dL_open_22 rfl (Nat.le_of_ble_eq_true rfl) (Nat.le_of_ble_eq_true rfl) ⟨0, r, μ', by decide, rfl, Lk.ovr.upd (by decide), hm, fun _ => up_self _ _ _ _ _ _⟩
  · obtain ⟨k, hk, hm⟩ := hp
    match k, hk, hm with
    | 0, hk, hm =>
      cases hk
      refine v_catch (name := "java/lang/IndexOutOfBoundsException") (pre := []) (x := ⟨0, 10, 13, 13⟩) (suf := [⟨0, 10, 17, 17⟩]) rfl (fun _ h => absurd h List.not_mem_nil) rfl (by decide) cl_L_13 ca_IndexOutOfBoundsException (fun a => ?_)
      refine v_astore (n := 15) dL_open_13 rfl (by decide) rfl ?_
      refine v_iconst (n := 16) (x := nI 1) dL_open_15 rfl rfl ?_
      exact v_iret dL_open_16 rfl (Nat.le_of_ble_eq_true rfl) (Nat.le_of_ble_eq_true rfl) ⟨1, _, μ', by decide, rfl, Lk.ovr, hm, fun z => by cases z⟩
    | 1, hk, hm =>
      cases hk
      refine v_catch (name := "java/lang/IllegalStateException") (pre := [⟨0, 10, 13, 13⟩]) (x := ⟨0, 10, 17, 17⟩) (suf := []) rfl (List.forall_mem_cons.mpr ⟨⟨by decide, "java/lang/IndexOutOfBoundsException", cl_L_13, List.mem_of_getElem? (i := 1) rfl⟩, fun _ h => absurd h List.not_mem_nil⟩) rfl (by decide) cl_L_17 ca_IllegalStateException (fun a => ?_)
      refine v_astore (n := 19) dL_open_17 rfl (by decide) rfl ?_
      refine v_iconst (n := 20) (x := nI 2) dL_open_19 rfl rfl ?_
      exact v_iret dL_open_20 rfl (Nat.le_of_ble_eq_true rfl) (Nat.le_of_ble_eq_true rfl) ⟨2, _, μ', by decide, rfl, Lk.ovr, hm, fun z => by cases z⟩
    | j + 2, hk, hm => cases hk
theorem lw_groom {G : Gl} {μ : St} {W : Nat} (hG : G.2.2.2 = true) (x1 : Int32) (h : Opn (offG G) mX7_groom mX8_groom [.int x1] W ["java/lang/IndexOutOfBoundsException", "java/lang/IllegalStateException"] μ) : ConH G mL_groom [.ref (zad G.1 9 0 0), .int x1, .ref (zad G.1 35 0 0)] μ (LW G mX8_groom [.int x1] W) noX := by
  refine conH_of pn_L (Nat.le_of_ble_eq_true rfl) ?_
  show V G mL_groom mL_groom.2.2.2.2.1 (QM G mL_groom (LW G mX8_groom [.int x1] W) noX) 0 [(0, .ref (zad G.1 9 0 0)), (1, .int x1), (2, .ref (zad G.1 35 0 0))] [] μ 0 0
  refine v_aload_n (n := 1) dL_groom_0 rfl rfl ?_
  refine v_iconst (n := 2) (x := nI 0) dL_groom_1 rfl rfl ?_
  refine v_aload_n (n := 3) dL_groom_2 rfl rfl ?_
  refine v_iload_n (n := 4) dL_groom_3 rfl rfl ?_
  refine v_callV0 (n := 7) (k := 9) (b := 0) (i := 0) (As := [.int x1]) (rest := [.int (nI 0), .ref (zad G.1 35 0 0)]) dL_groom_4 rfl lk_L_38 rfl rfl (Nat.le_of_ble_eq_true rfl) ⟨Nat.le_of_ble_eq_true rfl, Nat.le_of_ble_eq_true rfl, Nat.le_of_ble_eq_true rfl, Nat.le_of_ble_eq_true rfl⟩ zokc_9 (Lk.refl μ) h (fun v μ' hp => ?_) (fun E μ' hp => ?_)
  · obtain ⟨r, rfl, hm⟩ := hp
    show V _ _ _ _ _ _ [.int r, .int (nI 0), .ref (zad G.1 35 0 0)] _ _ _
    refine v_i2l (n := 8) dL_groom_7 rfl ?_
    refine v_last (n := 9) (j := 0) dL_groom_8 rfl hG zokc_35 (by decide) (by decide) rfl rfl (by decide) (fun _ => rfl) ?_
    refine v_goto (n := 18) dL_groom_9 (by decide) ?_
    refine v_iconst (n := 19) (x := nI 0) dL_groom_18 rfl rfl ?_
    exact v_iret dL_groom_19 rfl (Nat.le_of_ble_eq_true rfl) (Nat.le_of_ble_eq_true rfl) ⟨0, r, μ', by decide, rfl, Lk.ovr.upd (by decide), hm, fun _ => up_self _ _ _ _ _ _⟩
  · obtain ⟨k, hk, hm⟩ := hp
    match k, hk, hm with
    | 0, hk, hm =>
      cases hk
      refine v_catch (name := "java/lang/IndexOutOfBoundsException") (pre := []) (x := ⟨0, 9, 12, 13⟩) (suf := [⟨0, 9, 15, 17⟩]) rfl (fun _ h => absurd h List.not_mem_nil) rfl (by decide) cl_L_13 ca_IndexOutOfBoundsException (fun a => ?_)
      refine v_astore_n (n := 13) dL_groom_12 rfl (by decide) rfl ?_
      refine v_iconst (n := 14) (x := nI 1) dL_groom_13 rfl rfl ?_
      exact v_iret dL_groom_14 rfl (Nat.le_of_ble_eq_true rfl) (Nat.le_of_ble_eq_true rfl) ⟨1, _, μ', by decide, rfl, Lk.ovr, hm, fun z => by cases z⟩
    | 1, hk, hm =>
      cases hk
      refine v_catch (name := "java/lang/IllegalStateException") (pre := [⟨0, 9, 12, 13⟩]) (x := ⟨0, 9, 15, 17⟩) (suf := []) rfl (List.forall_mem_cons.mpr ⟨⟨by decide, "java/lang/IndexOutOfBoundsException", cl_L_13, List.mem_of_getElem? (i := 1) rfl⟩, fun _ h => absurd h List.not_mem_nil⟩) rfl (by decide) cl_L_17 ca_IllegalStateException (fun a => ?_)
      refine v_astore_n (n := 16) dL_groom_15 rfl (by decide) rfl ?_
      refine v_iconst (n := 17) (x := nI 2) dL_groom_16 rfl rfl ?_
      exact v_iret dL_groom_17 rfl (Nat.le_of_ble_eq_true rfl) (Nat.le_of_ble_eq_true rfl) ⟨2, _, μ', by decide, rfl, Lk.ovr, hm, fun z => by cases z⟩
    | j + 2, hk, hm => cases hk
theorem lw_count {G : Gl} {μ : St} {W : Nat} (hG : G.2.2.2 = true) (x1 : Int32) (h : Opn (offG G) mX7_count mX8_count [.int x1] W ["java/lang/IllegalArgumentException"] μ) : ConH G mL_count [.ref (zad G.1 9 0 0), .int x1, .ref (zad G.1 35 0 0)] μ (LW G mX8_count [.int x1] W) noX := by
  refine conH_of pn_L (Nat.le_of_ble_eq_true rfl) ?_
  show V G mL_count mL_count.2.2.2.2.1 (QM G mL_count (LW G mX8_count [.int x1] W) noX) 0 [(0, .ref (zad G.1 9 0 0)), (1, .int x1), (2, .ref (zad G.1 35 0 0))] [] μ 0 0
  refine v_aload_n (n := 1) dL_count_0 rfl rfl ?_
  refine v_iconst (n := 2) (x := nI 0) dL_count_1 rfl rfl ?_
  refine v_aload_n (n := 3) dL_count_2 rfl rfl ?_
  refine v_iload_n (n := 4) dL_count_3 rfl rfl ?_
  refine v_callV0 (n := 7) (k := 9) (b := 0) (i := 0) (As := [.int x1]) (rest := [.int (nI 0), .ref (zad G.1 35 0 0)]) dL_count_4 rfl lk_L_41 rfl rfl (Nat.le_of_ble_eq_true rfl) ⟨Nat.le_of_ble_eq_true rfl, Nat.le_of_ble_eq_true rfl, Nat.le_of_ble_eq_true rfl, Nat.le_of_ble_eq_true rfl⟩ zokc_9 (Lk.refl μ) h (fun v μ' hp => ?_) (fun E μ' hp => ?_)
  · obtain ⟨r, rfl, hm⟩ := hp
    show V _ _ _ _ _ _ [.int r, .int (nI 0), .ref (zad G.1 35 0 0)] _ _ _
    refine v_i2l (n := 8) dL_count_7 rfl ?_
    refine v_last (n := 9) (j := 0) dL_count_8 rfl hG zokc_35 (by decide) (by decide) rfl rfl (by decide) (fun _ => rfl) ?_
    refine v_goto (n := 15) dL_count_9 (by decide) ?_
    refine v_iconst (n := 16) (x := nI 0) dL_count_15 rfl rfl ?_
    exact v_iret dL_count_16 rfl (Nat.le_of_ble_eq_true rfl) (Nat.le_of_ble_eq_true rfl) ⟨0, r, μ', by decide, rfl, Lk.ovr.upd (by decide), hm, fun _ => up_self _ _ _ _ _ _⟩
  · obtain ⟨k, hk, hm⟩ := hp
    match k, hk, hm with
    | 0, hk, hm =>
      cases hk
      refine v_catch (name := "java/lang/IllegalArgumentException") (pre := []) (x := ⟨0, 9, 12, 15⟩) (suf := []) rfl (fun _ h => absurd h List.not_mem_nil) rfl (by decide) cl_L_15 ca_IllegalArgumentException (fun a => ?_)
      refine v_astore_n (n := 13) dL_count_12 rfl (by decide) rfl ?_
      refine v_iconst (n := 14) (x := nI 1) dL_count_13 rfl rfl ?_
      exact v_iret dL_count_14 rfl (Nat.le_of_ble_eq_true rfl) (Nat.le_of_ble_eq_true rfl) ⟨1, _, μ', by decide, rfl, Lk.ovr, hm, fun z => by cases z⟩
    | j + 1, hk, hm => cases hk
theorem lw_addGuest {G : Gl} {μ : St} {W : Nat} (hG : G.2.2.2 = true) (x1 x2 x3 x4 x5 : Int32) (h : Opn (offG G) mX7_addGuest mX8_addGuest [.int x1, .int x2, .int x3, .int x4, .int x5] W ["java/lang/IndexOutOfBoundsException", "java/lang/IllegalArgumentException", "java/lang/IllegalStateException"] μ) : ConH G mL_addGuest [.ref (zad G.1 9 0 0), .int x1, .int x2, .int x3, .int x4, .int x5, .ref (zad G.1 35 0 0)] μ (LW G mX8_addGuest [.int x1, .int x2, .int x3, .int x4, .int x5] W) noX := by
  refine conH_of pn_L (Nat.le_of_ble_eq_true rfl) ?_
  show V G mL_addGuest mL_addGuest.2.2.2.2.1 (QM G mL_addGuest (LW G mX8_addGuest [.int x1, .int x2, .int x3, .int x4, .int x5] W) noX) 0 [(0, .ref (zad G.1 9 0 0)), (1, .int x1), (2, .int x2), (3, .int x3), (4, .int x4), (5, .int x5), (6, .ref (zad G.1 35 0 0))] [] μ 0 0
  refine v_aload (n := 2) dL_addGuest_0 rfl rfl ?_
  refine v_iconst (n := 3) (x := nI 0) dL_addGuest_2 rfl rfl ?_
  refine v_aload_n (n := 4) dL_addGuest_3 rfl rfl ?_
  refine v_iload_n (n := 5) dL_addGuest_4 rfl rfl ?_
  refine v_iload_n (n := 6) dL_addGuest_5 rfl rfl ?_
  refine v_iload_n (n := 7) dL_addGuest_6 rfl rfl ?_
  refine v_iload (n := 9) dL_addGuest_7 rfl rfl ?_
  refine v_iload (n := 11) dL_addGuest_9 rfl rfl ?_
  refine v_callV0 (n := 14) (k := 9) (b := 0) (i := 0) (As := [.int x1, .int x2, .int x3, .int x4, .int x5]) (rest := [.int (nI 0), .ref (zad G.1 35 0 0)]) dL_addGuest_11 rfl lk_L_44 rfl rfl (Nat.le_of_ble_eq_true rfl) ⟨Nat.le_of_ble_eq_true rfl, Nat.le_of_ble_eq_true rfl, Nat.le_of_ble_eq_true rfl, Nat.le_of_ble_eq_true rfl⟩ zokc_9 (Lk.refl μ) h (fun v μ' hp => ?_) (fun E μ' hp => ?_)
  · obtain ⟨r, rfl, hm⟩ := hp
    show V _ _ _ _ _ _ [.int r, .int (nI 0), .ref (zad G.1 35 0 0)] _ _ _
    refine v_i2l (n := 15) dL_addGuest_14 rfl ?_
    refine v_last (n := 16) (j := 0) dL_addGuest_15 rfl hG zokc_35 (by decide) (by decide) rfl rfl (by decide) (fun _ => rfl) ?_
    refine v_goto (n := 31) dL_addGuest_16 (by decide) ?_
    refine v_iconst (n := 32) (x := nI 0) dL_addGuest_31 rfl rfl ?_
    exact v_iret dL_addGuest_32 rfl (Nat.le_of_ble_eq_true rfl) (Nat.le_of_ble_eq_true rfl) ⟨0, r, μ', by decide, rfl, Lk.ovr.upd (by decide), hm, fun _ => up_self _ _ _ _ _ _⟩
  · obtain ⟨k, hk, hm⟩ := hp
    match k, hk, hm with
    | 0, hk, hm =>
      cases hk
      refine v_catch (name := "java/lang/IndexOutOfBoundsException") (pre := []) (x := ⟨0, 16, 19, 13⟩) (suf := [⟨0, 16, 23, 15⟩, ⟨0, 16, 27, 17⟩]) rfl (fun _ h => absurd h List.not_mem_nil) rfl (by decide) cl_L_13 ca_IndexOutOfBoundsException (fun a => ?_)
      refine v_astore (n := 21) dL_addGuest_19 rfl (by decide) rfl ?_
      refine v_iconst (n := 22) (x := nI 1) dL_addGuest_21 rfl rfl ?_
      exact v_iret dL_addGuest_22 rfl (Nat.le_of_ble_eq_true rfl) (Nat.le_of_ble_eq_true rfl) ⟨1, _, μ', by decide, rfl, Lk.ovr, hm, fun z => by cases z⟩
    | 1, hk, hm =>
      cases hk
      refine v_catch (name := "java/lang/IllegalArgumentException") (pre := [⟨0, 16, 19, 13⟩]) (x := ⟨0, 16, 23, 15⟩) (suf := [⟨0, 16, 27, 17⟩]) rfl (List.forall_mem_cons.mpr ⟨⟨by decide, "java/lang/IndexOutOfBoundsException", cl_L_13, List.mem_of_getElem? (i := 0) rfl⟩, fun _ h => absurd h List.not_mem_nil⟩) rfl (by decide) cl_L_15 ca_IllegalArgumentException (fun a => ?_)
      refine v_astore (n := 25) dL_addGuest_23 rfl (by decide) rfl ?_
      refine v_iconst (n := 26) (x := nI 2) dL_addGuest_25 rfl rfl ?_
      exact v_iret dL_addGuest_26 rfl (Nat.le_of_ble_eq_true rfl) (Nat.le_of_ble_eq_true rfl) ⟨2, _, μ', by decide, rfl, Lk.ovr, hm, fun z => by cases z⟩
    | 2, hk, hm =>
      cases hk
      refine v_catch (name := "java/lang/IllegalStateException") (pre := [⟨0, 16, 19, 13⟩, ⟨0, 16, 23, 15⟩]) (x := ⟨0, 16, 27, 17⟩) (suf := []) rfl (List.forall_mem_cons.mpr ⟨⟨by decide, "java/lang/IndexOutOfBoundsException", cl_L_13, List.mem_of_getElem? (i := 1) rfl⟩, List.forall_mem_cons.mpr ⟨⟨by decide, "java/lang/IllegalArgumentException", cl_L_15, List.mem_of_getElem? (i := 2) rfl⟩, fun _ h => absurd h List.not_mem_nil⟩⟩) rfl (by decide) cl_L_17 ca_IllegalStateException (fun a => ?_)
      refine v_astore (n := 29) dL_addGuest_27 rfl (by decide) rfl ?_
      refine v_iconst (n := 30) (x := nI 3) dL_addGuest_29 rfl rfl ?_
      exact v_iret dL_addGuest_30 rfl (Nat.le_of_ble_eq_true rfl) (Nat.le_of_ble_eq_true rfl) ⟨3, _, μ', by decide, rfl, Lk.ovr, hm, fun z => by cases z⟩
    | j + 3, hk, hm => cases hk
theorem lw_guest {G : Gl} {μ : St} {W : Nat} (hG : G.2.2.2 = true) (x1 x2 : Int32) (h : Opn (offG G) mX7_guest mX8_guest [.int x1, .int x2] W ["java/lang/IndexOutOfBoundsException", "java/lang/IllegalArgumentException"] μ) : ConH G mL_guest [.ref (zad G.1 9 0 0), .int x1, .int x2, .ref (zad G.1 35 0 0)] μ (LW G mX8_guest [.int x1, .int x2] W) noX := by
  refine conH_of pn_L (Nat.le_of_ble_eq_true rfl) ?_
  show V G mL_guest mL_guest.2.2.2.2.1 (QM G mL_guest (LW G mX8_guest [.int x1, .int x2] W) noX) 0 [(0, .ref (zad G.1 9 0 0)), (1, .int x1), (2, .int x2), (3, .ref (zad G.1 35 0 0))] [] μ 0 0
  refine v_aload_n (n := 1) dL_guest_0 rfl rfl ?_
  refine v_iconst (n := 2) (x := nI 0) dL_guest_1 rfl rfl ?_
  refine v_aload_n (n := 3) dL_guest_2 rfl rfl ?_
  refine v_iload_n (n := 4) dL_guest_3 rfl rfl ?_
  refine v_iload_n (n := 5) dL_guest_4 rfl rfl ?_
  refine v_callV0 (n := 8) (k := 9) (b := 0) (i := 0) (As := [.int x1, .int x2]) (rest := [.int (nI 0), .ref (zad G.1 35 0 0)]) dL_guest_5 rfl lk_L_48 rfl rfl (Nat.le_of_ble_eq_true rfl) ⟨Nat.le_of_ble_eq_true rfl, Nat.le_of_ble_eq_true rfl, Nat.le_of_ble_eq_true rfl, Nat.le_of_ble_eq_true rfl⟩ zokc_9 (Lk.refl μ) h (fun v μ' hp => ?_) (fun E μ' hp => ?_)
  · obtain ⟨r, rfl, hm⟩ := hp
    show V _ _ _ _ _ _ [.int r, .int (nI 0), .ref (zad G.1 35 0 0)] _ _ _
    refine v_i2l (n := 9) dL_guest_8 rfl ?_
    refine v_last (n := 10) (j := 0) dL_guest_9 rfl hG zokc_35 (by decide) (by decide) rfl rfl (by decide) (fun _ => rfl) ?_
    refine v_goto (n := 21) dL_guest_10 (by decide) ?_
    refine v_iconst (n := 22) (x := nI 0) dL_guest_21 rfl rfl ?_
    exact v_iret dL_guest_22 rfl (Nat.le_of_ble_eq_true rfl) (Nat.le_of_ble_eq_true rfl) ⟨0, r, μ', by decide, rfl, Lk.ovr.upd (by decide), hm, fun _ => up_self _ _ _ _ _ _⟩
  · obtain ⟨k, hk, hm⟩ := hp
    match k, hk, hm with
    | 0, hk, hm =>
      cases hk
      refine v_catch (name := "java/lang/IndexOutOfBoundsException") (pre := []) (x := ⟨0, 10, 13, 13⟩) (suf := [⟨0, 10, 17, 15⟩]) rfl (fun _ h => absurd h List.not_mem_nil) rfl (by decide) cl_L_13 ca_IndexOutOfBoundsException (fun a => ?_)
      refine v_astore (n := 15) dL_guest_13 rfl (by decide) rfl ?_
      refine v_iconst (n := 16) (x := nI 1) dL_guest_15 rfl rfl ?_
      exact v_iret dL_guest_16 rfl (Nat.le_of_ble_eq_true rfl) (Nat.le_of_ble_eq_true rfl) ⟨1, _, μ', by decide, rfl, Lk.ovr, hm, fun z => by cases z⟩
    | 1, hk, hm =>
      cases hk
      refine v_catch (name := "java/lang/IllegalArgumentException") (pre := [⟨0, 10, 13, 13⟩]) (x := ⟨0, 10, 17, 15⟩) (suf := []) rfl (List.forall_mem_cons.mpr ⟨⟨by decide, "java/lang/IndexOutOfBoundsException", cl_L_13, List.mem_of_getElem? (i := 0) rfl⟩, fun _ h => absurd h List.not_mem_nil⟩) rfl (by decide) cl_L_15 ca_IllegalArgumentException (fun a => ?_)
      refine v_astore (n := 19) dL_guest_17 rfl (by decide) rfl ?_
      refine v_iconst (n := 20) (x := nI 2) dL_guest_19 rfl rfl ?_
      exact v_iret dL_guest_20 rfl (Nat.le_of_ble_eq_true rfl) (Nat.le_of_ble_eq_true rfl) ⟨2, _, μ', by decide, rfl, Lk.ovr, hm, fun z => by cases z⟩
    | j + 2, hk, hm => cases hk
theorem lw_queue {G : Gl} {μ : St} {W : Nat} (hG : G.2.2.2 = true) (x1 x2 : Int32) (h : Opn (offG G) mX7_queue mX8_queue [.int x1, .int x2] W ["java/lang/IndexOutOfBoundsException", "java/lang/UnsupportedOperationException"] μ) : ConH G mL_queue [.ref (zad G.1 9 0 0), .int x1, .int x2, .ref (zad G.1 35 0 0)] μ (LW G mX8_queue [.int x1, .int x2] W) noX := by
  refine conH_of pn_L (Nat.le_of_ble_eq_true rfl) ?_
  show V G mL_queue mL_queue.2.2.2.2.1 (QM G mL_queue (LW G mX8_queue [.int x1, .int x2] W) noX) 0 [(0, .ref (zad G.1 9 0 0)), (1, .int x1), (2, .int x2), (3, .ref (zad G.1 35 0 0))] [] μ 0 0
  refine v_aload_n (n := 1) dL_queue_0 rfl rfl ?_
  refine v_iconst (n := 2) (x := nI 0) dL_queue_1 rfl rfl ?_
  refine v_aload_n (n := 3) dL_queue_2 rfl rfl ?_
  refine v_iload_n (n := 4) dL_queue_3 rfl rfl ?_
  refine v_iload_n (n := 5) dL_queue_4 rfl rfl ?_
  refine v_callV0 (n := 8) (k := 9) (b := 0) (i := 0) (As := [.int x1, .int x2]) (rest := [.int (nI 0), .ref (zad G.1 35 0 0)]) dL_queue_5 rfl lk_L_51 rfl rfl (Nat.le_of_ble_eq_true rfl) ⟨Nat.le_of_ble_eq_true rfl, Nat.le_of_ble_eq_true rfl, Nat.le_of_ble_eq_true rfl, Nat.le_of_ble_eq_true rfl⟩ zokc_9 (Lk.refl μ) h (fun v μ' hp => ?_) (fun E μ' hp => ?_)
  · obtain ⟨r, rfl, hm⟩ := hp
    show V _ _ _ _ _ _ [.int r, .int (nI 0), .ref (zad G.1 35 0 0)] _ _ _
    refine v_i2l (n := 9) dL_queue_8 rfl ?_
    refine v_last (n := 10) (j := 0) dL_queue_9 rfl hG zokc_35 (by decide) (by decide) rfl rfl (by decide) (fun _ => rfl) ?_
    refine v_goto (n := 21) dL_queue_10 (by decide) ?_
    refine v_iconst (n := 22) (x := nI 0) dL_queue_21 rfl rfl ?_
    exact v_iret dL_queue_22 rfl (Nat.le_of_ble_eq_true rfl) (Nat.le_of_ble_eq_true rfl) ⟨0, r, μ', by decide, rfl, Lk.ovr.upd (by decide), hm, fun _ => up_self _ _ _ _ _ _⟩
  · obtain ⟨k, hk, hm⟩ := hp
    match k, hk, hm with
    | 0, hk, hm =>
      cases hk
      refine v_catch (name := "java/lang/IndexOutOfBoundsException") (pre := []) (x := ⟨0, 10, 13, 13⟩) (suf := [⟨0, 10, 17, 54⟩]) rfl (fun _ h => absurd h List.not_mem_nil) rfl (by decide) cl_L_13 ca_IndexOutOfBoundsException (fun a => ?_)
      refine v_astore (n := 15) dL_queue_13 rfl (by decide) rfl ?_
      refine v_iconst (n := 16) (x := nI 1) dL_queue_15 rfl rfl ?_
      exact v_iret dL_queue_16 rfl (Nat.le_of_ble_eq_true rfl) (Nat.le_of_ble_eq_true rfl) ⟨1, _, μ', by decide, rfl, Lk.ovr, hm, fun z => by cases z⟩
    | 1, hk, hm =>
      cases hk
      refine v_catch (name := "java/lang/UnsupportedOperationException") (pre := [⟨0, 10, 13, 13⟩]) (x := ⟨0, 10, 17, 54⟩) (suf := []) rfl (List.forall_mem_cons.mpr ⟨⟨by decide, "java/lang/IndexOutOfBoundsException", cl_L_13, List.mem_of_getElem? (i := 3) rfl⟩, fun _ h => absurd h List.not_mem_nil⟩) rfl (by decide) cl_L_54 ca_UnsupportedOperationException (fun a => ?_)
      refine v_astore (n := 19) dL_queue_17 rfl (by decide) rfl ?_
      refine v_iconst (n := 20) (x := nI 2) dL_queue_19 rfl rfl ?_
      exact v_iret dL_queue_20 rfl (Nat.le_of_ble_eq_true rfl) (Nat.le_of_ble_eq_true rfl) ⟨2, _, μ', by decide, rfl, Lk.ovr, hm, fun z => by cases z⟩
    | j + 2, hk, hm => cases hk
theorem lw_ski {G : Gl} {μ : St} {W : Nat} (hG : G.2.2.2 = true) (x1 x2 : Int32) (h : Opn (offG G) mX7_ski mX8_ski [.int x1, .int x2] W ["java/lang/IndexOutOfBoundsException", "java/lang/UnsupportedOperationException"] μ) : ConH G mL_ski [.ref (zad G.1 9 0 0), .int x1, .int x2, .ref (zad G.1 35 0 0)] μ (LW G mX8_ski [.int x1, .int x2] W) noX := by
  refine conH_of pn_L (Nat.le_of_ble_eq_true rfl) ?_
  show V G mL_ski mL_ski.2.2.2.2.1 (QM G mL_ski (LW G mX8_ski [.int x1, .int x2] W) noX) 0 [(0, .ref (zad G.1 9 0 0)), (1, .int x1), (2, .int x2), (3, .ref (zad G.1 35 0 0))] [] μ 0 0
  refine v_aload_n (n := 1) dL_ski_0 rfl rfl ?_
  refine v_iconst (n := 2) (x := nI 0) dL_ski_1 rfl rfl ?_
  refine v_aload_n (n := 3) dL_ski_2 rfl rfl ?_
  refine v_iload_n (n := 4) dL_ski_3 rfl rfl ?_
  refine v_iload_n (n := 5) dL_ski_4 rfl rfl ?_
  refine v_callV0 (n := 8) (k := 9) (b := 0) (i := 0) (As := [.int x1, .int x2]) (rest := [.int (nI 0), .ref (zad G.1 35 0 0)]) dL_ski_5 rfl lk_L_56 rfl rfl (Nat.le_of_ble_eq_true rfl) ⟨Nat.le_of_ble_eq_true rfl, Nat.le_of_ble_eq_true rfl, Nat.le_of_ble_eq_true rfl, Nat.le_of_ble_eq_true rfl⟩ zokc_9 (Lk.refl μ) h (fun v μ' hp => ?_) (fun E μ' hp => ?_)
  · obtain ⟨r, rfl, hm⟩ := hp
    show V _ _ _ _ _ _ [.int r, .int (nI 0), .ref (zad G.1 35 0 0)] _ _ _
    refine v_i2l (n := 9) dL_ski_8 rfl ?_
    refine v_last (n := 10) (j := 0) dL_ski_9 rfl hG zokc_35 (by decide) (by decide) rfl rfl (by decide) (fun _ => rfl) ?_
    refine v_goto (n := 21) dL_ski_10 (by decide) ?_
    refine v_iconst (n := 22) (x := nI 0) dL_ski_21 rfl rfl ?_
    exact v_iret dL_ski_22 rfl (Nat.le_of_ble_eq_true rfl) (Nat.le_of_ble_eq_true rfl) ⟨0, r, μ', by decide, rfl, Lk.ovr.upd (by decide), hm, fun _ => up_self _ _ _ _ _ _⟩
  · obtain ⟨k, hk, hm⟩ := hp
    match k, hk, hm with
    | 0, hk, hm =>
      cases hk
      refine v_catch (name := "java/lang/IndexOutOfBoundsException") (pre := []) (x := ⟨0, 10, 13, 13⟩) (suf := [⟨0, 10, 17, 54⟩]) rfl (fun _ h => absurd h List.not_mem_nil) rfl (by decide) cl_L_13 ca_IndexOutOfBoundsException (fun a => ?_)
      refine v_astore (n := 15) dL_ski_13 rfl (by decide) rfl ?_
      refine v_iconst (n := 16) (x := nI 1) dL_ski_15 rfl rfl ?_
      exact v_iret dL_ski_16 rfl (Nat.le_of_ble_eq_true rfl) (Nat.le_of_ble_eq_true rfl) ⟨1, _, μ', by decide, rfl, Lk.ovr, hm, fun z => by cases z⟩
    | 1, hk, hm =>
      cases hk
      refine v_catch (name := "java/lang/UnsupportedOperationException") (pre := [⟨0, 10, 13, 13⟩]) (x := ⟨0, 10, 17, 54⟩) (suf := []) rfl (List.forall_mem_cons.mpr ⟨⟨by decide, "java/lang/IndexOutOfBoundsException", cl_L_13, List.mem_of_getElem? (i := 3) rfl⟩, fun _ h => absurd h List.not_mem_nil⟩) rfl (by decide) cl_L_54 ca_UnsupportedOperationException (fun a => ?_)
      refine v_astore (n := 19) dL_ski_17 rfl (by decide) rfl ?_
      refine v_iconst (n := 20) (x := nI 2) dL_ski_19 rfl rfl ?_
      exact v_iret dL_ski_20 rfl (Nat.le_of_ble_eq_true rfl) (Nat.le_of_ble_eq_true rfl) ⟨2, _, μ', by decide, rfl, Lk.ovr, hm, fun z => by cases z⟩
    | j + 2, hk, hm => cases hk
theorem lw_leave {G : Gl} {μ : St} {W : Nat} (hG : G.2.2.2 = true) (x1 : Int32) (h : Opn (offG G) mX7_leave mX8_leave [.int x1] W ["java/lang/IndexOutOfBoundsException", "java/lang/IllegalStateException"] μ) : ConH G mL_leave [.ref (zad G.1 9 0 0), .int x1, .ref (zad G.1 35 0 0)] μ (LW G mX8_leave [.int x1] W) noX := by
  refine conH_of pn_L (Nat.le_of_ble_eq_true rfl) ?_
  show V G mL_leave mL_leave.2.2.2.2.1 (QM G mL_leave (LW G mX8_leave [.int x1] W) noX) 0 [(0, .ref (zad G.1 9 0 0)), (1, .int x1), (2, .ref (zad G.1 35 0 0))] [] μ 0 0
  refine v_aload_n (n := 1) dL_leave_0 rfl rfl ?_
  refine v_iconst (n := 2) (x := nI 0) dL_leave_1 rfl rfl ?_
  refine v_aload_n (n := 3) dL_leave_2 rfl rfl ?_
  refine v_iload_n (n := 4) dL_leave_3 rfl rfl ?_
  refine v_callV0 (n := 7) (k := 9) (b := 0) (i := 0) (As := [.int x1]) (rest := [.int (nI 0), .ref (zad G.1 35 0 0)]) dL_leave_4 rfl lk_L_59 rfl rfl (Nat.le_of_ble_eq_true rfl) ⟨Nat.le_of_ble_eq_true rfl, Nat.le_of_ble_eq_true rfl, Nat.le_of_ble_eq_true rfl, Nat.le_of_ble_eq_true rfl⟩ zokc_9 (Lk.refl μ) h (fun v μ' hp => ?_) (fun E μ' hp => ?_)
  · obtain ⟨r, rfl, hm⟩ := hp
    show V _ _ _ _ _ _ [.int r, .int (nI 0), .ref (zad G.1 35 0 0)] _ _ _
    refine v_i2l (n := 8) dL_leave_7 rfl ?_
    refine v_last (n := 9) (j := 0) dL_leave_8 rfl hG zokc_35 (by decide) (by decide) rfl rfl (by decide) (fun _ => rfl) ?_
    refine v_goto (n := 18) dL_leave_9 (by decide) ?_
    refine v_iconst (n := 19) (x := nI 0) dL_leave_18 rfl rfl ?_
    exact v_iret dL_leave_19 rfl (Nat.le_of_ble_eq_true rfl) (Nat.le_of_ble_eq_true rfl) ⟨0, r, μ', by decide, rfl, Lk.ovr.upd (by decide), hm, fun _ => up_self _ _ _ _ _ _⟩
  · obtain ⟨k, hk, hm⟩ := hp
    match k, hk, hm with
    | 0, hk, hm =>
      cases hk
      refine v_catch (name := "java/lang/IndexOutOfBoundsException") (pre := []) (x := ⟨0, 9, 12, 13⟩) (suf := [⟨0, 9, 15, 17⟩]) rfl (fun _ h => absurd h List.not_mem_nil) rfl (by decide) cl_L_13 ca_IndexOutOfBoundsException (fun a => ?_)
      refine v_astore_n (n := 13) dL_leave_12 rfl (by decide) rfl ?_
      refine v_iconst (n := 14) (x := nI 1) dL_leave_13 rfl rfl ?_
      exact v_iret dL_leave_14 rfl (Nat.le_of_ble_eq_true rfl) (Nat.le_of_ble_eq_true rfl) ⟨1, _, μ', by decide, rfl, Lk.ovr, hm, fun z => by cases z⟩
    | 1, hk, hm =>
      cases hk
      refine v_catch (name := "java/lang/IllegalStateException") (pre := [⟨0, 9, 12, 13⟩]) (x := ⟨0, 9, 15, 17⟩) (suf := []) rfl (List.forall_mem_cons.mpr ⟨⟨by decide, "java/lang/IndexOutOfBoundsException", cl_L_13, List.mem_of_getElem? (i := 1) rfl⟩, fun _ h => absurd h List.not_mem_nil⟩) rfl (by decide) cl_L_17 ca_IllegalStateException (fun a => ?_)
      refine v_astore_n (n := 16) dL_leave_15 rfl (by decide) rfl ?_
      refine v_iconst (n := 17) (x := nI 2) dL_leave_16 rfl rfl ?_
      exact v_iret dL_leave_17 rfl (Nat.le_of_ble_eq_true rfl) (Nat.le_of_ble_eq_true rfl) ⟨2, _, μ', by decide, rfl, Lk.ovr, hm, fun z => by cases z⟩
    | j + 2, hk, hm => cases hk
theorem lw_whyNotQueue {G : Gl} {μ : St} {W : Nat} (hG : G.2.2.2 = true) (x1 x2 : Int32) (h : Opn (offG G) mX7_whyNotQueue mX8_whyNotQueue [.int x1, .int x2] W ["java/lang/IndexOutOfBoundsException"] μ) : ConH G mL_whyNotQueue [.ref (zad G.1 9 0 0), .int x1, .int x2, .ref (zad G.1 35 0 0)] μ (LW G mX8_whyNotQueue [.int x1, .int x2] W) noX := by
  refine conH_of pn_L (Nat.le_of_ble_eq_true rfl) ?_
  show V G mL_whyNotQueue mL_whyNotQueue.2.2.2.2.1 (QM G mL_whyNotQueue (LW G mX8_whyNotQueue [.int x1, .int x2] W) noX) 0 [(0, .ref (zad G.1 9 0 0)), (1, .int x1), (2, .int x2), (3, .ref (zad G.1 35 0 0))] [] μ 0 0
  refine v_aload_n (n := 1) dL_whyNotQueue_0 rfl rfl ?_
  refine v_iconst (n := 2) (x := nI 0) dL_whyNotQueue_1 rfl rfl ?_
  refine v_aload_n (n := 3) dL_whyNotQueue_2 rfl rfl ?_
  refine v_iload_n (n := 4) dL_whyNotQueue_3 rfl rfl ?_
  refine v_iload_n (n := 5) dL_whyNotQueue_4 rfl rfl ?_
  refine v_callV0 (n := 8) (k := 9) (b := 0) (i := 0) (As := [.int x1, .int x2]) (rest := [.int (nI 0), .ref (zad G.1 35 0 0)]) dL_whyNotQueue_5 rfl lk_L_62 rfl rfl (Nat.le_of_ble_eq_true rfl) ⟨Nat.le_of_ble_eq_true rfl, Nat.le_of_ble_eq_true rfl, Nat.le_of_ble_eq_true rfl, Nat.le_of_ble_eq_true rfl⟩ zokc_9 (Lk.refl μ) h (fun v μ' hp => ?_) (fun E μ' hp => ?_)
  · obtain ⟨r, rfl, hm⟩ := hp
    show V _ _ _ _ _ _ [.int r, .int (nI 0), .ref (zad G.1 35 0 0)] _ _ _
    refine v_i2l (n := 9) dL_whyNotQueue_8 rfl ?_
    refine v_last (n := 10) (j := 0) dL_whyNotQueue_9 rfl hG zokc_35 (by decide) (by decide) rfl rfl (by decide) (fun _ => rfl) ?_
    refine v_goto (n := 17) dL_whyNotQueue_10 (by decide) ?_
    refine v_iconst (n := 18) (x := nI 0) dL_whyNotQueue_17 rfl rfl ?_
    exact v_iret dL_whyNotQueue_18 rfl (Nat.le_of_ble_eq_true rfl) (Nat.le_of_ble_eq_true rfl) ⟨0, r, μ', by decide, rfl, Lk.ovr.upd (by decide), hm, fun _ => up_self _ _ _ _ _ _⟩
  · obtain ⟨k, hk, hm⟩ := hp
    match k, hk, hm with
    | 0, hk, hm =>
      cases hk
      refine v_catch (name := "java/lang/IndexOutOfBoundsException") (pre := []) (x := ⟨0, 10, 13, 13⟩) (suf := []) rfl (fun _ h => absurd h List.not_mem_nil) rfl (by decide) cl_L_13 ca_IndexOutOfBoundsException (fun a => ?_)
      refine v_astore (n := 15) dL_whyNotQueue_13 rfl (by decide) rfl ?_
      refine v_iconst (n := 16) (x := nI 1) dL_whyNotQueue_15 rfl rfl ?_
      exact v_iret dL_whyNotQueue_16 rfl (Nat.le_of_ble_eq_true rfl) (Nat.le_of_ble_eq_true rfl) ⟨1, _, μ', by decide, rfl, Lk.ovr, hm, fun z => by cases z⟩
    | j + 1, hk, hm => cases hk
theorem lw_whyNotSki {G : Gl} {μ : St} {W : Nat} (hG : G.2.2.2 = true) (x1 x2 : Int32) (h : Opn (offG G) mX7_whyNotSki mX8_whyNotSki [.int x1, .int x2] W ["java/lang/IndexOutOfBoundsException"] μ) : ConH G mL_whyNotSki [.ref (zad G.1 9 0 0), .int x1, .int x2, .ref (zad G.1 35 0 0)] μ (LW G mX8_whyNotSki [.int x1, .int x2] W) noX := by
  refine conH_of pn_L (Nat.le_of_ble_eq_true rfl) ?_
  show V G mL_whyNotSki mL_whyNotSki.2.2.2.2.1 (QM G mL_whyNotSki (LW G mX8_whyNotSki [.int x1, .int x2] W) noX) 0 [(0, .ref (zad G.1 9 0 0)), (1, .int x1), (2, .int x2), (3, .ref (zad G.1 35 0 0))] [] μ 0 0
  refine v_aload_n (n := 1) dL_whyNotSki_0 rfl rfl ?_
  refine v_iconst (n := 2) (x := nI 0) dL_whyNotSki_1 rfl rfl ?_
  refine v_aload_n (n := 3) dL_whyNotSki_2 rfl rfl ?_
  refine v_iload_n (n := 4) dL_whyNotSki_3 rfl rfl ?_
  refine v_iload_n (n := 5) dL_whyNotSki_4 rfl rfl ?_
  refine v_callV0 (n := 8) (k := 9) (b := 0) (i := 0) (As := [.int x1, .int x2]) (rest := [.int (nI 0), .ref (zad G.1 35 0 0)]) dL_whyNotSki_5 rfl lk_L_65 rfl rfl (Nat.le_of_ble_eq_true rfl) ⟨Nat.le_of_ble_eq_true rfl, Nat.le_of_ble_eq_true rfl, Nat.le_of_ble_eq_true rfl, Nat.le_of_ble_eq_true rfl⟩ zokc_9 (Lk.refl μ) h (fun v μ' hp => ?_) (fun E μ' hp => ?_)
  · obtain ⟨r, rfl, hm⟩ := hp
    show V _ _ _ _ _ _ [.int r, .int (nI 0), .ref (zad G.1 35 0 0)] _ _ _
    refine v_i2l (n := 9) dL_whyNotSki_8 rfl ?_
    refine v_last (n := 10) (j := 0) dL_whyNotSki_9 rfl hG zokc_35 (by decide) (by decide) rfl rfl (by decide) (fun _ => rfl) ?_
    refine v_goto (n := 17) dL_whyNotSki_10 (by decide) ?_
    refine v_iconst (n := 18) (x := nI 0) dL_whyNotSki_17 rfl rfl ?_
    exact v_iret dL_whyNotSki_18 rfl (Nat.le_of_ble_eq_true rfl) (Nat.le_of_ble_eq_true rfl) ⟨0, r, μ', by decide, rfl, Lk.ovr.upd (by decide), hm, fun _ => up_self _ _ _ _ _ _⟩
  · obtain ⟨k, hk, hm⟩ := hp
    match k, hk, hm with
    | 0, hk, hm =>
      cases hk
      refine v_catch (name := "java/lang/IndexOutOfBoundsException") (pre := []) (x := ⟨0, 10, 13, 13⟩) (suf := []) rfl (fun _ h => absurd h List.not_mem_nil) rfl (by decide) cl_L_13 ca_IndexOutOfBoundsException (fun a => ?_)
      refine v_astore (n := 15) dL_whyNotSki_13 rfl (by decide) rfl ?_
      refine v_iconst (n := 16) (x := nI 1) dL_whyNotSki_15 rfl rfl ?_
      exact v_iret dL_whyNotSki_16 rfl (Nat.le_of_ble_eq_true rfl) (Nat.le_of_ble_eq_true rfl) ⟨1, _, μ', by decide, rfl, Lk.ovr, hm, fun z => by cases z⟩
    | j + 1, hk, hm => cases hk
theorem lw_reason {G : Gl} {μ : St} {W : Nat} (hG : G.2.2.2 = true) (h : Opn (offG G) mX7_reason mX8_reason [] W ["java/util/NoSuchElementException"] μ) : ConH G mL_reason [.ref (zad G.1 9 0 0), .ref (zad G.1 35 0 0)] μ (LW G mX8_reason [] W) noX := by
  refine conH_of pn_L (Nat.le_of_ble_eq_true rfl) ?_
  show V G mL_reason mL_reason.2.2.2.2.1 (QM G mL_reason (LW G mX8_reason [] W) noX) 0 [(0, .ref (zad G.1 9 0 0)), (1, .ref (zad G.1 35 0 0))] [] μ 0 0
  refine v_aload_n (n := 1) dL_reason_0 rfl rfl ?_
  refine v_iconst (n := 2) (x := nI 0) dL_reason_1 rfl rfl ?_
  refine v_aload_n (n := 3) dL_reason_2 rfl rfl ?_
  refine v_callV0 (n := 6) (k := 9) (b := 0) (i := 0) (As := []) (rest := [.int (nI 0), .ref (zad G.1 35 0 0)]) dL_reason_3 rfl lk_L_68 rfl rfl (Nat.le_of_ble_eq_true rfl) ⟨Nat.le_of_ble_eq_true rfl, Nat.le_of_ble_eq_true rfl, Nat.le_of_ble_eq_true rfl, Nat.le_of_ble_eq_true rfl⟩ zokc_9 (Lk.refl μ) h (fun v μ' hp => ?_) (fun E μ' hp => ?_)
  · obtain ⟨r, rfl, hm⟩ := hp
    show V _ _ _ _ _ _ [.int r, .int (nI 0), .ref (zad G.1 35 0 0)] _ _ _
    refine v_i2l (n := 7) dL_reason_6 rfl ?_
    refine v_last (n := 8) (j := 0) dL_reason_7 rfl hG zokc_35 (by decide) (by decide) rfl rfl (by decide) (fun _ => rfl) ?_
    refine v_goto (n := 14) dL_reason_8 (by decide) ?_
    refine v_iconst (n := 15) (x := nI 0) dL_reason_14 rfl rfl ?_
    exact v_iret dL_reason_15 rfl (Nat.le_of_ble_eq_true rfl) (Nat.le_of_ble_eq_true rfl) ⟨0, r, μ', by decide, rfl, Lk.ovr.upd (by decide), hm, fun _ => up_self _ _ _ _ _ _⟩
  · obtain ⟨k, hk, hm⟩ := hp
    match k, hk, hm with
    | 0, hk, hm =>
      cases hk
      refine v_catch (name := "java/util/NoSuchElementException") (pre := []) (x := ⟨0, 8, 11, 72⟩) (suf := []) rfl (fun _ h => absurd h List.not_mem_nil) rfl (by decide) cl_L_72 ca_NoSuchElementException (fun a => ?_)
      refine v_astore_n (n := 12) dL_reason_11 rfl (by decide) rfl ?_
      refine v_iconst (n := 13) (x := nI 1) dL_reason_12 rfl rfl ?_
      exact v_iret dL_reason_13 rfl (Nat.le_of_ble_eq_true rfl) (Nat.le_of_ble_eq_true rfl) ⟨1, _, μ', by decide, rfl, Lk.ovr, hm, fun z => by cases z⟩
    | j + 1, hk, hm => cases hk
theorem lw_opened {G : Gl} {μ : St} {W : Nat} (hG : G.2.2.2 = true) (x1 : Int32) (h : Opn (offG G) mX7_opened mX8_opened [.int x1] W ["java/lang/IndexOutOfBoundsException"] μ) : ConH G mL_opened [.ref (zad G.1 9 0 0), .int x1, .ref (zad G.1 35 0 0)] μ (LW G mX8_opened [.int x1] W) noX := by
  refine conH_of pn_L (Nat.le_of_ble_eq_true rfl) ?_
  show V G mL_opened mL_opened.2.2.2.2.1 (QM G mL_opened (LW G mX8_opened [.int x1] W) noX) 0 [(0, .ref (zad G.1 9 0 0)), (1, .int x1), (2, .ref (zad G.1 35 0 0))] [] μ 0 0
  refine v_aload_n (n := 1) dL_opened_0 rfl rfl ?_
  refine v_iconst (n := 2) (x := nI 0) dL_opened_1 rfl rfl ?_
  refine v_aload_n (n := 3) dL_opened_2 rfl rfl ?_
  refine v_iload_n (n := 4) dL_opened_3 rfl rfl ?_
  refine v_callV0 (n := 7) (k := 9) (b := 0) (i := 0) (As := [.int x1]) (rest := [.int (nI 0), .ref (zad G.1 35 0 0)]) dL_opened_4 rfl lk_L_74 rfl rfl (Nat.le_of_ble_eq_true rfl) ⟨Nat.le_of_ble_eq_true rfl, Nat.le_of_ble_eq_true rfl, Nat.le_of_ble_eq_true rfl, Nat.le_of_ble_eq_true rfl⟩ zokc_9 (Lk.refl μ) h (fun v μ' hp => ?_) (fun E μ' hp => ?_)
  · obtain ⟨r, rfl, hm⟩ := hp
    show V _ _ _ _ _ _ [.int r, .int (nI 0), .ref (zad G.1 35 0 0)] _ _ _
    refine v_i2l (n := 8) dL_opened_7 rfl ?_
    refine v_last (n := 9) (j := 0) dL_opened_8 rfl hG zokc_35 (by decide) (by decide) rfl rfl (by decide) (fun _ => rfl) ?_
    refine v_goto (n := 15) dL_opened_9 (by decide) ?_
    refine v_iconst (n := 16) (x := nI 0) dL_opened_15 rfl rfl ?_
    exact v_iret dL_opened_16 rfl (Nat.le_of_ble_eq_true rfl) (Nat.le_of_ble_eq_true rfl) ⟨0, r, μ', by decide, rfl, Lk.ovr.upd (by decide), hm, fun _ => up_self _ _ _ _ _ _⟩
  · obtain ⟨k, hk, hm⟩ := hp
    match k, hk, hm with
    | 0, hk, hm =>
      cases hk
      refine v_catch (name := "java/lang/IndexOutOfBoundsException") (pre := []) (x := ⟨0, 9, 12, 13⟩) (suf := []) rfl (fun _ h => absurd h List.not_mem_nil) rfl (by decide) cl_L_13 ca_IndexOutOfBoundsException (fun a => ?_)
      refine v_astore_n (n := 13) dL_opened_12 rfl (by decide) rfl ?_
      refine v_iconst (n := 14) (x := nI 1) dL_opened_13 rfl rfl ?_
      exact v_iret dL_opened_14 rfl (Nat.le_of_ble_eq_true rfl) (Nat.le_of_ble_eq_true rfl) ⟨1, _, μ', by decide, rfl, Lk.ovr, hm, fun z => by cases z⟩
    | j + 1, hk, hm => cases hk
theorem lw_queued {G : Gl} {μ : St} {W : Nat} (hG : G.2.2.2 = true) (x1 x2 : Int32) (h : Opn (offG G) mX7_queued mX8_queued [.int x1, .int x2] W ["java/lang/IndexOutOfBoundsException", "java/util/NoSuchElementException"] μ) : ConH G mL_queued [.ref (zad G.1 9 0 0), .int x1, .int x2, .ref (zad G.1 35 0 0)] μ (LW G mX8_queued [.int x1, .int x2] W) noX := by
  refine conH_of pn_L (Nat.le_of_ble_eq_true rfl) ?_
  show V G mL_queued mL_queued.2.2.2.2.1 (QM G mL_queued (LW G mX8_queued [.int x1, .int x2] W) noX) 0 [(0, .ref (zad G.1 9 0 0)), (1, .int x1), (2, .int x2), (3, .ref (zad G.1 35 0 0))] [] μ 0 0
  refine v_aload_n (n := 1) dL_queued_0 rfl rfl ?_
  refine v_iconst (n := 2) (x := nI 0) dL_queued_1 rfl rfl ?_
  refine v_aload_n (n := 3) dL_queued_2 rfl rfl ?_
  refine v_iload_n (n := 4) dL_queued_3 rfl rfl ?_
  refine v_iload_n (n := 5) dL_queued_4 rfl rfl ?_
  refine v_callV0 (n := 8) (k := 9) (b := 0) (i := 0) (As := [.int x1, .int x2]) (rest := [.int (nI 0), .ref (zad G.1 35 0 0)]) dL_queued_5 rfl lk_L_77 rfl rfl (Nat.le_of_ble_eq_true rfl) ⟨Nat.le_of_ble_eq_true rfl, Nat.le_of_ble_eq_true rfl, Nat.le_of_ble_eq_true rfl, Nat.le_of_ble_eq_true rfl⟩ zokc_9 (Lk.refl μ) h (fun v μ' hp => ?_) (fun E μ' hp => ?_)
  · obtain ⟨r, rfl, hm⟩ := hp
    show V _ _ _ _ _ _ [.int r, .int (nI 0), .ref (zad G.1 35 0 0)] _ _ _
    refine v_i2l (n := 9) dL_queued_8 rfl ?_
    refine v_last (n := 10) (j := 0) dL_queued_9 rfl hG zokc_35 (by decide) (by decide) rfl rfl (by decide) (fun _ => rfl) ?_
    refine v_goto (n := 21) dL_queued_10 (by decide) ?_
    refine v_iconst (n := 22) (x := nI 0) dL_queued_21 rfl rfl ?_
    exact v_iret dL_queued_22 rfl (Nat.le_of_ble_eq_true rfl) (Nat.le_of_ble_eq_true rfl) ⟨0, r, μ', by decide, rfl, Lk.ovr.upd (by decide), hm, fun _ => up_self _ _ _ _ _ _⟩
  · obtain ⟨k, hk, hm⟩ := hp
    match k, hk, hm with
    | 0, hk, hm =>
      cases hk
      refine v_catch (name := "java/lang/IndexOutOfBoundsException") (pre := []) (x := ⟨0, 10, 13, 13⟩) (suf := [⟨0, 10, 17, 72⟩]) rfl (fun _ h => absurd h List.not_mem_nil) rfl (by decide) cl_L_13 ca_IndexOutOfBoundsException (fun a => ?_)
      refine v_astore (n := 15) dL_queued_13 rfl (by decide) rfl ?_
      refine v_iconst (n := 16) (x := nI 1) dL_queued_15 rfl rfl ?_
      exact v_iret dL_queued_16 rfl (Nat.le_of_ble_eq_true rfl) (Nat.le_of_ble_eq_true rfl) ⟨1, _, μ', by decide, rfl, Lk.ovr, hm, fun z => by cases z⟩
    | 1, hk, hm =>
      cases hk
      refine v_catch (name := "java/util/NoSuchElementException") (pre := [⟨0, 10, 13, 13⟩]) (x := ⟨0, 10, 17, 72⟩) (suf := []) rfl (List.forall_mem_cons.mpr ⟨⟨by decide, "java/lang/IndexOutOfBoundsException", cl_L_13, List.mem_of_getElem? (i := 4) rfl⟩, fun _ h => absurd h List.not_mem_nil⟩) rfl (by decide) cl_L_72 ca_NoSuchElementException (fun a => ?_)
      refine v_astore (n := 19) dL_queued_17 rfl (by decide) rfl ?_
      refine v_iconst (n := 20) (x := nI 2) dL_queued_19 rfl rfl ?_
      exact v_iret dL_queued_20 rfl (Nat.le_of_ble_eq_true rfl) (Nat.le_of_ble_eq_true rfl) ⟨2, _, μ', by decide, rfl, Lk.ovr, hm, fun z => by cases z⟩
    | j + 2, hk, hm => cases hk
theorem lw_advance {G : Gl} {μ : St} {W : Nat} (hG : G.2.2.2 = true) (x1 : Int32) (h : Opn (offG G) mX7_advance mX8_advance [.int x1] W ["java/lang/IllegalArgumentException", "java/lang/IllegalStateException"] μ) : ConH G mL_advance [.ref (zad G.1 9 0 0), .int x1, .ref (zad G.1 35 0 0)] μ (LW G mX8_advance [.int x1] W) noX := by
  refine conH_of pn_L (Nat.le_of_ble_eq_true rfl) ?_
  show V G mL_advance mL_advance.2.2.2.2.1 (QM G mL_advance (LW G mX8_advance [.int x1] W) noX) 0 [(0, .ref (zad G.1 9 0 0)), (1, .int x1), (2, .ref (zad G.1 35 0 0))] [] μ 0 0
  refine v_aload_n (n := 1) dL_advance_0 rfl rfl ?_
  refine v_iconst (n := 2) (x := nI 0) dL_advance_1 rfl rfl ?_
  refine v_aload_n (n := 3) dL_advance_2 rfl rfl ?_
  refine v_iload_n (n := 4) dL_advance_3 rfl rfl ?_
  refine v_callV0 (n := 7) (k := 9) (b := 0) (i := 0) (As := [.int x1]) (rest := [.int (nI 0), .ref (zad G.1 35 0 0)]) dL_advance_4 rfl lk_L_80 rfl rfl (Nat.le_of_ble_eq_true rfl) ⟨Nat.le_of_ble_eq_true rfl, Nat.le_of_ble_eq_true rfl, Nat.le_of_ble_eq_true rfl, Nat.le_of_ble_eq_true rfl⟩ zokc_9 (Lk.refl μ) h (fun v μ' hp => ?_) (fun E μ' hp => ?_)
  · obtain ⟨r, rfl, hm⟩ := hp
    show V _ _ _ _ _ _ [.int r, .int (nI 0), .ref (zad G.1 35 0 0)] _ _ _
    refine v_i2l (n := 8) dL_advance_7 rfl ?_
    refine v_last (n := 9) (j := 0) dL_advance_8 rfl hG zokc_35 (by decide) (by decide) rfl rfl (by decide) (fun _ => rfl) ?_
    refine v_goto (n := 18) dL_advance_9 (by decide) ?_
    refine v_iconst (n := 19) (x := nI 0) dL_advance_18 rfl rfl ?_
    exact v_iret dL_advance_19 rfl (Nat.le_of_ble_eq_true rfl) (Nat.le_of_ble_eq_true rfl) ⟨0, r, μ', by decide, rfl, Lk.ovr.upd (by decide), hm, fun _ => up_self _ _ _ _ _ _⟩
  · obtain ⟨k, hk, hm⟩ := hp
    match k, hk, hm with
    | 0, hk, hm =>
      cases hk
      refine v_catch (name := "java/lang/IllegalArgumentException") (pre := []) (x := ⟨0, 9, 12, 15⟩) (suf := [⟨0, 9, 15, 17⟩]) rfl (fun _ h => absurd h List.not_mem_nil) rfl (by decide) cl_L_15 ca_IllegalArgumentException (fun a => ?_)
      refine v_astore_n (n := 13) dL_advance_12 rfl (by decide) rfl ?_
      refine v_iconst (n := 14) (x := nI 1) dL_advance_13 rfl rfl ?_
      exact v_iret dL_advance_14 rfl (Nat.le_of_ble_eq_true rfl) (Nat.le_of_ble_eq_true rfl) ⟨1, _, μ', by decide, rfl, Lk.ovr, hm, fun z => by cases z⟩
    | 1, hk, hm =>
      cases hk
      refine v_catch (name := "java/lang/IllegalStateException") (pre := [⟨0, 9, 12, 15⟩]) (x := ⟨0, 9, 15, 17⟩) (suf := []) rfl (List.forall_mem_cons.mpr ⟨⟨by decide, "java/lang/IllegalArgumentException", cl_L_15, List.mem_of_getElem? (i := 2) rfl⟩, fun _ h => absurd h List.not_mem_nil⟩) rfl (by decide) cl_L_17 ca_IllegalStateException (fun a => ?_)
      refine v_astore_n (n := 16) dL_advance_15 rfl (by decide) rfl ?_
      refine v_iconst (n := 17) (x := nI 2) dL_advance_16 rfl rfl ?_
      exact v_iret dL_advance_17 rfl (Nat.le_of_ble_eq_true rfl) (Nat.le_of_ble_eq_true rfl) ⟨2, _, μ', by decide, rfl, Lk.ovr, hm, fun z => by cases z⟩
    | j + 2, hk, hm => cases hk
theorem lw_endDay {G : Gl} {μ : St} {W : Nat} (hG : G.2.2.2 = true) (h : Opn (offG G) mX7_endDay mX8_endDay [] W ["java/lang/IllegalStateException"] μ) : ConH G mL_endDay [.ref (zad G.1 9 0 0), .ref (zad G.1 35 0 0)] μ (LW G mX8_endDay [] W) noX := by
  refine conH_of pn_L (Nat.le_of_ble_eq_true rfl) ?_
  show V G mL_endDay mL_endDay.2.2.2.2.1 (QM G mL_endDay (LW G mX8_endDay [] W) noX) 0 [(0, .ref (zad G.1 9 0 0)), (1, .ref (zad G.1 35 0 0))] [] μ 0 0
  refine v_aload_n (n := 1) dL_endDay_0 rfl rfl ?_
  refine v_iconst (n := 2) (x := nI 0) dL_endDay_1 rfl rfl ?_
  refine v_aload_n (n := 3) dL_endDay_2 rfl rfl ?_
  refine v_callV0 (n := 6) (k := 9) (b := 0) (i := 0) (As := []) (rest := [.int (nI 0), .ref (zad G.1 35 0 0)]) dL_endDay_3 rfl lk_L_83 rfl rfl (Nat.le_of_ble_eq_true rfl) ⟨Nat.le_of_ble_eq_true rfl, Nat.le_of_ble_eq_true rfl, Nat.le_of_ble_eq_true rfl, Nat.le_of_ble_eq_true rfl⟩ zokc_9 (Lk.refl μ) h (fun v μ' hp => ?_) (fun E μ' hp => ?_)
  · obtain ⟨r, rfl, hm⟩ := hp
    show V _ _ _ _ _ _ [.int r, .int (nI 0), .ref (zad G.1 35 0 0)] _ _ _
    refine v_i2l (n := 7) dL_endDay_6 rfl ?_
    refine v_last (n := 8) (j := 0) dL_endDay_7 rfl hG zokc_35 (by decide) (by decide) rfl rfl (by decide) (fun _ => rfl) ?_
    refine v_goto (n := 14) dL_endDay_8 (by decide) ?_
    refine v_iconst (n := 15) (x := nI 0) dL_endDay_14 rfl rfl ?_
    exact v_iret dL_endDay_15 rfl (Nat.le_of_ble_eq_true rfl) (Nat.le_of_ble_eq_true rfl) ⟨0, r, μ', by decide, rfl, Lk.ovr.upd (by decide), hm, fun _ => up_self _ _ _ _ _ _⟩
  · obtain ⟨k, hk, hm⟩ := hp
    match k, hk, hm with
    | 0, hk, hm =>
      cases hk
      refine v_catch (name := "java/lang/IllegalStateException") (pre := []) (x := ⟨0, 8, 11, 17⟩) (suf := []) rfl (fun _ h => absurd h List.not_mem_nil) rfl (by decide) cl_L_17 ca_IllegalStateException (fun a => ?_)
      refine v_astore_n (n := 12) dL_endDay_11 rfl (by decide) rfl ?_
      refine v_iconst (n := 13) (x := nI 1) dL_endDay_12 rfl rfl ?_
      exact v_iret dL_endDay_13 rfl (Nat.le_of_ble_eq_true rfl) (Nat.le_of_ble_eq_true rfl) ⟨1, _, μ', by decide, rfl, Lk.ovr, hm, fun z => by cases z⟩
    | j + 1, hk, hm => cases hk
theorem lw_arrival {G : Gl} {μ : St} {W : Nat} (hG : G.2.2.2 = true) (x1 : Int32) (h : Opn (offG G) mX7_arrival mX8_arrival [.int x1] W ["java/lang/IndexOutOfBoundsException", "java/util/NoSuchElementException"] μ) : ConH G mL_arrival [.ref (zad G.1 9 0 0), .int x1, .ref (zad G.1 35 0 0)] μ (LW G mX8_arrival [.int x1] W) noX := by
  refine conH_of pn_L (Nat.le_of_ble_eq_true rfl) ?_
  show V G mL_arrival mL_arrival.2.2.2.2.1 (QM G mL_arrival (LW G mX8_arrival [.int x1] W) noX) 0 [(0, .ref (zad G.1 9 0 0)), (1, .int x1), (2, .ref (zad G.1 35 0 0))] [] μ 0 0
  refine v_aload_n (n := 1) dL_arrival_0 rfl rfl ?_
  refine v_iconst (n := 2) (x := nI 0) dL_arrival_1 rfl rfl ?_
  refine v_aload_n (n := 3) dL_arrival_2 rfl rfl ?_
  refine v_iload_n (n := 4) dL_arrival_3 rfl rfl ?_
  refine v_callV0 (n := 7) (k := 9) (b := 0) (i := 0) (As := [.int x1]) (rest := [.int (nI 0), .ref (zad G.1 35 0 0)]) dL_arrival_4 rfl lk_L_86 rfl rfl (Nat.le_of_ble_eq_true rfl) ⟨Nat.le_of_ble_eq_true rfl, Nat.le_of_ble_eq_true rfl, Nat.le_of_ble_eq_true rfl, Nat.le_of_ble_eq_true rfl⟩ zokc_9 (Lk.refl μ) h (fun v μ' hp => ?_) (fun E μ' hp => ?_)
  · obtain ⟨r, rfl, hm⟩ := hp
    show V _ _ _ _ _ _ [.int r, .int (nI 0), .ref (zad G.1 35 0 0)] _ _ _
    refine v_i2l (n := 8) dL_arrival_7 rfl ?_
    refine v_last (n := 9) (j := 0) dL_arrival_8 rfl hG zokc_35 (by decide) (by decide) rfl rfl (by decide) (fun _ => rfl) ?_
    refine v_goto (n := 18) dL_arrival_9 (by decide) ?_
    refine v_iconst (n := 19) (x := nI 0) dL_arrival_18 rfl rfl ?_
    exact v_iret dL_arrival_19 rfl (Nat.le_of_ble_eq_true rfl) (Nat.le_of_ble_eq_true rfl) ⟨0, r, μ', by decide, rfl, Lk.ovr.upd (by decide), hm, fun _ => up_self _ _ _ _ _ _⟩
  · obtain ⟨k, hk, hm⟩ := hp
    match k, hk, hm with
    | 0, hk, hm =>
      cases hk
      refine v_catch (name := "java/lang/IndexOutOfBoundsException") (pre := []) (x := ⟨0, 9, 12, 13⟩) (suf := [⟨0, 9, 15, 72⟩]) rfl (fun _ h => absurd h List.not_mem_nil) rfl (by decide) cl_L_13 ca_IndexOutOfBoundsException (fun a => ?_)
      refine v_astore_n (n := 13) dL_arrival_12 rfl (by decide) rfl ?_
      refine v_iconst (n := 14) (x := nI 1) dL_arrival_13 rfl rfl ?_
      exact v_iret dL_arrival_14 rfl (Nat.le_of_ble_eq_true rfl) (Nat.le_of_ble_eq_true rfl) ⟨1, _, μ', by decide, rfl, Lk.ovr, hm, fun z => by cases z⟩
    | 1, hk, hm =>
      cases hk
      refine v_catch (name := "java/util/NoSuchElementException") (pre := [⟨0, 9, 12, 13⟩]) (x := ⟨0, 9, 15, 72⟩) (suf := []) rfl (List.forall_mem_cons.mpr ⟨⟨by decide, "java/lang/IndexOutOfBoundsException", cl_L_13, List.mem_of_getElem? (i := 4) rfl⟩, fun _ h => absurd h List.not_mem_nil⟩) rfl (by decide) cl_L_72 ca_NoSuchElementException (fun a => ?_)
      refine v_astore_n (n := 16) dL_arrival_15 rfl (by decide) rfl ?_
      refine v_iconst (n := 17) (x := nI 2) dL_arrival_16 rfl rfl ?_
      exact v_iret dL_arrival_17 rfl (Nat.le_of_ble_eq_true rfl) (Nat.le_of_ble_eq_true rfl) ⟨2, _, μ', by decide, rfl, Lk.ovr, hm, fun z => by cases z⟩
    | j + 2, hk, hm => cases hk
theorem lw_nextCabin {G : Gl} {μ : St} {W : Nat} (hG : G.2.2.2 = true) (x1 : Int32) (h : Opn (offG G) mX7_nextCabin mX8_nextCabin [.int x1] W ["java/lang/IndexOutOfBoundsException", "java/util/NoSuchElementException"] μ) : ConH G mL_nextCabin [.ref (zad G.1 9 0 0), .int x1, .ref (zad G.1 35 0 0)] μ (LW G mX8_nextCabin [.int x1] W) noX := by
  refine conH_of pn_L (Nat.le_of_ble_eq_true rfl) ?_
  show V G mL_nextCabin mL_nextCabin.2.2.2.2.1 (QM G mL_nextCabin (LW G mX8_nextCabin [.int x1] W) noX) 0 [(0, .ref (zad G.1 9 0 0)), (1, .int x1), (2, .ref (zad G.1 35 0 0))] [] μ 0 0
  refine v_aload_n (n := 1) dL_nextCabin_0 rfl rfl ?_
  refine v_iconst (n := 2) (x := nI 0) dL_nextCabin_1 rfl rfl ?_
  refine v_aload_n (n := 3) dL_nextCabin_2 rfl rfl ?_
  refine v_iload_n (n := 4) dL_nextCabin_3 rfl rfl ?_
  refine v_callV0 (n := 7) (k := 9) (b := 0) (i := 0) (As := [.int x1]) (rest := [.int (nI 0), .ref (zad G.1 35 0 0)]) dL_nextCabin_4 rfl lk_L_89 rfl rfl (Nat.le_of_ble_eq_true rfl) ⟨Nat.le_of_ble_eq_true rfl, Nat.le_of_ble_eq_true rfl, Nat.le_of_ble_eq_true rfl, Nat.le_of_ble_eq_true rfl⟩ zokc_9 (Lk.refl μ) h (fun v μ' hp => ?_) (fun E μ' hp => ?_)
  · obtain ⟨r, rfl, hm⟩ := hp
    show V _ _ _ _ _ _ [.int r, .int (nI 0), .ref (zad G.1 35 0 0)] _ _ _
    refine v_i2l (n := 8) dL_nextCabin_7 rfl ?_
    refine v_last (n := 9) (j := 0) dL_nextCabin_8 rfl hG zokc_35 (by decide) (by decide) rfl rfl (by decide) (fun _ => rfl) ?_
    refine v_goto (n := 18) dL_nextCabin_9 (by decide) ?_
    refine v_iconst (n := 19) (x := nI 0) dL_nextCabin_18 rfl rfl ?_
    exact v_iret dL_nextCabin_19 rfl (Nat.le_of_ble_eq_true rfl) (Nat.le_of_ble_eq_true rfl) ⟨0, r, μ', by decide, rfl, Lk.ovr.upd (by decide), hm, fun _ => up_self _ _ _ _ _ _⟩
  · obtain ⟨k, hk, hm⟩ := hp
    match k, hk, hm with
    | 0, hk, hm =>
      cases hk
      refine v_catch (name := "java/lang/IndexOutOfBoundsException") (pre := []) (x := ⟨0, 9, 12, 13⟩) (suf := [⟨0, 9, 15, 72⟩]) rfl (fun _ h => absurd h List.not_mem_nil) rfl (by decide) cl_L_13 ca_IndexOutOfBoundsException (fun a => ?_)
      refine v_astore_n (n := 13) dL_nextCabin_12 rfl (by decide) rfl ?_
      refine v_iconst (n := 14) (x := nI 1) dL_nextCabin_13 rfl rfl ?_
      exact v_iret dL_nextCabin_14 rfl (Nat.le_of_ble_eq_true rfl) (Nat.le_of_ble_eq_true rfl) ⟨1, _, μ', by decide, rfl, Lk.ovr, hm, fun z => by cases z⟩
    | 1, hk, hm =>
      cases hk
      refine v_catch (name := "java/util/NoSuchElementException") (pre := [⟨0, 9, 12, 13⟩]) (x := ⟨0, 9, 15, 72⟩) (suf := []) rfl (List.forall_mem_cons.mpr ⟨⟨by decide, "java/lang/IndexOutOfBoundsException", cl_L_13, List.mem_of_getElem? (i := 4) rfl⟩, fun _ h => absurd h List.not_mem_nil⟩) rfl (by decide) cl_L_72 ca_NoSuchElementException (fun a => ?_)
      refine v_astore_n (n := 16) dL_nextCabin_15 rfl (by decide) rfl ?_
      refine v_iconst (n := 17) (x := nI 2) dL_nextCabin_16 rfl rfl ?_
      exact v_iret dL_nextCabin_17 rfl (Nat.le_of_ble_eq_true rfl) (Nat.le_of_ble_eq_true rfl) ⟨2, _, μ', by decide, rfl, Lk.ovr, hm, fun z => by cases z⟩
    | j + 2, hk, hm => cases hk
theorem lw_duration {G : Gl} {μ : St} {W : Nat} (hG : G.2.2.2 = true) (x1 x2 x3 : Int32) (h : Opn (offG G) mX7_duration mX8_duration [.int x1, .int x2, .int x3] W ["java/lang/IndexOutOfBoundsException", "java/util/NoSuchElementException"] μ) : ConH G mL_duration [.ref (zad G.1 9 0 0), .int x1, .int x2, .int x3, .ref (zad G.1 35 0 0)] μ (LW G mX8_duration [.int x1, .int x2, .int x3] W) noX := by
  refine conH_of pn_L (Nat.le_of_ble_eq_true rfl) ?_
  show V G mL_duration mL_duration.2.2.2.2.1 (QM G mL_duration (LW G mX8_duration [.int x1, .int x2, .int x3] W) noX) 0 [(0, .ref (zad G.1 9 0 0)), (1, .int x1), (2, .int x2), (3, .int x3), (4, .ref (zad G.1 35 0 0))] [] μ 0 0
  refine v_aload (n := 2) dL_duration_0 rfl rfl ?_
  refine v_iconst (n := 3) (x := nI 0) dL_duration_2 rfl rfl ?_
  refine v_aload_n (n := 4) dL_duration_3 rfl rfl ?_
  refine v_iload_n (n := 5) dL_duration_4 rfl rfl ?_
  refine v_iload_n (n := 6) dL_duration_5 rfl rfl ?_
  refine v_iload_n (n := 7) dL_duration_6 rfl rfl ?_
  refine v_callV0 (n := 10) (k := 9) (b := 0) (i := 0) (As := [.int x1, .int x2, .int x3]) (rest := [.int (nI 0), .ref (zad G.1 35 0 0)]) dL_duration_7 rfl lk_L_92 rfl rfl (Nat.le_of_ble_eq_true rfl) ⟨Nat.le_of_ble_eq_true rfl, Nat.le_of_ble_eq_true rfl, Nat.le_of_ble_eq_true rfl, Nat.le_of_ble_eq_true rfl⟩ zokc_9 (Lk.refl μ) h (fun v μ' hp => ?_) (fun E μ' hp => ?_)
  · obtain ⟨r, rfl, hm⟩ := hp
    show V _ _ _ _ _ _ [.int r, .int (nI 0), .ref (zad G.1 35 0 0)] _ _ _
    refine v_i2l (n := 11) dL_duration_10 rfl ?_
    refine v_last (n := 12) (j := 0) dL_duration_11 rfl hG zokc_35 (by decide) (by decide) rfl rfl (by decide) (fun _ => rfl) ?_
    refine v_goto (n := 23) dL_duration_12 (by decide) ?_
    refine v_iconst (n := 24) (x := nI 0) dL_duration_23 rfl rfl ?_
    exact v_iret dL_duration_24 rfl (Nat.le_of_ble_eq_true rfl) (Nat.le_of_ble_eq_true rfl) ⟨0, r, μ', by decide, rfl, Lk.ovr.upd (by decide), hm, fun _ => up_self _ _ _ _ _ _⟩
  · obtain ⟨k, hk, hm⟩ := hp
    match k, hk, hm with
    | 0, hk, hm =>
      cases hk
      refine v_catch (name := "java/lang/IndexOutOfBoundsException") (pre := []) (x := ⟨0, 12, 15, 13⟩) (suf := [⟨0, 12, 19, 72⟩]) rfl (fun _ h => absurd h List.not_mem_nil) rfl (by decide) cl_L_13 ca_IndexOutOfBoundsException (fun a => ?_)
      refine v_astore (n := 17) dL_duration_15 rfl (by decide) rfl ?_
      refine v_iconst (n := 18) (x := nI 1) dL_duration_17 rfl rfl ?_
      exact v_iret dL_duration_18 rfl (Nat.le_of_ble_eq_true rfl) (Nat.le_of_ble_eq_true rfl) ⟨1, _, μ', by decide, rfl, Lk.ovr, hm, fun z => by cases z⟩
    | 1, hk, hm =>
      cases hk
      refine v_catch (name := "java/util/NoSuchElementException") (pre := [⟨0, 12, 15, 13⟩]) (x := ⟨0, 12, 19, 72⟩) (suf := []) rfl (List.forall_mem_cons.mpr ⟨⟨by decide, "java/lang/IndexOutOfBoundsException", cl_L_13, List.mem_of_getElem? (i := 4) rfl⟩, fun _ h => absurd h List.not_mem_nil⟩) rfl (by decide) cl_L_72 ca_NoSuchElementException (fun a => ?_)
      refine v_astore (n := 21) dL_duration_19 rfl (by decide) rfl ?_
      refine v_iconst (n := 22) (x := nI 2) dL_duration_21 rfl rfl ?_
      exact v_iret dL_duration_22 rfl (Nat.le_of_ble_eq_true rfl) (Nat.le_of_ble_eq_true rfl) ⟨2, _, μ', by decide, rfl, Lk.ovr, hm, fun z => by cases z⟩
    | j + 2, hk, hm => cases hk
theorem lw_firstPart {G : Gl} {μ : St} {W : Nat} (hG : G.2.2.2 = true) (x1 x2 x3 : Int32) (h : Opn (offG G) mX7_firstPart mX8_firstPart [.int x1, .int x2, .int x3] W ["java/lang/IndexOutOfBoundsException", "java/util/NoSuchElementException"] μ) : ConH G mL_firstPart [.ref (zad G.1 9 0 0), .int x1, .int x2, .int x3, .ref (zad G.1 35 0 0)] μ (LW G mX8_firstPart [.int x1, .int x2, .int x3] W) noX := by
  refine conH_of pn_L (Nat.le_of_ble_eq_true rfl) ?_
  show V G mL_firstPart mL_firstPart.2.2.2.2.1 (QM G mL_firstPart (LW G mX8_firstPart [.int x1, .int x2, .int x3] W) noX) 0 [(0, .ref (zad G.1 9 0 0)), (1, .int x1), (2, .int x2), (3, .int x3), (4, .ref (zad G.1 35 0 0))] [] μ 0 0
  refine v_aload (n := 2) dL_firstPart_0 rfl rfl ?_
  refine v_iconst (n := 3) (x := nI 0) dL_firstPart_2 rfl rfl ?_
  refine v_aload_n (n := 4) dL_firstPart_3 rfl rfl ?_
  refine v_iload_n (n := 5) dL_firstPart_4 rfl rfl ?_
  refine v_iload_n (n := 6) dL_firstPart_5 rfl rfl ?_
  refine v_iload_n (n := 7) dL_firstPart_6 rfl rfl ?_
  refine v_callV0 (n := 10) (k := 9) (b := 0) (i := 0) (As := [.int x1, .int x2, .int x3]) (rest := [.int (nI 0), .ref (zad G.1 35 0 0)]) dL_firstPart_7 rfl lk_L_96 rfl rfl (Nat.le_of_ble_eq_true rfl) ⟨Nat.le_of_ble_eq_true rfl, Nat.le_of_ble_eq_true rfl, Nat.le_of_ble_eq_true rfl, Nat.le_of_ble_eq_true rfl⟩ zokc_9 (Lk.refl μ) h (fun v μ' hp => ?_) (fun E μ' hp => ?_)
  · obtain ⟨r, rfl, hm⟩ := hp
    show V _ _ _ _ _ _ [.int r, .int (nI 0), .ref (zad G.1 35 0 0)] _ _ _
    refine v_i2l (n := 11) dL_firstPart_10 rfl ?_
    refine v_last (n := 12) (j := 0) dL_firstPart_11 rfl hG zokc_35 (by decide) (by decide) rfl rfl (by decide) (fun _ => rfl) ?_
    refine v_goto (n := 23) dL_firstPart_12 (by decide) ?_
    refine v_iconst (n := 24) (x := nI 0) dL_firstPart_23 rfl rfl ?_
    exact v_iret dL_firstPart_24 rfl (Nat.le_of_ble_eq_true rfl) (Nat.le_of_ble_eq_true rfl) ⟨0, r, μ', by decide, rfl, Lk.ovr.upd (by decide), hm, fun _ => up_self _ _ _ _ _ _⟩
  · obtain ⟨k, hk, hm⟩ := hp
    match k, hk, hm with
    | 0, hk, hm =>
      cases hk
      refine v_catch (name := "java/lang/IndexOutOfBoundsException") (pre := []) (x := ⟨0, 12, 15, 13⟩) (suf := [⟨0, 12, 19, 72⟩]) rfl (fun _ h => absurd h List.not_mem_nil) rfl (by decide) cl_L_13 ca_IndexOutOfBoundsException (fun a => ?_)
      refine v_astore (n := 17) dL_firstPart_15 rfl (by decide) rfl ?_
      refine v_iconst (n := 18) (x := nI 1) dL_firstPart_17 rfl rfl ?_
      exact v_iret dL_firstPart_18 rfl (Nat.le_of_ble_eq_true rfl) (Nat.le_of_ble_eq_true rfl) ⟨1, _, μ', by decide, rfl, Lk.ovr, hm, fun z => by cases z⟩
    | 1, hk, hm =>
      cases hk
      refine v_catch (name := "java/util/NoSuchElementException") (pre := [⟨0, 12, 15, 13⟩]) (x := ⟨0, 12, 19, 72⟩) (suf := []) rfl (List.forall_mem_cons.mpr ⟨⟨by decide, "java/lang/IndexOutOfBoundsException", cl_L_13, List.mem_of_getElem? (i := 4) rfl⟩, fun _ h => absurd h List.not_mem_nil⟩) rfl (by decide) cl_L_72 ca_NoSuchElementException (fun a => ?_)
      refine v_astore (n := 21) dL_firstPart_19 rfl (by decide) rfl ?_
      refine v_iconst (n := 22) (x := nI 2) dL_firstPart_21 rfl rfl ?_
      exact v_iret dL_firstPart_22 rfl (Nat.le_of_ble_eq_true rfl) (Nat.le_of_ble_eq_true rfl) ⟨2, _, μ', by decide, rfl, Lk.ovr, hm, fun z => by cases z⟩
    | j + 2, hk, hm => cases hk
theorem lw_reachable {G : Gl} {μ : St} {W : Nat} (hG : G.2.2.2 = true) (x1 x2 : Int32) (h : Opn (offG G) mX7_reachable mX8_reachable [.int x1, .int x2] W ["java/lang/IndexOutOfBoundsException"] μ) : ConH G mL_reachable [.ref (zad G.1 9 0 0), .int x1, .int x2, .ref (zad G.1 35 0 0)] μ (LW G mX8_reachable [.int x1, .int x2] W) noX := by
  refine conH_of pn_L (Nat.le_of_ble_eq_true rfl) ?_
  show V G mL_reachable mL_reachable.2.2.2.2.1 (QM G mL_reachable (LW G mX8_reachable [.int x1, .int x2] W) noX) 0 [(0, .ref (zad G.1 9 0 0)), (1, .int x1), (2, .int x2), (3, .ref (zad G.1 35 0 0))] [] μ 0 0
  refine v_aload_n (n := 1) dL_reachable_0 rfl rfl ?_
  refine v_iconst (n := 2) (x := nI 0) dL_reachable_1 rfl rfl ?_
  refine v_aload_n (n := 3) dL_reachable_2 rfl rfl ?_
  refine v_iload_n (n := 4) dL_reachable_3 rfl rfl ?_
  refine v_iload_n (n := 5) dL_reachable_4 rfl rfl ?_
  refine v_callV0 (n := 8) (k := 9) (b := 0) (i := 0) (As := [.int x1, .int x2]) (rest := [.int (nI 0), .ref (zad G.1 35 0 0)]) dL_reachable_5 rfl lk_L_99 rfl rfl (Nat.le_of_ble_eq_true rfl) ⟨Nat.le_of_ble_eq_true rfl, Nat.le_of_ble_eq_true rfl, Nat.le_of_ble_eq_true rfl, Nat.le_of_ble_eq_true rfl⟩ zokc_9 (Lk.refl μ) h (fun v μ' hp => ?_) (fun E μ' hp => ?_)
  · obtain ⟨r, rfl, hm⟩ := hp
    show V _ _ _ _ _ _ [.int r, .int (nI 0), .ref (zad G.1 35 0 0)] _ _ _
    refine v_i2l (n := 9) dL_reachable_8 rfl ?_
    refine v_last (n := 10) (j := 0) dL_reachable_9 rfl hG zokc_35 (by decide) (by decide) rfl rfl (by decide) (fun _ => rfl) ?_
    refine v_goto (n := 17) dL_reachable_10 (by decide) ?_
    refine v_iconst (n := 18) (x := nI 0) dL_reachable_17 rfl rfl ?_
    exact v_iret dL_reachable_18 rfl (Nat.le_of_ble_eq_true rfl) (Nat.le_of_ble_eq_true rfl) ⟨0, r, μ', by decide, rfl, Lk.ovr.upd (by decide), hm, fun _ => up_self _ _ _ _ _ _⟩
  · obtain ⟨k, hk, hm⟩ := hp
    match k, hk, hm with
    | 0, hk, hm =>
      cases hk
      refine v_catch (name := "java/lang/IndexOutOfBoundsException") (pre := []) (x := ⟨0, 10, 13, 13⟩) (suf := []) rfl (fun _ h => absurd h List.not_mem_nil) rfl (by decide) cl_L_13 ca_IndexOutOfBoundsException (fun a => ?_)
      refine v_astore (n := 15) dL_reachable_13 rfl (by decide) rfl ?_
      refine v_iconst (n := 16) (x := nI 1) dL_reachable_15 rfl rfl ?_
      exact v_iret dL_reachable_16 rfl (Nat.le_of_ble_eq_true rfl) (Nat.le_of_ble_eq_true rfl) ⟨1, _, μ', by decide, rfl, Lk.ovr, hm, fun z => by cases z⟩
    | j + 1, hk, hm => cases hk
theorem lw_stranded {G : Gl} {μ : St} {W : Nat} (hG : G.2.2.2 = true) (x1 x2 : Int32) (h : Opn (offG G) mX7_stranded mX8_stranded [.int x1, .int x2] W ["java/lang/IndexOutOfBoundsException"] μ) : ConH G mL_stranded [.ref (zad G.1 9 0 0), .int x1, .int x2, .ref (zad G.1 35 0 0)] μ (LW G mX8_stranded [.int x1, .int x2] W) noX := by
  refine conH_of pn_L (Nat.le_of_ble_eq_true rfl) ?_
  show V G mL_stranded mL_stranded.2.2.2.2.1 (QM G mL_stranded (LW G mX8_stranded [.int x1, .int x2] W) noX) 0 [(0, .ref (zad G.1 9 0 0)), (1, .int x1), (2, .int x2), (3, .ref (zad G.1 35 0 0))] [] μ 0 0
  refine v_aload_n (n := 1) dL_stranded_0 rfl rfl ?_
  refine v_iconst (n := 2) (x := nI 0) dL_stranded_1 rfl rfl ?_
  refine v_aload_n (n := 3) dL_stranded_2 rfl rfl ?_
  refine v_iload_n (n := 4) dL_stranded_3 rfl rfl ?_
  refine v_iload_n (n := 5) dL_stranded_4 rfl rfl ?_
  refine v_callV0 (n := 8) (k := 9) (b := 0) (i := 0) (As := [.int x1, .int x2]) (rest := [.int (nI 0), .ref (zad G.1 35 0 0)]) dL_stranded_5 rfl lk_L_102 rfl rfl (Nat.le_of_ble_eq_true rfl) ⟨Nat.le_of_ble_eq_true rfl, Nat.le_of_ble_eq_true rfl, Nat.le_of_ble_eq_true rfl, Nat.le_of_ble_eq_true rfl⟩ zokc_9 (Lk.refl μ) h (fun v μ' hp => ?_) (fun E μ' hp => ?_)
  · obtain ⟨r, rfl, hm⟩ := hp
    show V _ _ _ _ _ _ [.int r, .int (nI 0), .ref (zad G.1 35 0 0)] _ _ _
    refine v_i2l (n := 9) dL_stranded_8 rfl ?_
    refine v_last (n := 10) (j := 0) dL_stranded_9 rfl hG zokc_35 (by decide) (by decide) rfl rfl (by decide) (fun _ => rfl) ?_
    refine v_goto (n := 17) dL_stranded_10 (by decide) ?_
    refine v_iconst (n := 18) (x := nI 0) dL_stranded_17 rfl rfl ?_
    exact v_iret dL_stranded_18 rfl (Nat.le_of_ble_eq_true rfl) (Nat.le_of_ble_eq_true rfl) ⟨0, r, μ', by decide, rfl, Lk.ovr.upd (by decide), hm, fun _ => up_self _ _ _ _ _ _⟩
  · obtain ⟨k, hk, hm⟩ := hp
    match k, hk, hm with
    | 0, hk, hm =>
      cases hk
      refine v_catch (name := "java/lang/IndexOutOfBoundsException") (pre := []) (x := ⟨0, 10, 13, 13⟩) (suf := []) rfl (fun _ h => absurd h List.not_mem_nil) rfl (by decide) cl_L_13 ca_IndexOutOfBoundsException (fun a => ?_)
      refine v_astore (n := 15) dL_stranded_13 rfl (by decide) rfl ?_
      refine v_iconst (n := 16) (x := nI 1) dL_stranded_15 rfl rfl ?_
      exact v_iret dL_stranded_16 rfl (Nat.le_of_ble_eq_true rfl) (Nat.le_of_ble_eq_true rfl) ⟨1, _, μ', by decide, rfl, Lk.ovr, hm, fun z => by cases z⟩
    | j + 1, hk, hm => cases hk
theorem lw_liftAccount {G : Gl} {μ : St} {W : Nat} (hG : G.2.2.2 = true) (x1 x2 : Int32) (h : Opn (offG G) mX7_liftAccount mX8_liftAccount [.int x1, .int x2] W ["java/lang/IndexOutOfBoundsException", "java/lang/IllegalArgumentException"] μ) : ConH G mL_liftAccount [.ref (zad G.1 9 0 0), .int x1, .int x2, .ref (zad G.1 35 0 0)] μ (LW G mX8_liftAccount [.int x1, .int x2] W) noX := by
  refine conH_of pn_L (Nat.le_of_ble_eq_true rfl) ?_
  show V G mL_liftAccount mL_liftAccount.2.2.2.2.1 (QM G mL_liftAccount (LW G mX8_liftAccount [.int x1, .int x2] W) noX) 0 [(0, .ref (zad G.1 9 0 0)), (1, .int x1), (2, .int x2), (3, .ref (zad G.1 35 0 0))] [] μ 0 0
  refine v_aload_n (n := 1) dL_liftAccount_0 rfl rfl ?_
  refine v_iconst (n := 2) (x := nI 0) dL_liftAccount_1 rfl rfl ?_
  refine v_aload_n (n := 3) dL_liftAccount_2 rfl rfl ?_
  refine v_iload_n (n := 4) dL_liftAccount_3 rfl rfl ?_
  refine v_iload_n (n := 5) dL_liftAccount_4 rfl rfl ?_
  refine v_callV0 (n := 8) (k := 9) (b := 0) (i := 0) (As := [.int x1, .int x2]) (rest := [.int (nI 0), .ref (zad G.1 35 0 0)]) dL_liftAccount_5 rfl lk_L_105 rfl rfl (Nat.le_of_ble_eq_true rfl) ⟨Nat.le_of_ble_eq_true rfl, Nat.le_of_ble_eq_true rfl, Nat.le_of_ble_eq_true rfl, Nat.le_of_ble_eq_true rfl⟩ zokc_9 (Lk.refl μ) h (fun v μ' hp => ?_) (fun E μ' hp => ?_)
  · obtain ⟨r, rfl, hm⟩ := hp
    show V _ _ _ _ _ _ [.int r, .int (nI 0), .ref (zad G.1 35 0 0)] _ _ _
    refine v_i2l (n := 9) dL_liftAccount_8 rfl ?_
    refine v_last (n := 10) (j := 0) dL_liftAccount_9 rfl hG zokc_35 (by decide) (by decide) rfl rfl (by decide) (fun _ => rfl) ?_
    refine v_goto (n := 21) dL_liftAccount_10 (by decide) ?_
    refine v_iconst (n := 22) (x := nI 0) dL_liftAccount_21 rfl rfl ?_
    exact v_iret dL_liftAccount_22 rfl (Nat.le_of_ble_eq_true rfl) (Nat.le_of_ble_eq_true rfl) ⟨0, r, μ', by decide, rfl, Lk.ovr.upd (by decide), hm, fun _ => up_self _ _ _ _ _ _⟩
  · obtain ⟨k, hk, hm⟩ := hp
    match k, hk, hm with
    | 0, hk, hm =>
      cases hk
      refine v_catch (name := "java/lang/IndexOutOfBoundsException") (pre := []) (x := ⟨0, 10, 13, 13⟩) (suf := [⟨0, 10, 17, 15⟩]) rfl (fun _ h => absurd h List.not_mem_nil) rfl (by decide) cl_L_13 ca_IndexOutOfBoundsException (fun a => ?_)
      refine v_astore (n := 15) dL_liftAccount_13 rfl (by decide) rfl ?_
      refine v_iconst (n := 16) (x := nI 1) dL_liftAccount_15 rfl rfl ?_
      exact v_iret dL_liftAccount_16 rfl (Nat.le_of_ble_eq_true rfl) (Nat.le_of_ble_eq_true rfl) ⟨1, _, μ', by decide, rfl, Lk.ovr, hm, fun z => by cases z⟩
    | 1, hk, hm =>
      cases hk
      refine v_catch (name := "java/lang/IllegalArgumentException") (pre := [⟨0, 10, 13, 13⟩]) (x := ⟨0, 10, 17, 15⟩) (suf := []) rfl (List.forall_mem_cons.mpr ⟨⟨by decide, "java/lang/IndexOutOfBoundsException", cl_L_13, List.mem_of_getElem? (i := 0) rfl⟩, fun _ h => absurd h List.not_mem_nil⟩) rfl (by decide) cl_L_15 ca_IllegalArgumentException (fun a => ?_)
      refine v_astore (n := 19) dL_liftAccount_17 rfl (by decide) rfl ?_
      refine v_iconst (n := 20) (x := nI 2) dL_liftAccount_19 rfl rfl ?_
      exact v_iret dL_liftAccount_20 rfl (Nat.le_of_ble_eq_true rfl) (Nat.le_of_ble_eq_true rfl) ⟨2, _, μ', by decide, rfl, Lk.ovr, hm, fun z => by cases z⟩
    | j + 2, hk, hm => cases hk
theorem lw_guestAccount {G : Gl} {μ : St} {W : Nat} (hG : G.2.2.2 = true) (x1 x2 : Int32) (h : Opn (offG G) mX7_guestAccount mX8_guestAccount [.int x1, .int x2] W ["java/lang/IndexOutOfBoundsException", "java/lang/IllegalArgumentException"] μ) : ConH G mL_guestAccount [.ref (zad G.1 9 0 0), .int x1, .int x2, .ref (zad G.1 35 0 0)] μ (LW G mX8_guestAccount [.int x1, .int x2] W) noX := by
  refine conH_of pn_L (Nat.le_of_ble_eq_true rfl) ?_
  show V G mL_guestAccount mL_guestAccount.2.2.2.2.1 (QM G mL_guestAccount (LW G mX8_guestAccount [.int x1, .int x2] W) noX) 0 [(0, .ref (zad G.1 9 0 0)), (1, .int x1), (2, .int x2), (3, .ref (zad G.1 35 0 0))] [] μ 0 0
  refine v_aload_n (n := 1) dL_guestAccount_0 rfl rfl ?_
  refine v_iconst (n := 2) (x := nI 0) dL_guestAccount_1 rfl rfl ?_
  refine v_aload_n (n := 3) dL_guestAccount_2 rfl rfl ?_
  refine v_iload_n (n := 4) dL_guestAccount_3 rfl rfl ?_
  refine v_iload_n (n := 5) dL_guestAccount_4 rfl rfl ?_
  refine v_callV0 (n := 8) (k := 9) (b := 0) (i := 0) (As := [.int x1, .int x2]) (rest := [.int (nI 0), .ref (zad G.1 35 0 0)]) dL_guestAccount_5 rfl lk_L_108 rfl rfl (Nat.le_of_ble_eq_true rfl) ⟨Nat.le_of_ble_eq_true rfl, Nat.le_of_ble_eq_true rfl, Nat.le_of_ble_eq_true rfl, Nat.le_of_ble_eq_true rfl⟩ zokc_9 (Lk.refl μ) h (fun v μ' hp => ?_) (fun E μ' hp => ?_)
  · obtain ⟨r, rfl, hm⟩ := hp
    show V _ _ _ _ _ _ [.int r, .int (nI 0), .ref (zad G.1 35 0 0)] _ _ _
    refine v_i2l (n := 9) dL_guestAccount_8 rfl ?_
    refine v_last (n := 10) (j := 0) dL_guestAccount_9 rfl hG zokc_35 (by decide) (by decide) rfl rfl (by decide) (fun _ => rfl) ?_
    refine v_goto (n := 21) dL_guestAccount_10 (by decide) ?_
    refine v_iconst (n := 22) (x := nI 0) dL_guestAccount_21 rfl rfl ?_
    exact v_iret dL_guestAccount_22 rfl (Nat.le_of_ble_eq_true rfl) (Nat.le_of_ble_eq_true rfl) ⟨0, r, μ', by decide, rfl, Lk.ovr.upd (by decide), hm, fun _ => up_self _ _ _ _ _ _⟩
  · obtain ⟨k, hk, hm⟩ := hp
    match k, hk, hm with
    | 0, hk, hm =>
      cases hk
      refine v_catch (name := "java/lang/IndexOutOfBoundsException") (pre := []) (x := ⟨0, 10, 13, 13⟩) (suf := [⟨0, 10, 17, 15⟩]) rfl (fun _ h => absurd h List.not_mem_nil) rfl (by decide) cl_L_13 ca_IndexOutOfBoundsException (fun a => ?_)
      refine v_astore (n := 15) dL_guestAccount_13 rfl (by decide) rfl ?_
      refine v_iconst (n := 16) (x := nI 1) dL_guestAccount_15 rfl rfl ?_
      exact v_iret dL_guestAccount_16 rfl (Nat.le_of_ble_eq_true rfl) (Nat.le_of_ble_eq_true rfl) ⟨1, _, μ', by decide, rfl, Lk.ovr, hm, fun z => by cases z⟩
    | 1, hk, hm =>
      cases hk
      refine v_catch (name := "java/lang/IllegalArgumentException") (pre := [⟨0, 10, 13, 13⟩]) (x := ⟨0, 10, 17, 15⟩) (suf := []) rfl (List.forall_mem_cons.mpr ⟨⟨by decide, "java/lang/IndexOutOfBoundsException", cl_L_13, List.mem_of_getElem? (i := 0) rfl⟩, fun _ h => absurd h List.not_mem_nil⟩) rfl (by decide) cl_L_15 ca_IllegalArgumentException (fun a => ?_)
      refine v_astore (n := 19) dL_guestAccount_17 rfl (by decide) rfl ?_
      refine v_iconst (n := 20) (x := nI 2) dL_guestAccount_19 rfl rfl ?_
      exact v_iret dL_guestAccount_20 rfl (Nat.le_of_ble_eq_true rfl) (Nat.le_of_ble_eq_true rfl) ⟨2, _, μ', by decide, rfl, Lk.ovr, hm, fun z => by cases z⟩
    | j + 2, hk, hm => cases hk
theorem lw_pisteAccount {G : Gl} {μ : St} {W : Nat} (hG : G.2.2.2 = true) (x1 : Int32) (h : Opn (offG G) mX7_pisteAccount mX8_pisteAccount [.int x1] W ["java/lang/IndexOutOfBoundsException"] μ) : ConH G mL_pisteAccount [.ref (zad G.1 9 0 0), .int x1, .ref (zad G.1 35 0 0)] μ (LW G mX8_pisteAccount [.int x1] W) noX := by
  refine conH_of pn_L (Nat.le_of_ble_eq_true rfl) ?_
  show V G mL_pisteAccount mL_pisteAccount.2.2.2.2.1 (QM G mL_pisteAccount (LW G mX8_pisteAccount [.int x1] W) noX) 0 [(0, .ref (zad G.1 9 0 0)), (1, .int x1), (2, .ref (zad G.1 35 0 0))] [] μ 0 0
  refine v_aload_n (n := 1) dL_pisteAccount_0 rfl rfl ?_
  refine v_iconst (n := 2) (x := nI 0) dL_pisteAccount_1 rfl rfl ?_
  refine v_aload_n (n := 3) dL_pisteAccount_2 rfl rfl ?_
  refine v_iload_n (n := 4) dL_pisteAccount_3 rfl rfl ?_
  refine v_callV0 (n := 7) (k := 9) (b := 0) (i := 0) (As := [.int x1]) (rest := [.int (nI 0), .ref (zad G.1 35 0 0)]) dL_pisteAccount_4 rfl lk_L_111 rfl rfl (Nat.le_of_ble_eq_true rfl) ⟨Nat.le_of_ble_eq_true rfl, Nat.le_of_ble_eq_true rfl, Nat.le_of_ble_eq_true rfl, Nat.le_of_ble_eq_true rfl⟩ zokc_9 (Lk.refl μ) h (fun v μ' hp => ?_) (fun E μ' hp => ?_)
  · obtain ⟨r, rfl, hm⟩ := hp
    show V _ _ _ _ _ _ [.int r, .int (nI 0), .ref (zad G.1 35 0 0)] _ _ _
    refine v_i2l (n := 8) dL_pisteAccount_7 rfl ?_
    refine v_last (n := 9) (j := 0) dL_pisteAccount_8 rfl hG zokc_35 (by decide) (by decide) rfl rfl (by decide) (fun _ => rfl) ?_
    refine v_goto (n := 15) dL_pisteAccount_9 (by decide) ?_
    refine v_iconst (n := 16) (x := nI 0) dL_pisteAccount_15 rfl rfl ?_
    exact v_iret dL_pisteAccount_16 rfl (Nat.le_of_ble_eq_true rfl) (Nat.le_of_ble_eq_true rfl) ⟨0, r, μ', by decide, rfl, Lk.ovr.upd (by decide), hm, fun _ => up_self _ _ _ _ _ _⟩
  · obtain ⟨k, hk, hm⟩ := hp
    match k, hk, hm with
    | 0, hk, hm =>
      cases hk
      refine v_catch (name := "java/lang/IndexOutOfBoundsException") (pre := []) (x := ⟨0, 9, 12, 13⟩) (suf := []) rfl (fun _ h => absurd h List.not_mem_nil) rfl (by decide) cl_L_13 ca_IndexOutOfBoundsException (fun a => ?_)
      refine v_astore_n (n := 13) dL_pisteAccount_12 rfl (by decide) rfl ?_
      refine v_iconst (n := 14) (x := nI 1) dL_pisteAccount_13 rfl rfl ?_
      exact v_iret dL_pisteAccount_14 rfl (Nat.le_of_ble_eq_true rfl) (Nat.le_of_ble_eq_true rfl) ⟨1, _, μ', by decide, rfl, Lk.ovr, hm, fun z => by cases z⟩
    | j + 1, hk, hm => cases hk
theorem lw_busiest {G : Gl} {μ : St} {W : Nat} (hG : G.2.2.2 = true) (h : Opn (offG G) mX7_busiest mX8_busiest [] W ["java/util/NoSuchElementException"] μ) : ConH G mL_busiest [.ref (zad G.1 9 0 0), .ref (zad G.1 35 0 0)] μ (LW G mX8_busiest [] W) noX := by
  refine conH_of pn_L (Nat.le_of_ble_eq_true rfl) ?_
  show V G mL_busiest mL_busiest.2.2.2.2.1 (QM G mL_busiest (LW G mX8_busiest [] W) noX) 0 [(0, .ref (zad G.1 9 0 0)), (1, .ref (zad G.1 35 0 0))] [] μ 0 0
  refine v_aload_n (n := 1) dL_busiest_0 rfl rfl ?_
  refine v_iconst (n := 2) (x := nI 0) dL_busiest_1 rfl rfl ?_
  refine v_aload_n (n := 3) dL_busiest_2 rfl rfl ?_
  refine v_callV0 (n := 6) (k := 9) (b := 0) (i := 0) (As := []) (rest := [.int (nI 0), .ref (zad G.1 35 0 0)]) dL_busiest_3 rfl lk_L_114 rfl rfl (Nat.le_of_ble_eq_true rfl) ⟨Nat.le_of_ble_eq_true rfl, Nat.le_of_ble_eq_true rfl, Nat.le_of_ble_eq_true rfl, Nat.le_of_ble_eq_true rfl⟩ zokc_9 (Lk.refl μ) h (fun v μ' hp => ?_) (fun E μ' hp => ?_)
  · obtain ⟨r, rfl, hm⟩ := hp
    show V _ _ _ _ _ _ [.int r, .int (nI 0), .ref (zad G.1 35 0 0)] _ _ _
    refine v_i2l (n := 7) dL_busiest_6 rfl ?_
    refine v_last (n := 8) (j := 0) dL_busiest_7 rfl hG zokc_35 (by decide) (by decide) rfl rfl (by decide) (fun _ => rfl) ?_
    refine v_goto (n := 14) dL_busiest_8 (by decide) ?_
    refine v_iconst (n := 15) (x := nI 0) dL_busiest_14 rfl rfl ?_
    exact v_iret dL_busiest_15 rfl (Nat.le_of_ble_eq_true rfl) (Nat.le_of_ble_eq_true rfl) ⟨0, r, μ', by decide, rfl, Lk.ovr.upd (by decide), hm, fun _ => up_self _ _ _ _ _ _⟩
  · obtain ⟨k, hk, hm⟩ := hp
    match k, hk, hm with
    | 0, hk, hm =>
      cases hk
      refine v_catch (name := "java/util/NoSuchElementException") (pre := []) (x := ⟨0, 8, 11, 72⟩) (suf := []) rfl (fun _ h => absurd h List.not_mem_nil) rfl (by decide) cl_L_72 ca_NoSuchElementException (fun a => ?_)
      refine v_astore_n (n := 12) dL_busiest_11 rfl (by decide) rfl ?_
      refine v_iconst (n := 13) (x := nI 1) dL_busiest_12 rfl rfl ?_
      exact v_iret dL_busiest_13 rfl (Nat.le_of_ble_eq_true rfl) (Nat.le_of_ble_eq_true rfl) ⟨1, _, μ', by decide, rfl, Lk.ovr, hm, fun z => by cases z⟩
    | j + 1, hk, hm => cases hk
theorem lw_load {G : Gl} {μ : St} {W : Nat} (hG : G.2.2.2 = true) (x1 : Int32) (h : Con (offG G) mX7_load [.ref (zad G.1 9 0 0), .int x1] μ (fun v μ1 => ∃ a b, v = some (.double (FP.ddiv (FP.i2d a) (FP.i2d b))) ∧ vf_n64 (FP.ddiv (FP.i2d a) (FP.i2d b)) ∧ Con (offG G) mX8_load [.ref (zad G.1 10 0 0), .int x1] μ1 (MPd W 0 (FP.ddiv (FP.i2d a) (FP.i2d b))) noX) (fun E μ1 => ∃ k, [eIOOB, "java/lang/ArithmeticException"][k]? = some E ∧ Con (offG G) mX8_load [.ref (zad G.1 10 0 0), .int x1] μ1 (MPd W (k + 1) 0) noX)) : ConH G mL_load [.ref (zad G.1 9 0 0), .int x1, .ref (zad G.1 36 0 0)] μ (LWd G x1 W) noX := by
  refine conH_of pn_L (Nat.le_of_ble_eq_true rfl) ?_
  show V G mL_load mL_load.2.2.2.2.1 (QM G mL_load (LWd G x1 W) noX) 0 [(0, .ref (zad G.1 9 0 0)), (1, .int x1), (2, .ref (zad G.1 36 0 0))] [] μ 0 0
  refine v_aload_n (n := 1) dL_load_0 rfl rfl ?_
  refine v_iconst (n := 2) (x := nI 0) dL_load_1 rfl rfl ?_
  refine v_aload_n (n := 3) dL_load_2 rfl rfl ?_
  refine v_iload_n (n := 4) dL_load_3 rfl rfl ?_
  refine v_callV0 (n := 7) (k := 9) (b := 0) (i := 0) (As := [.int x1]) (rest := [.int (nI 0), .ref (zad G.1 36 0 0)]) dL_load_4 rfl lk_L_117 rfl rfl (Nat.le_of_ble_eq_true rfl) ⟨Nat.le_of_ble_eq_true rfl, Nat.le_of_ble_eq_true rfl, Nat.le_of_ble_eq_true rfl, Nat.le_of_ble_eq_true rfl⟩ zokc_9 (Lk.refl μ) h (fun v μ' hp => ?_) (fun E μ' hp => ?_)
  · obtain ⟨a, b, rfl, hn, hm⟩ := hp
    show V _ _ _ _ _ _ [.double (FP.ddiv (FP.i2d a) (FP.i2d b)), .int (nI 0), .ref (zad G.1 36 0 0)] _ _ _
    refine v_dast (n := 8) dL_load_7 rfl hG rfl rfl ?_
    refine v_goto (n := 17) dL_load_8 (by decide) ?_
    refine v_iconst (n := 18) (x := nI 0) dL_load_17 rfl rfl ?_
    exact v_iret dL_load_18 rfl (Nat.le_of_ble_eq_true rfl) (Nat.le_of_ble_eq_true rfl) ⟨0, _, μ', by decide, rfl, (Lk.ovr.upd (by decide)).upd (by decide), hm, fun _ => ⟨by rw [up_sl (by decide), up_self, up_self], hn⟩⟩
  · obtain ⟨k, hk, hm⟩ := hp
    match k, hk, hm with
    | 0, hk, hm =>
      cases hk
      refine v_catch (name := "java/lang/IndexOutOfBoundsException") (pre := []) (x := ⟨0, 8, 11, 13⟩) (suf := [⟨0, 8, 14, 121⟩]) rfl (fun _ h => absurd h List.not_mem_nil) rfl (by decide) cl_L_13 ca_IndexOutOfBoundsException (fun a => ?_)
      refine v_astore_n (n := 12) dL_load_11 rfl (by decide) rfl ?_
      refine v_iconst (n := 13) (x := nI 1) dL_load_12 rfl rfl ?_
      exact v_iret dL_load_13 rfl (Nat.le_of_ble_eq_true rfl) (Nat.le_of_ble_eq_true rfl) ⟨1, _, μ', by decide, rfl, Lk.ovr, hm, fun z => by cases z⟩
    | 1, hk, hm =>
      cases hk
      refine v_catch (name := "java/lang/ArithmeticException") (pre := [⟨0, 8, 11, 13⟩]) (x := ⟨0, 8, 14, 121⟩) (suf := []) rfl (List.forall_mem_cons.mpr ⟨⟨by decide, "java/lang/IndexOutOfBoundsException", cl_L_13, List.mem_of_getElem? (i := 5) rfl⟩, fun _ h => absurd h List.not_mem_nil⟩) rfl (by decide) cl_L_121 ca_ArithmeticException (fun a => ?_)
      refine v_astore_n (n := 15) dL_load_14 rfl (by decide) rfl ?_
      refine v_iconst (n := 16) (x := nI 2) dL_load_15 rfl rfl ?_
      exact v_iret dL_load_16 rfl (Nat.le_of_ble_eq_true rfl) (Nat.le_of_ble_eq_true rfl) ⟨2, _, μ', by decide, rfl, Lk.ovr, hm, fun z => by cases z⟩
    | j + 2, hk, hm => cases hk
theorem lw_append {G : Gl} {μ : St} {W : Nat} (hG : G.2.2.2 = true) (x1 : Int32) (h : Opn (offG G) mX7_append mX8_append [.int x1] W ["java/lang/IllegalArgumentException", "java/lang/IllegalStateException"] μ) : ConH G mL_append [.ref (zad G.1 9 0 0), .int x1, .ref (zad G.1 35 0 0)] μ (LW G mX8_append [.int x1] W) noX := by
  refine conH_of pn_L (Nat.le_of_ble_eq_true rfl) ?_
  show V G mL_append mL_append.2.2.2.2.1 (QM G mL_append (LW G mX8_append [.int x1] W) noX) 0 [(0, .ref (zad G.1 9 0 0)), (1, .int x1), (2, .ref (zad G.1 35 0 0))] [] μ 0 0
  refine v_aload_n (n := 1) dL_append_0 rfl rfl ?_
  refine v_iconst (n := 2) (x := nI 0) dL_append_1 rfl rfl ?_
  refine v_aload_n (n := 3) dL_append_2 rfl rfl ?_
  refine v_iload_n (n := 4) dL_append_3 rfl rfl ?_
  refine v_callV0 (n := 7) (k := 9) (b := 0) (i := 0) (As := [.int x1]) (rest := [.int (nI 0), .ref (zad G.1 35 0 0)]) dL_append_4 rfl lk_L_123 rfl rfl (Nat.le_of_ble_eq_true rfl) ⟨Nat.le_of_ble_eq_true rfl, Nat.le_of_ble_eq_true rfl, Nat.le_of_ble_eq_true rfl, Nat.le_of_ble_eq_true rfl⟩ zokc_9 (Lk.refl μ) h (fun v μ' hp => ?_) (fun E μ' hp => ?_)
  · obtain ⟨r, rfl, hm⟩ := hp
    show V _ _ _ _ _ _ [.int r, .int (nI 0), .ref (zad G.1 35 0 0)] _ _ _
    refine v_i2l (n := 8) dL_append_7 rfl ?_
    refine v_last (n := 9) (j := 0) dL_append_8 rfl hG zokc_35 (by decide) (by decide) rfl rfl (by decide) (fun _ => rfl) ?_
    refine v_goto (n := 18) dL_append_9 (by decide) ?_
    refine v_iconst (n := 19) (x := nI 0) dL_append_18 rfl rfl ?_
    exact v_iret dL_append_19 rfl (Nat.le_of_ble_eq_true rfl) (Nat.le_of_ble_eq_true rfl) ⟨0, r, μ', by decide, rfl, Lk.ovr.upd (by decide), hm, fun _ => up_self _ _ _ _ _ _⟩
  · obtain ⟨k, hk, hm⟩ := hp
    match k, hk, hm with
    | 0, hk, hm =>
      cases hk
      refine v_catch (name := "java/lang/IllegalArgumentException") (pre := []) (x := ⟨0, 9, 12, 15⟩) (suf := [⟨0, 9, 15, 17⟩]) rfl (fun _ h => absurd h List.not_mem_nil) rfl (by decide) cl_L_15 ca_IllegalArgumentException (fun a => ?_)
      refine v_astore_n (n := 13) dL_append_12 rfl (by decide) rfl ?_
      refine v_iconst (n := 14) (x := nI 1) dL_append_13 rfl rfl ?_
      exact v_iret dL_append_14 rfl (Nat.le_of_ble_eq_true rfl) (Nat.le_of_ble_eq_true rfl) ⟨1, _, μ', by decide, rfl, Lk.ovr, hm, fun z => by cases z⟩
    | 1, hk, hm =>
      cases hk
      refine v_catch (name := "java/lang/IllegalStateException") (pre := [⟨0, 9, 12, 15⟩]) (x := ⟨0, 9, 15, 17⟩) (suf := []) rfl (List.forall_mem_cons.mpr ⟨⟨by decide, "java/lang/IllegalArgumentException", cl_L_15, List.mem_of_getElem? (i := 2) rfl⟩, fun _ h => absurd h List.not_mem_nil⟩) rfl (by decide) cl_L_17 ca_IllegalStateException (fun a => ?_)
      refine v_astore_n (n := 16) dL_append_15 rfl (by decide) rfl ?_
      refine v_iconst (n := 17) (x := nI 2) dL_append_16 rfl rfl ?_
      exact v_iret dL_append_17 rfl (Nat.le_of_ble_eq_true rfl) (Nat.le_of_ble_eq_true rfl) ⟨2, _, μ', by decide, rfl, Lk.ovr, hm, fun z => by cases z⟩
    | j + 2, hk, hm => cases hk
theorem lw_read {G : Gl} {μ : St} {W : Nat} (hG : G.2.2.2 = true) (h : Opn (offG G) mX7_read mX8_read [] W ["java/lang/IllegalArgumentException", "java/lang/IllegalStateException"] μ) : ConH G mL_read [.ref (zad G.1 9 0 0), .ref (zad G.1 35 0 0)] μ (LW G mX8_read [] W) noX := by
  refine conH_of pn_L (Nat.le_of_ble_eq_true rfl) ?_
  show V G mL_read mL_read.2.2.2.2.1 (QM G mL_read (LW G mX8_read [] W) noX) 0 [(0, .ref (zad G.1 9 0 0)), (1, .ref (zad G.1 35 0 0))] [] μ 0 0
  refine v_aload_n (n := 1) dL_read_0 rfl rfl ?_
  refine v_iconst (n := 2) (x := nI 0) dL_read_1 rfl rfl ?_
  refine v_aload_n (n := 3) dL_read_2 rfl rfl ?_
  refine v_callV0 (n := 6) (k := 9) (b := 0) (i := 0) (As := []) (rest := [.int (nI 0), .ref (zad G.1 35 0 0)]) dL_read_3 rfl lk_L_127 rfl rfl (Nat.le_of_ble_eq_true rfl) ⟨Nat.le_of_ble_eq_true rfl, Nat.le_of_ble_eq_true rfl, Nat.le_of_ble_eq_true rfl, Nat.le_of_ble_eq_true rfl⟩ zokc_9 (Lk.refl μ) h (fun v μ' hp => ?_) (fun E μ' hp => ?_)
  · obtain ⟨r, rfl, hm⟩ := hp
    show V _ _ _ _ _ _ [.int r, .int (nI 0), .ref (zad G.1 35 0 0)] _ _ _
    refine v_i2l (n := 7) dL_read_6 rfl ?_
    refine v_last (n := 8) (j := 0) dL_read_7 rfl hG zokc_35 (by decide) (by decide) rfl rfl (by decide) (fun _ => rfl) ?_
    refine v_goto (n := 17) dL_read_8 (by decide) ?_
    refine v_iconst (n := 18) (x := nI 0) dL_read_17 rfl rfl ?_
    exact v_iret dL_read_18 rfl (Nat.le_of_ble_eq_true rfl) (Nat.le_of_ble_eq_true rfl) ⟨0, r, μ', by decide, rfl, Lk.ovr.upd (by decide), hm, fun _ => up_self _ _ _ _ _ _⟩
  · obtain ⟨k, hk, hm⟩ := hp
    match k, hk, hm with
    | 0, hk, hm =>
      cases hk
      refine v_catch (name := "java/lang/IllegalArgumentException") (pre := []) (x := ⟨0, 8, 11, 15⟩) (suf := [⟨0, 8, 14, 17⟩]) rfl (fun _ h => absurd h List.not_mem_nil) rfl (by decide) cl_L_15 ca_IllegalArgumentException (fun a => ?_)
      refine v_astore_n (n := 12) dL_read_11 rfl (by decide) rfl ?_
      refine v_iconst (n := 13) (x := nI 1) dL_read_12 rfl rfl ?_
      exact v_iret dL_read_13 rfl (Nat.le_of_ble_eq_true rfl) (Nat.le_of_ble_eq_true rfl) ⟨1, _, μ', by decide, rfl, Lk.ovr, hm, fun z => by cases z⟩
    | 1, hk, hm =>
      cases hk
      refine v_catch (name := "java/lang/IllegalStateException") (pre := [⟨0, 8, 11, 15⟩]) (x := ⟨0, 8, 14, 17⟩) (suf := []) rfl (List.forall_mem_cons.mpr ⟨⟨by decide, "java/lang/IllegalArgumentException", cl_L_15, List.mem_of_getElem? (i := 2) rfl⟩, fun _ h => absurd h List.not_mem_nil⟩) rfl (by decide) cl_L_17 ca_IllegalStateException (fun a => ?_)
      refine v_astore_n (n := 15) dL_read_14 rfl (by decide) rfl ?_
      refine v_iconst (n := 16) (x := nI 2) dL_read_15 rfl rfl ?_
      exact v_iret dL_read_16 rfl (Nat.le_of_ble_eq_true rfl) (Nat.le_of_ble_eq_true rfl) ⟨2, _, μ', by decide, rfl, Lk.ovr, hm, fun z => by cases z⟩
    | j + 2, hk, hm => cases hk
theorem lw_errorPosition {G : Gl} {μ : St} {W : Nat} (hG : G.2.2.2 = true) (h : Opn (offG G) mX7_errorPosition mX8_errorPosition [] W ["java/util/NoSuchElementException"] μ) : ConH G mL_errorPosition [.ref (zad G.1 9 0 0), .ref (zad G.1 35 0 0)] μ (LW G mX8_errorPosition [] W) noX := by
  refine conH_of pn_L (Nat.le_of_ble_eq_true rfl) ?_
  show V G mL_errorPosition mL_errorPosition.2.2.2.2.1 (QM G mL_errorPosition (LW G mX8_errorPosition [] W) noX) 0 [(0, .ref (zad G.1 9 0 0)), (1, .ref (zad G.1 35 0 0))] [] μ 0 0
  refine v_aload_n (n := 1) dL_errorPosition_0 rfl rfl ?_
  refine v_iconst (n := 2) (x := nI 0) dL_errorPosition_1 rfl rfl ?_
  refine v_aload_n (n := 3) dL_errorPosition_2 rfl rfl ?_
  refine v_callV0 (n := 6) (k := 9) (b := 0) (i := 0) (As := []) (rest := [.int (nI 0), .ref (zad G.1 35 0 0)]) dL_errorPosition_3 rfl lk_L_130 rfl rfl (Nat.le_of_ble_eq_true rfl) ⟨Nat.le_of_ble_eq_true rfl, Nat.le_of_ble_eq_true rfl, Nat.le_of_ble_eq_true rfl, Nat.le_of_ble_eq_true rfl⟩ zokc_9 (Lk.refl μ) h (fun v μ' hp => ?_) (fun E μ' hp => ?_)
  · obtain ⟨r, rfl, hm⟩ := hp
    show V _ _ _ _ _ _ [.int r, .int (nI 0), .ref (zad G.1 35 0 0)] _ _ _
    refine v_i2l (n := 7) dL_errorPosition_6 rfl ?_
    refine v_last (n := 8) (j := 0) dL_errorPosition_7 rfl hG zokc_35 (by decide) (by decide) rfl rfl (by decide) (fun _ => rfl) ?_
    refine v_goto (n := 14) dL_errorPosition_8 (by decide) ?_
    refine v_iconst (n := 15) (x := nI 0) dL_errorPosition_14 rfl rfl ?_
    exact v_iret dL_errorPosition_15 rfl (Nat.le_of_ble_eq_true rfl) (Nat.le_of_ble_eq_true rfl) ⟨0, r, μ', by decide, rfl, Lk.ovr.upd (by decide), hm, fun _ => up_self _ _ _ _ _ _⟩
  · obtain ⟨k, hk, hm⟩ := hp
    match k, hk, hm with
    | 0, hk, hm =>
      cases hk
      refine v_catch (name := "java/util/NoSuchElementException") (pre := []) (x := ⟨0, 8, 11, 72⟩) (suf := []) rfl (fun _ h => absurd h List.not_mem_nil) rfl (by decide) cl_L_72 ca_NoSuchElementException (fun a => ?_)
      refine v_astore_n (n := 12) dL_errorPosition_11 rfl (by decide) rfl ?_
      refine v_iconst (n := 13) (x := nI 1) dL_errorPosition_12 rfl rfl ?_
      exact v_iret dL_errorPosition_13 rfl (Nat.le_of_ble_eq_true rfl) (Nat.le_of_ble_eq_true rfl) ⟨1, _, μ', by decide, rfl, Lk.ovr, hm, fun z => by cases z⟩
    | j + 1, hk, hm => cases hk
theorem lw_undo {G : Gl} {μ : St} {W : Nat} (hG : G.2.2.2 = true) (h : Opn (offG G) mX7_undo mX8_undo [] W ["java/util/NoSuchElementException"] μ) : ConH G mL_undo [.ref (zad G.1 9 0 0), .ref (zad G.1 35 0 0)] μ (LW G mX8_undo [] W) noX := by
  refine conH_of pn_L (Nat.le_of_ble_eq_true rfl) ?_
  show V G mL_undo mL_undo.2.2.2.2.1 (QM G mL_undo (LW G mX8_undo [] W) noX) 0 [(0, .ref (zad G.1 9 0 0)), (1, .ref (zad G.1 35 0 0))] [] μ 0 0
  refine v_aload_n (n := 1) dL_undo_0 rfl rfl ?_
  refine v_iconst (n := 2) (x := nI 0) dL_undo_1 rfl rfl ?_
  refine v_aload_n (n := 3) dL_undo_2 rfl rfl ?_
  refine v_callV0 (n := 6) (k := 9) (b := 0) (i := 0) (As := []) (rest := [.int (nI 0), .ref (zad G.1 35 0 0)]) dL_undo_3 rfl lk_L_133 rfl rfl (Nat.le_of_ble_eq_true rfl) ⟨Nat.le_of_ble_eq_true rfl, Nat.le_of_ble_eq_true rfl, Nat.le_of_ble_eq_true rfl, Nat.le_of_ble_eq_true rfl⟩ zokc_9 (Lk.refl μ) h (fun v μ' hp => ?_) (fun E μ' hp => ?_)
  · obtain ⟨r, rfl, hm⟩ := hp
    show V _ _ _ _ _ _ [.int r, .int (nI 0), .ref (zad G.1 35 0 0)] _ _ _
    refine v_i2l (n := 7) dL_undo_6 rfl ?_
    refine v_last (n := 8) (j := 0) dL_undo_7 rfl hG zokc_35 (by decide) (by decide) rfl rfl (by decide) (fun _ => rfl) ?_
    refine v_goto (n := 14) dL_undo_8 (by decide) ?_
    refine v_iconst (n := 15) (x := nI 0) dL_undo_14 rfl rfl ?_
    exact v_iret dL_undo_15 rfl (Nat.le_of_ble_eq_true rfl) (Nat.le_of_ble_eq_true rfl) ⟨0, r, μ', by decide, rfl, Lk.ovr.upd (by decide), hm, fun _ => up_self _ _ _ _ _ _⟩
  · obtain ⟨k, hk, hm⟩ := hp
    match k, hk, hm with
    | 0, hk, hm =>
      cases hk
      refine v_catch (name := "java/util/NoSuchElementException") (pre := []) (x := ⟨0, 8, 11, 72⟩) (suf := []) rfl (fun _ h => absurd h List.not_mem_nil) rfl (by decide) cl_L_72 ca_NoSuchElementException (fun a => ?_)
      refine v_astore_n (n := 12) dL_undo_11 rfl (by decide) rfl ?_
      refine v_iconst (n := 13) (x := nI 1) dL_undo_12 rfl rfl ?_
      exact v_iret dL_undo_13 rfl (Nat.le_of_ble_eq_true rfl) (Nat.le_of_ble_eq_true rfl) ⟨1, _, μ', by decide, rfl, Lk.ovr, hm, fun z => by cases z⟩
    | j + 1, hk, hm => cases hk
theorem lw_restore {G : Gl} {μ : St} {W : Nat} (hG : G.2.2.2 = true) (h : Opn (offG G) mX7_restore mX8_restore [] W ["java/lang/IllegalStateException"] μ) : ConH G mL_restore [.ref (zad G.1 9 0 0), .ref (zad G.1 35 0 0)] μ (LW G mX8_restore [] W) noX := by
  refine conH_of pn_L (Nat.le_of_ble_eq_true rfl) ?_
  show V G mL_restore mL_restore.2.2.2.2.1 (QM G mL_restore (LW G mX8_restore [] W) noX) 0 [(0, .ref (zad G.1 9 0 0)), (1, .ref (zad G.1 35 0 0))] [] μ 0 0
  refine v_aload_n (n := 1) dL_restore_0 rfl rfl ?_
  refine v_iconst (n := 2) (x := nI 0) dL_restore_1 rfl rfl ?_
  refine v_aload_n (n := 3) dL_restore_2 rfl rfl ?_
  refine v_callV0 (n := 6) (k := 9) (b := 0) (i := 0) (As := []) (rest := [.int (nI 0), .ref (zad G.1 35 0 0)]) dL_restore_3 rfl lk_L_136 rfl rfl (Nat.le_of_ble_eq_true rfl) ⟨Nat.le_of_ble_eq_true rfl, Nat.le_of_ble_eq_true rfl, Nat.le_of_ble_eq_true rfl, Nat.le_of_ble_eq_true rfl⟩ zokc_9 (Lk.refl μ) h (fun v μ' hp => ?_) (fun E μ' hp => ?_)
  · obtain ⟨r, rfl, hm⟩ := hp
    show V _ _ _ _ _ _ [.int r, .int (nI 0), .ref (zad G.1 35 0 0)] _ _ _
    refine v_i2l (n := 7) dL_restore_6 rfl ?_
    refine v_last (n := 8) (j := 0) dL_restore_7 rfl hG zokc_35 (by decide) (by decide) rfl rfl (by decide) (fun _ => rfl) ?_
    refine v_goto (n := 14) dL_restore_8 (by decide) ?_
    refine v_iconst (n := 15) (x := nI 0) dL_restore_14 rfl rfl ?_
    exact v_iret dL_restore_15 rfl (Nat.le_of_ble_eq_true rfl) (Nat.le_of_ble_eq_true rfl) ⟨0, r, μ', by decide, rfl, Lk.ovr.upd (by decide), hm, fun _ => up_self _ _ _ _ _ _⟩
  · obtain ⟨k, hk, hm⟩ := hp
    match k, hk, hm with
    | 0, hk, hm =>
      cases hk
      refine v_catch (name := "java/lang/IllegalStateException") (pre := []) (x := ⟨0, 8, 11, 17⟩) (suf := []) rfl (fun _ h => absurd h List.not_mem_nil) rfl (by decide) cl_L_17 ca_IllegalStateException (fun a => ?_)
      refine v_astore_n (n := 12) dL_restore_11 rfl (by decide) rfl ?_
      refine v_iconst (n := 13) (x := nI 1) dL_restore_12 rfl rfl ?_
      exact v_iret dL_restore_13 rfl (Nat.le_of_ble_eq_true rfl) (Nat.le_of_ble_eq_true rfl) ⟨1, _, μ', by decide, rfl, Lk.ovr, hm, fun z => by cases z⟩
    | j + 1, hk, hm => cases hk
