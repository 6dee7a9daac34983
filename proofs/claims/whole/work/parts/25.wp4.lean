/-! wp-lemmas by program (wip/whole/wp.py) -/
set_option maxRecDepth 20000 in
set_option maxHeartbeats 4000000 in
theorem wX0_accountsGap (G : Gl) {P : Option Value → St → Prop} {X : String → St → Prop} (b : Nat) (hb : b < 11) (μ : St)
    (h : VL G mX0_accountsGap P X 6 [(0, .ref (zad G.1 2 b 0)), (1, .int (nI 0)), (2, .int (nI 0)), (3, .int (nI 0))] [] μ) :
    Con G mX0_accountsGap [.ref (zad G.1 2 b 0)] μ P X := by
  refine con_of pn_X0 rfl (Nat.le_of_ble_eq_true rfl) ?_
  show VL G mX0_accountsGap P X 0 [(0, .ref (zad G.1 2 b 0))] [] μ
  refine v_iconst (n := 1) (x := nI 0) dX0_accountsGap_0 rfl (by decide) ?_
  refine v_istore_n (n := 2) (L' := [(0, .ref (zad G.1 2 b 0)), (1, .int (nI 0))]) dX0_accountsGap_1 rfl (by decide) rfl ?_
  refine v_iconst (n := 3) (x := nI 0) dX0_accountsGap_2 rfl (by decide) ?_
  refine v_istore_n (n := 4) (L' := [(0, .ref (zad G.1 2 b 0)), (1, .int (nI 0)), (2, .int (nI 0))]) dX0_accountsGap_3 rfl (by decide) rfl ?_
  refine v_iconst (n := 5) (x := nI 0) dX0_accountsGap_4 rfl (by decide) ?_
  refine v_istore_n (n := 6) (L' := [(0, .ref (zad G.1 2 b 0)), (1, .int (nI 0)), (2, .int (nI 0)), (3, .int (nI 0))]) dX0_accountsGap_5 rfl (by decide) rfl ?_
  exact h

set_option maxRecDepth 20000 in
set_option maxHeartbeats 4000000 in
theorem wX0_accountsGap_6 (G : Gl) {P : Option Value → St → Prop} {X : String → St → Prop} (b : Nat) (hb : b < 11) (y1 : Int32) (y2 : Int32) (i : Nat) (μ : St)
    (h : ((μ 2 b 0 3 ≤ nI i → VL G mX0_accountsGap P X 34 [(0, .ref (zad G.1 2 b 0)), (1, .int y1), (2, .int y2), (3, .int (nI 0))] [] μ) ∧ (¬ μ 2 b 0 3 ≤ nI i → i < 6 ∧ VL G mX0_accountsGap P X 6 [(0, .ref (zad G.1 2 b 0)), (1, .int (y1 + (μ 6 b i 8))), (2, .int y2), (3, .int (nI (i + 1)))] [] μ))) :
    VL G mX0_accountsGap P X 6 [(0, .ref (zad G.1 2 b 0)), (1, .int y1), (2, .int y2), (3, .int (nI i))] [] μ := by
  refine v_iload_n (n := 7) dX0_accountsGap_6 rfl rfl ?_
  refine v_aload_n (n := 8) dX0_accountsGap_7 rfl rfl ?_
  refine v_getf (n := 11) dX0_accountsGap_8 rfl fl_X0_32 (zok_2 hb) (rfl) ?_
  refine v_icmp_ge (n := 14) (t := 32) dX0_accountsGap_11 rfl (by decide) (fun hq => ?_) (fun hq => ?_)
  · replace h := h.1 hq
    refine v_iconst (n := 33) (x := nI 0) dX0_accountsGap_32 rfl (by decide) ?_
    refine v_istore_n (n := 34) (L' := [(0, .ref (zad G.1 2 b 0)), (1, .int y1), (2, .int y2), (3, .int (nI 0))]) dX0_accountsGap_33 rfl (by decide) rfl ?_
    exact h
  · replace h := h.2 hq
    refine v_iload_n (n := 15) dX0_accountsGap_14 rfl rfl ?_
    refine v_aload_n (n := 16) dX0_accountsGap_15 rfl rfl ?_
    refine v_getf (n := 19) dX0_accountsGap_16 rfl fl_X0_11 (zok_2 hb) rfl ?_
    refine v_iload_n (n := 20) dX0_accountsGap_19 rfl rfl ?_
    obtain ⟨hf1, h⟩ := h
    refine v_aald (n := 21) (j := i) dX0_accountsGap_20 rfl (zok_20 hb) (by decide) rfl rfl hf1 rfl ?_
    refine v_getf (n := 24) dX0_accountsGap_21 rfl fl_X0_203 (zok_6 hb hf1) (rfl) ?_
    refine v_iadd (n := 25) dX0_accountsGap_24 rfl ?_
    refine v_istore_n (n := 26) (L' := [(0, .ref (zad G.1 2 b 0)), (1, .int (y1 + (μ 6 b i 8))), (2, .int y2), (3, .int (nI i))]) dX0_accountsGap_25 rfl (by decide) rfl ?_
    refine v_iinc (n := 29) (x := nI i) (y := nI (i + 1)) (L' := [(0, .ref (zad G.1 2 b 0)), (1, .int (y1 + (μ 6 b i 8))), (2, .int y2), (3, .int (nI (i + 1)))]) dX0_accountsGap_26 rfl rfl (nI_1 i) (by decide) rfl ?_
    refine v_goto (n := 6) dX0_accountsGap_29 (by decide) ?_
    exact h

set_option maxRecDepth 20000 in
set_option maxHeartbeats 4000000 in
theorem wX0_accountsGap_34 (G : Gl) {P : Option Value → St → Prop} {X : String → St → Prop} (b : Nat) (hb : b < 11) (y1 : Int32) (y2 : Int32) (i : Nat) (μ : St)
    (h : ((μ 2 b 0 4 ≤ nI i → VL G mX0_accountsGap P X 62 [(0, .ref (zad G.1 2 b 0)), (1, .int y1), (2, .int y2), (3, .int (nI 0))] [] μ) ∧ (¬ μ 2 b 0 4 ≤ nI i → i < 10 ∧ VL G mX0_accountsGap P X 34 [(0, .ref (zad G.1 2 b 0)), (1, .int y1), (2, .int (y2 + (μ 7 b i 7))), (3, .int (nI (i + 1)))] [] μ))) :
    VL G mX0_accountsGap P X 34 [(0, .ref (zad G.1 2 b 0)), (1, .int y1), (2, .int y2), (3, .int (nI i))] [] μ := by
  refine v_iload_n (n := 35) dX0_accountsGap_34 rfl rfl ?_
  refine v_aload_n (n := 36) dX0_accountsGap_35 rfl rfl ?_
  refine v_getf (n := 39) dX0_accountsGap_36 rfl fl_X0_36 (zok_2 hb) (rfl) ?_
  refine v_icmp_ge (n := 42) (t := 60) dX0_accountsGap_39 rfl (by decide) (fun hq => ?_) (fun hq => ?_)
  · replace h := h.1 hq
    refine v_iconst (n := 61) (x := nI 0) dX0_accountsGap_60 rfl (by decide) ?_
    refine v_istore_n (n := 62) (L' := [(0, .ref (zad G.1 2 b 0)), (1, .int y1), (2, .int y2), (3, .int (nI 0))]) dX0_accountsGap_61 rfl (by decide) rfl ?_
    exact h
  · replace h := h.2 hq
    refine v_iload_n (n := 43) dX0_accountsGap_42 rfl rfl ?_
    refine v_aload_n (n := 44) dX0_accountsGap_43 rfl rfl ?_
    refine v_getf (n := 47) dX0_accountsGap_44 rfl fl_X0_20 (zok_2 hb) rfl ?_
    refine v_iload_n (n := 48) dX0_accountsGap_47 rfl rfl ?_
    obtain ⟨hf1, h⟩ := h
    refine v_aald (n := 49) (j := i) dX0_accountsGap_48 rfl (zok_21 hb) (by decide) rfl rfl hf1 rfl ?_
    refine v_getf (n := 52) dX0_accountsGap_49 rfl fl_X0_139 (zok_7 hb hf1) (rfl) ?_
    refine v_iadd (n := 53) dX0_accountsGap_52 rfl ?_
    refine v_istore_n (n := 54) (L' := [(0, .ref (zad G.1 2 b 0)), (1, .int y1), (2, .int (y2 + (μ 7 b i 7))), (3, .int (nI i))]) dX0_accountsGap_53 rfl (by decide) rfl ?_
    refine v_iinc (n := 57) (x := nI i) (y := nI (i + 1)) (L' := [(0, .ref (zad G.1 2 b 0)), (1, .int y1), (2, .int (y2 + (μ 7 b i 7))), (3, .int (nI (i + 1)))]) dX0_accountsGap_54 rfl rfl (nI_1 i) (by decide) rfl ?_
    refine v_goto (n := 34) dX0_accountsGap_57 (by decide) ?_
    exact h

set_option maxRecDepth 20000 in
set_option maxHeartbeats 4000000 in
theorem wX0_accountsGap_62 (G : Gl) {P : Option Value → St → Prop} {X : String → St → Prop} (b : Nat) (hb : b < 11) (y1 : Int32) (y2 : Int32) (i : Nat) (μ : St)
    (h : ((μ 2 b 0 5 ≤ nI i → P (some (.int ((iab y1) + (iab y2)))) μ) ∧ (¬ μ 2 b 0 5 ≤ nI i → i < 16 ∧ VL G mX0_accountsGap P X 62 [(0, .ref (zad G.1 2 b 0)), (1, .int (y1 - (μ 3 b i 8))), (2, .int (y2 - (μ 3 b i 9))), (3, .int (nI (i + 1)))] [] μ))) :
    VL G mX0_accountsGap P X 62 [(0, .ref (zad G.1 2 b 0)), (1, .int y1), (2, .int y2), (3, .int (nI i))] [] μ := by
  refine v_iload_n (n := 63) dX0_accountsGap_62 rfl rfl ?_
  refine v_aload_n (n := 64) dX0_accountsGap_63 rfl rfl ?_
  refine v_getf (n := 67) dX0_accountsGap_64 rfl fl_X0_39 (zok_2 hb) (rfl) ?_
  refine v_icmp_ge (n := 70) (t := 100) dX0_accountsGap_67 rfl (by decide) (fun hq => ?_) (fun hq => ?_)
  · replace h := h.1 hq
    refine v_iload_n (n := 101) dX0_accountsGap_100 rfl rfl ?_
    refine v_callS (n := 104) (As := [.int y1]) (rest := []) dX0_accountsGap_101 rfl lk_X0_226 rfl rfl (Nat.le_of_ble_eq_true rfl) ⟨Nat.le_of_ble_eq_true rfl, Nat.le_of_ble_eq_true rfl, Nat.le_of_ble_eq_true rfl, Nat.le_of_ble_eq_true rfl⟩ (s_J9_abs_0f7a4 G y1 μ) (fun v μ9 hp => ?_) (fun _ _ hp => False.elim hp)
    rw [hp.1, hp.2]
    refine v_norm (st' := [.int (iab y1)]) (cells' := 0) (slots' := 0) rfl rfl rfl ?_
    refine v_iload_n (n := 105) dX0_accountsGap_104 rfl rfl ?_
    refine v_callS (n := 108) (As := [.int y2]) (rest := [.int (iab y1)]) dX0_accountsGap_105 rfl lk_X0_226 rfl rfl (Nat.le_of_ble_eq_true rfl) ⟨Nat.le_of_ble_eq_true rfl, Nat.le_of_ble_eq_true rfl, Nat.le_of_ble_eq_true rfl, Nat.le_of_ble_eq_true rfl⟩ (s_J9_abs_0f7a4 G y2 μ) (fun v μ9 hp => ?_) (fun _ _ hp => False.elim hp)
    rw [hp.1, hp.2]
    refine v_norm (st' := [.int (iab y2), .int (iab y1)]) (cells' := 0) (slots' := 0) rfl rfl rfl ?_
    refine v_iadd (n := 109) dX0_accountsGap_108 rfl ?_
    exact v_iret dX0_accountsGap_109 rfl (Nat.le_of_ble_eq_true rfl) (Nat.le_of_ble_eq_true rfl) h
  · replace h := h.2 hq
    refine v_iload_n (n := 71) dX0_accountsGap_70 rfl rfl ?_
    refine v_aload_n (n := 72) dX0_accountsGap_71 rfl rfl ?_
    refine v_getf (n := 75) dX0_accountsGap_72 rfl fl_X0_27 (zok_2 hb) rfl ?_
    refine v_iload_n (n := 76) dX0_accountsGap_75 rfl rfl ?_
    obtain ⟨hf1, h⟩ := h
    refine v_aald (n := 77) (j := i) dX0_accountsGap_76 rfl (zok_22 hb) (by decide) rfl rfl hf1 rfl ?_
    refine v_getf (n := 80) dX0_accountsGap_77 rfl fl_X0_200 (zok_3 hb hf1) (rfl) ?_
    refine v_isub (n := 81) dX0_accountsGap_80 rfl ?_
    refine v_istore_n (n := 82) (L' := [(0, .ref (zad G.1 2 b 0)), (1, .int (y1 - (μ 3 b i 8))), (2, .int y2), (3, .int (nI i))]) dX0_accountsGap_81 rfl (by decide) rfl ?_
    refine v_iload_n (n := 83) dX0_accountsGap_82 rfl rfl ?_
    refine v_aload_n (n := 84) dX0_accountsGap_83 rfl rfl ?_
    refine v_getf (n := 87) dX0_accountsGap_84 rfl fl_X0_27 (zok_2 hb) rfl ?_
    refine v_iload_n (n := 88) dX0_accountsGap_87 rfl rfl ?_
    refine v_aald (n := 89) (j := i) dX0_accountsGap_88 rfl (zok_22 hb) (by decide) rfl rfl hf1 rfl ?_
    refine v_getf (n := 92) dX0_accountsGap_89 rfl fl_X0_136 (zok_3 hb hf1) (rfl) ?_
    refine v_isub (n := 93) dX0_accountsGap_92 rfl ?_
    refine v_istore_n (n := 94) (L' := [(0, .ref (zad G.1 2 b 0)), (1, .int (y1 - (μ 3 b i 8))), (2, .int (y2 - (μ 3 b i 9))), (3, .int (nI i))]) dX0_accountsGap_93 rfl (by decide) rfl ?_
    refine v_iinc (n := 97) (x := nI i) (y := nI (i + 1)) (L' := [(0, .ref (zad G.1 2 b 0)), (1, .int (y1 - (μ 3 b i 8))), (2, .int (y2 - (μ 3 b i 9))), (3, .int (nI (i + 1)))]) dX0_accountsGap_94 rfl rfl (nI_1 i) (by decide) rfl ?_
    refine v_goto (n := 62) dX0_accountsGap_97 (by decide) ?_
    exact h

set_option maxRecDepth 20000 in
set_option maxHeartbeats 4000000 in
theorem wX0_boardCabin (G : Gl) {P : Option Value → St → Prop} {X : String → St → Prop} (b : Nat) (hb : b < 11) (l : Nat) (hl : l < 6) (x2 : Int32) (μ : St)
    (h : VL G mX0_boardCabin P X 2 [(0, .ref (zad G.1 2 b 0)), (1, .ref (zad G.1 6 b l)), (2, .int x2), (3, .int (nI 0))] [] μ) :
    Con G mX0_boardCabin [.ref (zad G.1 2 b 0), .ref (zad G.1 6 b l), .int x2] μ P X := by
  refine con_of pn_X0 rfl (Nat.le_of_ble_eq_true rfl) ?_
  show VL G mX0_boardCabin P X 0 [(0, .ref (zad G.1 2 b 0)), (1, .ref (zad G.1 6 b l)), (2, .int x2)] [] μ
  refine v_iconst (n := 1) (x := nI 0) dX0_boardCabin_0 rfl (by decide) ?_
  refine v_istore_n (n := 2) (L' := [(0, .ref (zad G.1 2 b 0)), (1, .ref (zad G.1 6 b l)), (2, .int x2), (3, .int (nI 0))]) dX0_boardCabin_1 rfl (by decide) rfl ?_
  exact h

set_option maxRecDepth 20000 in
set_option maxHeartbeats 4000000 in
theorem wX0_boardCabin_2 (G : Gl) {P : Option Value → St → Prop} {X : String → St → Prop} (b : Nat) (hb : b < 11) (l : Nat) (hl : l < 6) (x2 : Int32) (i : Nat) (μ : St)
    (h : ((μ 2 b 0 5 ≤ nI i → P none μ) ∧ (¬ μ 2 b 0 5 ≤ nI i → i < 16 ∧ ((gis μ b i (nI 1) x2 = true → ((μ 6 b l 4 ≤ μ 3 b i 7 → VL G mX0_boardCabin P X 2 [(0, .ref (zad G.1 2 b 0)), (1, .ref (zad G.1 6 b l)), (2, .int x2), (3, .int (nI (i + 1)))] [] (up μ 3 b i 7 ((μ 3 b i 7) - (μ 6 b l 4)))) ∧ (¬ μ 6 b l 4 ≤ μ 3 b i 7 → VL G mX0_boardCabin P X 2 [(0, .ref (zad G.1 2 b 0)), (1, .ref (zad G.1 6 b l)), (2, .int x2), (3, .int (nI (i + 1)))] [] (up (up (gbc μ b i (nI 2) x2 (nI 2 * μ 6 b l 5) (nI 0)) 3 b i 8 (((gbc μ b i (nI 2) x2 (nI 2 * μ 6 b l 5) (nI 0)) 3 b i 8) + (nI 1))) 6 b l 8 (((gbc μ b i (nI 2) x2 (nI 2 * μ 6 b l 5) (nI 0)) 6 b l 8) + (nI 1)))))) ∧ (gis μ b i (nI 1) x2 = false → VL G mX0_boardCabin P X 2 [(0, .ref (zad G.1 2 b 0)), (1, .ref (zad G.1 6 b l)), (2, .int x2), (3, .int (nI (i + 1)))] [] μ))))) :
    VL G mX0_boardCabin P X 2 [(0, .ref (zad G.1 2 b 0)), (1, .ref (zad G.1 6 b l)), (2, .int x2), (3, .int (nI i))] [] μ := by
  refine v_iload_n (n := 3) dX0_boardCabin_2 rfl rfl ?_
  refine v_aload_n (n := 4) dX0_boardCabin_3 rfl rfl ?_
  refine v_getf (n := 7) dX0_boardCabin_4 rfl fl_X0_39 (zok_2 hb) (rfl) ?_
  refine v_icmp_ge (n := 10) (t := 99) dX0_boardCabin_7 rfl (by decide) (fun hq => ?_) (fun hq => ?_)
  · replace h := h.1 hq
    exact v_vret dX0_boardCabin_99 rfl (Nat.le_of_ble_eq_true rfl) (Nat.le_of_ble_eq_true rfl) h
  · replace h := h.2 hq
    refine v_aload_n (n := 11) dX0_boardCabin_10 rfl rfl ?_
    refine v_getf (n := 14) dX0_boardCabin_11 rfl fl_X0_27 (zok_2 hb) rfl ?_
    refine v_iload_n (n := 15) dX0_boardCabin_14 rfl rfl ?_
    obtain ⟨hf1, h⟩ := h
    refine v_aald (n := 16) (j := i) dX0_boardCabin_15 rfl (zok_22 hb) (by decide) rfl rfl hf1 rfl ?_
    refine v_astore (n := 18) (L' := [(0, .ref (zad G.1 2 b 0)), (1, .ref (zad G.1 6 b l)), (2, .int x2), (3, .int (nI i)), (4, .ref (zad G.1 3 b i))]) dX0_boardCabin_16 rfl (by decide) rfl ?_
    refine v_aload (n := 20) dX0_boardCabin_18 rfl rfl ?_
    refine v_iconst (n := 21) (x := nI 1) dX0_boardCabin_20 rfl (by decide) ?_
    refine v_iload_n (n := 22) dX0_boardCabin_21 rfl rfl ?_
    refine v_callV (n := 25) (k := 3) (b := b) (i := i) (As := [.int (nI 1), .int x2]) (rest := []) dX0_boardCabin_22 rfl lk_X0_96 rfl rfl (Nat.le_of_ble_eq_true rfl) ⟨Nat.le_of_ble_eq_true rfl, Nat.le_of_ble_eq_true rfl, Nat.le_of_ble_eq_true rfl, Nat.le_of_ble_eq_true rfl⟩ (zok_3 hb hf1) (s_X1_is G b hb i hf1 (nI 1) x2 μ) (fun v μ9 hp => ?_) (fun _ _ hp => False.elim hp)
    rw [hp.1, hp.2]
    refine v_norm (st' := [.int (bI (gis μ b i (nI 1) x2))]) (cells' := 0) (slots' := 0) rfl rfl rfl ?_
    refine v_if_ne (n := 28) (t := 31) dX0_boardCabin_25 rfl (by decide) (fun hq => ?_) (fun hq => ?_)
    · replace h := h.1 (bI_nf hq)
      refine v_aload (n := 33) dX0_boardCabin_31 rfl rfl ?_
      refine v_getf (n := 36) dX0_boardCabin_33 rfl fl_X0_100 (zok_3 hb hf1) (rfl) ?_
      refine v_aload_n (n := 37) dX0_boardCabin_36 rfl rfl ?_
      refine v_getf (n := 40) dX0_boardCabin_37 rfl fl_X0_194 (zok_6 hb hl) (rfl) ?_
      refine v_icmp_ge (n := 43) (t := 79) dX0_boardCabin_40 rfl (by decide) (fun hq => ?_) (fun hq => ?_)
      · replace h := h.1 hq
        refine v_aload (n := 81) dX0_boardCabin_79 rfl rfl ?_
        refine v_dup (n := 82) dX0_boardCabin_81 rfl rfl ?_
        refine v_getf (n := 85) dX0_boardCabin_82 rfl fl_X0_100 (zok_3 hb hf1) (rfl) ?_
        refine v_aload_n (n := 86) dX0_boardCabin_85 rfl rfl ?_
        refine v_getf (n := 89) dX0_boardCabin_86 rfl fl_X0_194 (zok_6 hb hl) (rfl) ?_
        refine v_isub (n := 90) dX0_boardCabin_89 rfl ?_
        refine v_putf (n := 93) dX0_boardCabin_90 rfl fw_X0_100 (zok_3 hb hf1) (fun _ => rfl) rfl rfl ?_
        refine v_iinc (n := 96) (x := nI i) (y := nI (i + 1)) (L' := [(0, .ref (zad G.1 2 b 0)), (1, .ref (zad G.1 6 b l)), (2, .int x2), (3, .int (nI (i + 1))), (4, .ref (zad G.1 3 b i))]) dX0_boardCabin_93 rfl rfl (nI_1 i) (by decide) rfl ?_
        refine v_goto (n := 2) dX0_boardCabin_96 (by decide) ?_
        exact v_pick [0, 1, 2, 3] rfl h
      · replace h := h.2 hq
        refine v_aload (n := 45) dX0_boardCabin_43 rfl rfl ?_
        refine v_iconst (n := 46) (x := nI 2) dX0_boardCabin_45 rfl (by decide) ?_
        refine v_iload_n (n := 47) dX0_boardCabin_46 rfl rfl ?_
        refine v_aload_n (n := 48) dX0_boardCabin_47 rfl rfl ?_
        refine v_callV (n := 51) (k := 6) (b := b) (i := l) (As := []) (rest := [.int x2, .int (nI 2), .ref (zad G.1 3 b i)]) dX0_boardCabin_48 rfl lk_X0_197 rfl rfl (Nat.le_of_ble_eq_true rfl) ⟨Nat.le_of_ble_eq_true rfl, Nat.le_of_ble_eq_true rfl, Nat.le_of_ble_eq_true rfl, Nat.le_of_ble_eq_true rfl⟩ (zok_6 hb hl) (s_X4_restOfRide G b hb l hl μ) (fun v μ9 hp => ?_) (fun _ _ hp => False.elim hp)
        rw [hp.1, hp.2]
        refine v_norm (st' := [.int (nI 2 * μ 6 b l 5), .int x2, .int (nI 2), .ref (zad G.1 3 b i)]) (cells' := 0) (slots' := 0) rfl rfl rfl ?_
        refine v_iconst (n := 52) (x := nI 0) dX0_boardCabin_51 rfl (by decide) ?_
        refine v_callV (n := 55) (k := 3) (b := b) (i := i) (As := [.int (nI 2), .int x2, .int (nI 2 * μ 6 b l 5), .int (nI 0)]) (rest := []) dX0_boardCabin_52 rfl lk_X0_120 rfl rfl (Nat.le_of_ble_eq_true rfl) ⟨Nat.le_of_ble_eq_true rfl, Nat.le_of_ble_eq_true rfl, Nat.le_of_ble_eq_true rfl, Nat.le_of_ble_eq_true rfl⟩ (zok_3 hb hf1) (s_X1_become G b hb i hf1 (nI 2) x2 (nI 2 * μ 6 b l 5) (nI 0) μ) (fun v μ9 hp => ?_) (fun _ _ hp => False.elim hp)
        rw [hp.1, hp.2]
        refine v_norm (st' := []) (cells' := 0) (slots' := 0) rfl rfl rfl ?_
        refine v_aload (n := 57) dX0_boardCabin_55 rfl rfl ?_
        refine v_dup (n := 58) dX0_boardCabin_57 rfl rfl ?_
        refine v_getf (n := 61) dX0_boardCabin_58 rfl fl_X0_200 (zok_3 hb hf1) (rfl) ?_
        refine v_iconst (n := 62) (x := nI 1) dX0_boardCabin_61 rfl (by decide) ?_
        refine v_iadd (n := 63) dX0_boardCabin_62 rfl ?_
        refine v_putf (n := 66) dX0_boardCabin_63 rfl fw_X0_200 (zok_3 hb hf1) (fun _ => rfl) rfl rfl ?_
        refine v_aload_n (n := 67) dX0_boardCabin_66 rfl rfl ?_
        refine v_dup (n := 68) dX0_boardCabin_67 rfl rfl ?_
        refine v_getf (n := 71) dX0_boardCabin_68 rfl fl_X0_203 (zok_6 hb hl) (congrArg Value.int (up_k (by decide))) ?_
        refine v_iconst (n := 72) (x := nI 1) dX0_boardCabin_71 rfl (by decide) ?_
        refine v_iadd (n := 73) dX0_boardCabin_72 rfl ?_
        refine v_putf (n := 76) dX0_boardCabin_73 rfl fw_X0_203 (zok_6 hb hl) (fun _ => rfl) rfl rfl ?_
        refine v_goto (n := 93) dX0_boardCabin_76 (by decide) ?_
        refine v_iinc (n := 96) (x := nI i) (y := nI (i + 1)) (L' := [(0, .ref (zad G.1 2 b 0)), (1, .ref (zad G.1 6 b l)), (2, .int x2), (3, .int (nI (i + 1))), (4, .ref (zad G.1 3 b i))]) dX0_boardCabin_93 rfl rfl (nI_1 i) (by decide) rfl ?_
        refine v_goto (n := 2) dX0_boardCabin_96 (by decide) ?_
        exact v_pick [0, 1, 2, 3] rfl h
    · replace h := h.2 (bI_f hq)
      refine v_goto (n := 93) dX0_boardCabin_28 (by decide) ?_
      refine v_iinc (n := 96) (x := nI i) (y := nI (i + 1)) (L' := [(0, .ref (zad G.1 2 b 0)), (1, .ref (zad G.1 6 b l)), (2, .int x2), (3, .int (nI (i + 1))), (4, .ref (zad G.1 3 b i))]) dX0_boardCabin_93 rfl rfl (nI_1 i) (by decide) rfl ?_
      refine v_goto (n := 2) dX0_boardCabin_96 (by decide) ?_
      exact v_pick [0, 1, 2, 3] rfl h

set_option maxRecDepth 20000 in
set_option maxHeartbeats 4000000 in
theorem wX0_closeDay (G : Gl) {P : Option Value → St → Prop} {X : String → St → Prop} (b : Nat) (hb : b < 11) (μ : St)
    (h : Con G mX0_guestsIn [.ref (zad G.1 2 b 0), .int (nI 4)] μ (fun v μ1 => ∃ r1 : Int32, v = some (.int r1) ∧ VL G mX0_closeDay P X 13 [(0, .ref (zad G.1 2 b 0)), (1, .int ((μ 2 b 0 5) - r1)), (2, .int (nI 0))] [] μ1) noX) :
    Con G mX0_closeDay [.ref (zad G.1 2 b 0)] μ P X := by
  refine con_of pn_X0 rfl (Nat.le_of_ble_eq_true rfl) ?_
  show VL G mX0_closeDay P X 0 [(0, .ref (zad G.1 2 b 0))] [] μ
  refine v_aload_n (n := 1) dX0_closeDay_0 rfl rfl ?_
  refine v_getf (n := 4) dX0_closeDay_1 rfl fl_X0_39 (zok_2 hb) (rfl) ?_
  refine v_aload_n (n := 5) dX0_closeDay_4 rfl rfl ?_
  refine v_iconst (n := 6) (x := nI 4) dX0_closeDay_5 rfl (by decide) ?_
  refine v_callV (n := 9) (k := 2) (b := b) (i := 0) (As := [.int (nI 4)]) (rest := [.int (μ 2 b 0 5)]) dX0_closeDay_6 rfl lk_X0_210 rfl rfl (Nat.le_of_ble_eq_true rfl) ⟨Nat.le_of_ble_eq_true rfl, Nat.le_of_ble_eq_true rfl, Nat.le_of_ble_eq_true rfl, Nat.le_of_ble_eq_true rfl⟩ (zok_2 hb) h (fun v μ1 h => ?_) (fun _ _ hp => False.elim hp)
  obtain ⟨r1, rfl, h⟩ := h
  refine v_norm (st' := [.int r1, .int (μ 2 b 0 5)]) (cells' := 0) (slots' := 0) rfl rfl rfl ?_
  refine v_isub (n := 10) dX0_closeDay_9 rfl ?_
  refine v_istore_n (n := 11) (L' := [(0, .ref (zad G.1 2 b 0)), (1, .int ((μ 2 b 0 5) - r1))]) dX0_closeDay_10 rfl (by decide) rfl ?_
  refine v_iconst (n := 12) (x := nI 0) dX0_closeDay_11 rfl (by decide) ?_
  refine v_istore_n (n := 13) (L' := [(0, .ref (zad G.1 2 b 0)), (1, .int ((μ 2 b 0 5) - r1)), (2, .int (nI 0))]) dX0_closeDay_12 rfl (by decide) rfl ?_
  exact h

set_option maxRecDepth 20000 in
set_option maxHeartbeats 4000000 in
theorem wX0_closeDay_13 (G : Gl) {P : Option Value → St → Prop} {X : String → St → Prop} (b : Nat) (hb : b < 11) (y1 : Int32) (i : Nat) (μ : St)
    (h : ((μ 2 b 0 5 ≤ nI i → VL G mX0_closeDay P X 38 [(0, .ref (zad G.1 2 b 0)), (1, .int y1), (2, .int (nI 0))] [] μ) ∧ (¬ μ 2 b 0 5 ≤ nI i → i < 16 ∧ VL G mX0_closeDay P X 13 [(0, .ref (zad G.1 2 b 0)), (1, .int y1), (2, .int (nI (i + 1)))] [] (gbc μ b i (nI 4) (-1) (nI 0) (nI 0))))) :
    VL G mX0_closeDay P X 13 [(0, .ref (zad G.1 2 b 0)), (1, .int y1), (2, .int (nI i))] [] μ := by
  refine v_iload_n (n := 14) dX0_closeDay_13 rfl rfl ?_
  refine v_aload_n (n := 15) dX0_closeDay_14 rfl rfl ?_
  refine v_getf (n := 18) dX0_closeDay_15 rfl fl_X0_39 (zok_2 hb) (rfl) ?_
  refine v_icmp_ge (n := 21) (t := 36) dX0_closeDay_18 rfl (by decide) (fun hq => ?_) (fun hq => ?_)
  · replace h := h.1 hq
    refine v_iconst (n := 37) (x := nI 0) dX0_closeDay_36 rfl (by decide) ?_
    refine v_istore_n (n := 38) (L' := [(0, .ref (zad G.1 2 b 0)), (1, .int y1), (2, .int (nI 0))]) dX0_closeDay_37 rfl (by decide) rfl ?_
    exact h
  · replace h := h.2 hq
    refine v_aload_n (n := 22) dX0_closeDay_21 rfl rfl ?_
    refine v_getf (n := 25) dX0_closeDay_22 rfl fl_X0_27 (zok_2 hb) rfl ?_
    refine v_iload_n (n := 26) dX0_closeDay_25 rfl rfl ?_
    obtain ⟨hf1, h⟩ := h
    refine v_aald (n := 27) (j := i) dX0_closeDay_26 rfl (zok_22 hb) (by decide) rfl rfl hf1 rfl ?_
    refine v_callV (n := 30) (k := 3) (b := b) (i := i) (As := []) (rest := []) dX0_closeDay_27 rfl lk_X0_213 rfl rfl (Nat.le_of_ble_eq_true rfl) ⟨Nat.le_of_ble_eq_true rfl, Nat.le_of_ble_eq_true rfl, Nat.le_of_ble_eq_true rfl, Nat.le_of_ble_eq_true rfl⟩ (zok_3 hb hf1) (s_X1_goAway G b hb i hf1 μ) (fun v μ9 hp => ?_) (fun _ _ hp => False.elim hp)
    rw [hp.1, hp.2]
    refine v_norm (st' := []) (cells' := 0) (slots' := 0) rfl rfl rfl ?_
    refine v_iinc (n := 33) (x := nI i) (y := nI (i + 1)) (L' := [(0, .ref (zad G.1 2 b 0)), (1, .int y1), (2, .int (nI (i + 1)))]) dX0_closeDay_30 rfl rfl (nI_1 i) (by decide) rfl ?_
    refine v_goto (n := 13) dX0_closeDay_33 (by decide) ?_
    exact h

set_option maxRecDepth 20000 in
set_option maxHeartbeats 4000000 in
theorem wX0_closeDay_38 (G : Gl) {P : Option Value → St → Prop} {X : String → St → Prop} (b : Nat) (hb : b < 11) (y1 : Int32) (i : Nat) (μ : St)
    (h : ((μ 2 b 0 3 ≤ nI i → VL G mX0_closeDay P X 64 [(0, .ref (zad G.1 2 b 0)), (1, .int y1), (2, .int (nI 0))] [] μ) ∧ (¬ μ 2 b 0 3 ≤ nI i → i < 6 ∧ VL G mX0_closeDay P X 38 [(0, .ref (zad G.1 2 b 0)), (1, .int y1), (2, .int (nI (i + 1)))] [] (up μ 6 b i 7 (nI 0))))) :
    VL G mX0_closeDay P X 38 [(0, .ref (zad G.1 2 b 0)), (1, .int y1), (2, .int (nI i))] [] μ := by
  refine v_iload_n (n := 39) dX0_closeDay_38 rfl rfl ?_
  refine v_aload_n (n := 40) dX0_closeDay_39 rfl rfl ?_
  refine v_getf (n := 43) dX0_closeDay_40 rfl fl_X0_32 (zok_2 hb) (rfl) ?_
  refine v_icmp_ge (n := 46) (t := 62) dX0_closeDay_43 rfl (by decide) (fun hq => ?_) (fun hq => ?_)
  · replace h := h.1 hq
    refine v_iconst (n := 63) (x := nI 0) dX0_closeDay_62 rfl (by decide) ?_
    refine v_istore_n (n := 64) (L' := [(0, .ref (zad G.1 2 b 0)), (1, .int y1), (2, .int (nI 0))]) dX0_closeDay_63 rfl (by decide) rfl ?_
    exact h
  · replace h := h.2 hq
    refine v_aload_n (n := 47) dX0_closeDay_46 rfl rfl ?_
    refine v_getf (n := 50) dX0_closeDay_47 rfl fl_X0_11 (zok_2 hb) rfl ?_
    refine v_iload_n (n := 51) dX0_closeDay_50 rfl rfl ?_
    obtain ⟨hf1, h⟩ := h
    refine v_aald (n := 52) (j := i) dX0_closeDay_51 rfl (zok_20 hb) (by decide) rfl rfl hf1 rfl ?_
    refine v_iconst (n := 53) (x := nI 0) dX0_closeDay_52 rfl (by decide) ?_
    refine v_putf (n := 56) dX0_closeDay_53 rfl fw_X0_177 (zok_6 hb hf1) (fun _ => rfl) rfl rfl ?_
    refine v_iinc (n := 59) (x := nI i) (y := nI (i + 1)) (L' := [(0, .ref (zad G.1 2 b 0)), (1, .int y1), (2, .int (nI (i + 1)))]) dX0_closeDay_56 rfl rfl (nI_1 i) (by decide) rfl ?_
    refine v_goto (n := 38) dX0_closeDay_59 (by decide) ?_
    exact h

set_option maxRecDepth 20000 in
set_option maxHeartbeats 4000000 in
theorem wX0_closeDay_64 (G : Gl) {P : Option Value → St → Prop} {X : String → St → Prop} (b : Nat) (hb : b < 11) (y1 : Int32) (i : Nat) (μ : St)
    (h : ((μ 2 b 0 4 ≤ nI i → P (some (.int y1)) (up (up μ 2 b 0 7 (nI 0)) 2 b 0 8 ((μ 2 b 0 8) + (nI 1)))) ∧ (¬ μ 2 b 0 4 ≤ nI i → i < 10 ∧ ((¬ μ 7 b i 4 = nI 2 → VL G mX0_closeDay P X 64 [(0, .ref (zad G.1 2 b 0)), (1, .int y1), (2, .int (nI (i + 1)))] [] μ) ∧ (μ 7 b i 4 = nI 2 → VL G mX0_closeDay P X 64 [(0, .ref (zad G.1 2 b 0)), (1, .int y1), (2, .int (nI (i + 1)))] [] (pfr μ b i)))))) :
    VL G mX0_closeDay P X 64 [(0, .ref (zad G.1 2 b 0)), (1, .int y1), (2, .int (nI i))] [] μ := by
  refine v_iload_n (n := 65) dX0_closeDay_64 rfl rfl ?_
  refine v_aload_n (n := 66) dX0_closeDay_65 rfl rfl ?_
  refine v_getf (n := 69) dX0_closeDay_66 rfl fl_X0_36 (zok_2 hb) (rfl) ?_
  refine v_icmp_ge (n := 72) (t := 100) dX0_closeDay_69 rfl (by decide) (fun hq => ?_) (fun hq => ?_)
  · replace h := h.1 hq
    refine v_aload_n (n := 101) dX0_closeDay_100 rfl rfl ?_
    refine v_iconst (n := 102) (x := nI 0) dX0_closeDay_101 rfl (by decide) ?_
    refine v_putf (n := 105) dX0_closeDay_102 rfl fw_X0_45 (zok_2 hb) (fun _ => rfl) rfl rfl ?_
    refine v_aload_n (n := 106) dX0_closeDay_105 rfl rfl ?_
    refine v_dup (n := 107) dX0_closeDay_106 rfl rfl ?_
    refine v_getf (n := 110) dX0_closeDay_107 rfl fl_X0_48 (zok_2 hb) (congrArg Value.int (up_sl (by decide))) ?_
    refine v_iconst (n := 111) (x := nI 1) dX0_closeDay_110 rfl (by decide) ?_
    refine v_iadd (n := 112) dX0_closeDay_111 rfl ?_
    refine v_putf (n := 115) dX0_closeDay_112 rfl fw_X0_48 (zok_2 hb) (fun _ => rfl) rfl rfl ?_
    refine v_iload_n (n := 116) dX0_closeDay_115 rfl rfl ?_
    exact v_iret dX0_closeDay_116 rfl (Nat.le_of_ble_eq_true rfl) (Nat.le_of_ble_eq_true rfl) h
  · replace h := h.2 hq
    refine v_aload_n (n := 73) dX0_closeDay_72 rfl rfl ?_
    refine v_getf (n := 76) dX0_closeDay_73 rfl fl_X0_20 (zok_2 hb) rfl ?_
    refine v_iload_n (n := 77) dX0_closeDay_76 rfl rfl ?_
    obtain ⟨hf1, h⟩ := h
    refine v_aald (n := 78) (j := i) dX0_closeDay_77 rfl (zok_21 hb) (by decide) rfl rfl hf1 rfl ?_
    refine v_getf (n := 81) dX0_closeDay_78 rfl fl_X0_88 (zok_7 hb hf1) (rfl) ?_
    refine v_iconst (n := 82) (x := nI 2) dX0_closeDay_81 rfl (by decide) ?_
    refine v_icmp_ne (n := 85) (t := 94) dX0_closeDay_82 rfl (by decide) (fun hq => ?_) (fun hq => ?_)
    · replace h := h.1 hq
      refine v_iinc (n := 97) (x := nI i) (y := nI (i + 1)) (L' := [(0, .ref (zad G.1 2 b 0)), (1, .int y1), (2, .int (nI (i + 1)))]) dX0_closeDay_94 rfl rfl (nI_1 i) (by decide) rfl ?_
      refine v_goto (n := 64) dX0_closeDay_97 (by decide) ?_
      exact h
    · replace h := h.2 hq
      refine v_aload_n (n := 86) dX0_closeDay_85 rfl rfl ?_
      refine v_getf (n := 89) dX0_closeDay_86 rfl fl_X0_20 (zok_2 hb) rfl ?_
      refine v_iload_n (n := 90) dX0_closeDay_89 rfl rfl ?_
      refine v_aald (n := 91) (j := i) dX0_closeDay_90 rfl (zok_21 hb) (by decide) rfl rfl hf1 rfl ?_
      refine v_callV (n := 94) (k := 7) (b := b) (i := i) (As := []) (rest := []) dX0_closeDay_91 rfl lk_X0_207 rfl rfl (Nat.le_of_ble_eq_true rfl) ⟨Nat.le_of_ble_eq_true rfl, Nat.le_of_ble_eq_true rfl, Nat.le_of_ble_eq_true rfl, Nat.le_of_ble_eq_true rfl⟩ (zok_7 hb hf1) (s_X5_becomeFresh G b hb i hf1 μ) (fun v μ9 hp => ?_) (fun _ _ hp => False.elim hp)
      rw [hp.1, hp.2]
      refine v_norm (st' := []) (cells' := 0) (slots' := 0) rfl rfl rfl ?_
      refine v_iinc (n := 97) (x := nI i) (y := nI (i + 1)) (L' := [(0, .ref (zad G.1 2 b 0)), (1, .int y1), (2, .int (nI (i + 1)))]) dX0_closeDay_94 rfl rfl (nI_1 i) (by decide) rfl ?_
      refine v_goto (n := 64) dX0_closeDay_97 (by decide) ?_
      exact h

set_option maxRecDepth 20000 in
set_option maxHeartbeats 4000000 in
theorem wX0_copyFrom (G : Gl) {P : Option Value → St → Prop} {X : String → St → Prop} (b : Nat) (hb : b < 11) (c : Nat) (hc : c < 11) (μ : St)
    (h : VL G mX0_copyFrom P X 2 [(0, .ref (zad G.1 2 b 0)), (1, .ref (zad G.1 2 c 0)), (2, .int (nI 0))] [] μ) :
    Con G mX0_copyFrom [.ref (zad G.1 2 b 0), .ref (zad G.1 2 c 0)] μ P X := by
  refine con_of pn_X0 rfl (Nat.le_of_ble_eq_true rfl) ?_
  show VL G mX0_copyFrom P X 0 [(0, .ref (zad G.1 2 b 0)), (1, .ref (zad G.1 2 c 0))] [] μ
  refine v_iconst (n := 1) (x := nI 0) dX0_copyFrom_0 rfl (by decide) ?_
  refine v_istore_n (n := 2) (L' := [(0, .ref (zad G.1 2 b 0)), (1, .ref (zad G.1 2 c 0)), (2, .int (nI 0))]) dX0_copyFrom_1 rfl (by decide) rfl ?_
  exact h

set_option maxRecDepth 20000 in
set_option maxHeartbeats 4000000 in
theorem wX0_copyFrom_2 (G : Gl) {P : Option Value → St → Prop} {X : String → St → Prop} (b : Nat) (hb : b < 11) (c : Nat) (hc : c < 11) (i : Nat) (μ : St)
    (h : ((μ 2 c 0 3 ≤ nI i → VL G mX0_copyFrom P X 33 [(0, .ref (zad G.1 2 b 0)), (1, .ref (zad G.1 2 c 0)), (2, .int (nI 0))] [] μ) ∧ (¬ μ 2 c 0 3 ≤ nI i → i < 6 ∧ Con G mX4_copyFrom [.ref (zad G.1 6 b i), .ref (zad G.1 6 c i)] μ (fun v μ1 => v = none ∧ VL G mX0_copyFrom P X 2 [(0, .ref (zad G.1 2 b 0)), (1, .ref (zad G.1 2 c 0)), (2, .int (nI (i + 1)))] [] μ1) noX))) :
    VL G mX0_copyFrom P X 2 [(0, .ref (zad G.1 2 b 0)), (1, .ref (zad G.1 2 c 0)), (2, .int (nI i))] [] μ := by
  refine v_iload_n (n := 3) dX0_copyFrom_2 rfl rfl ?_
  refine v_aload_n (n := 4) dX0_copyFrom_3 rfl rfl ?_
  refine v_getf (n := 7) dX0_copyFrom_4 rfl fl_X0_32 (zok_2 hc) (rfl) ?_
  refine v_icmp_ge (n := 10) (t := 31) dX0_copyFrom_7 rfl (by decide) (fun hq => ?_) (fun hq => ?_)
  · replace h := h.1 hq
    refine v_iconst (n := 32) (x := nI 0) dX0_copyFrom_31 rfl (by decide) ?_
    refine v_istore_n (n := 33) (L' := [(0, .ref (zad G.1 2 b 0)), (1, .ref (zad G.1 2 c 0)), (2, .int (nI 0))]) dX0_copyFrom_32 rfl (by decide) rfl ?_
    exact h
  · replace h := h.2 hq
    refine v_aload_n (n := 11) dX0_copyFrom_10 rfl rfl ?_
    refine v_getf (n := 14) dX0_copyFrom_11 rfl fl_X0_11 (zok_2 hb) rfl ?_
    refine v_iload_n (n := 15) dX0_copyFrom_14 rfl rfl ?_
    obtain ⟨hf1, h⟩ := h
    refine v_aald (n := 16) (j := i) dX0_copyFrom_15 rfl (zok_20 hb) (by decide) rfl rfl hf1 rfl ?_
    refine v_aload_n (n := 17) dX0_copyFrom_16 rfl rfl ?_
    refine v_getf (n := 20) dX0_copyFrom_17 rfl fl_X0_11 (zok_2 hc) rfl ?_
    refine v_iload_n (n := 21) dX0_copyFrom_20 rfl rfl ?_
    refine v_aald (n := 22) (j := i) dX0_copyFrom_21 rfl (zok_20 hc) (by decide) rfl rfl hf1 rfl ?_
    refine v_callV (n := 25) (k := 6) (b := b) (i := i) (As := [.ref (zad G.1 6 c i)]) (rest := []) dX0_copyFrom_22 rfl lk_X0_51 rfl rfl (Nat.le_of_ble_eq_true rfl) ⟨Nat.le_of_ble_eq_true rfl, Nat.le_of_ble_eq_true rfl, Nat.le_of_ble_eq_true rfl, Nat.le_of_ble_eq_true rfl⟩ (zok_6 hb hf1) h (fun v μ1 h => ?_) (fun _ _ hp => False.elim hp)
    obtain ⟨rfl, h⟩ := h
    refine v_norm (st' := []) (cells' := 0) (slots' := 0) rfl rfl rfl ?_
    refine v_iinc (n := 28) (x := nI i) (y := nI (i + 1)) (L' := [(0, .ref (zad G.1 2 b 0)), (1, .ref (zad G.1 2 c 0)), (2, .int (nI (i + 1)))]) dX0_copyFrom_25 rfl rfl (nI_1 i) (by decide) rfl ?_
    refine v_goto (n := 2) dX0_copyFrom_28 (by decide) ?_
    exact h

set_option maxRecDepth 20000 in
set_option maxHeartbeats 4000000 in
theorem wX0_copyFrom_33 (G : Gl) {P : Option Value → St → Prop} {X : String → St → Prop} (b : Nat) (hb : b < 11) (c : Nat) (hc : c < 11) (i : Nat) (μ : St)
    (h : ((μ 2 c 0 4 ≤ nI i → VL G mX0_copyFrom P X 64 [(0, .ref (zad G.1 2 b 0)), (1, .ref (zad G.1 2 c 0)), (2, .int (nI 0))] [] μ) ∧ (¬ μ 2 c 0 4 ≤ nI i → i < 10 ∧ Con G mX5_copyFrom [.ref (zad G.1 7 b i), .ref (zad G.1 7 c i)] μ (fun v μ1 => v = none ∧ VL G mX0_copyFrom P X 33 [(0, .ref (zad G.1 2 b 0)), (1, .ref (zad G.1 2 c 0)), (2, .int (nI (i + 1)))] [] μ1) noX))) :
    VL G mX0_copyFrom P X 33 [(0, .ref (zad G.1 2 b 0)), (1, .ref (zad G.1 2 c 0)), (2, .int (nI i))] [] μ := by
  refine v_iload_n (n := 34) dX0_copyFrom_33 rfl rfl ?_
  refine v_aload_n (n := 35) dX0_copyFrom_34 rfl rfl ?_
  refine v_getf (n := 38) dX0_copyFrom_35 rfl fl_X0_36 (zok_2 hc) (rfl) ?_
  refine v_icmp_ge (n := 41) (t := 62) dX0_copyFrom_38 rfl (by decide) (fun hq => ?_) (fun hq => ?_)
  · replace h := h.1 hq
    refine v_iconst (n := 63) (x := nI 0) dX0_copyFrom_62 rfl (by decide) ?_
    refine v_istore_n (n := 64) (L' := [(0, .ref (zad G.1 2 b 0)), (1, .ref (zad G.1 2 c 0)), (2, .int (nI 0))]) dX0_copyFrom_63 rfl (by decide) rfl ?_
    exact h
  · replace h := h.2 hq
    refine v_aload_n (n := 42) dX0_copyFrom_41 rfl rfl ?_
    refine v_getf (n := 45) dX0_copyFrom_42 rfl fl_X0_20 (zok_2 hb) rfl ?_
    refine v_iload_n (n := 46) dX0_copyFrom_45 rfl rfl ?_
    obtain ⟨hf1, h⟩ := h
    refine v_aald (n := 47) (j := i) dX0_copyFrom_46 rfl (zok_21 hb) (by decide) rfl rfl hf1 rfl ?_
    refine v_aload_n (n := 48) dX0_copyFrom_47 rfl rfl ?_
    refine v_getf (n := 51) dX0_copyFrom_48 rfl fl_X0_20 (zok_2 hc) rfl ?_
    refine v_iload_n (n := 52) dX0_copyFrom_51 rfl rfl ?_
    refine v_aald (n := 53) (j := i) dX0_copyFrom_52 rfl (zok_21 hc) (by decide) rfl rfl hf1 rfl ?_
    refine v_callV (n := 56) (k := 7) (b := b) (i := i) (As := [.ref (zad G.1 7 c i)]) (rest := []) dX0_copyFrom_53 rfl lk_X0_55 rfl rfl (Nat.le_of_ble_eq_true rfl) ⟨Nat.le_of_ble_eq_true rfl, Nat.le_of_ble_eq_true rfl, Nat.le_of_ble_eq_true rfl, Nat.le_of_ble_eq_true rfl⟩ (zok_7 hb hf1) h (fun v μ1 h => ?_) (fun _ _ hp => False.elim hp)
    obtain ⟨rfl, h⟩ := h
    refine v_norm (st' := []) (cells' := 0) (slots' := 0) rfl rfl rfl ?_
    refine v_iinc (n := 59) (x := nI i) (y := nI (i + 1)) (L' := [(0, .ref (zad G.1 2 b 0)), (1, .ref (zad G.1 2 c 0)), (2, .int (nI (i + 1)))]) dX0_copyFrom_56 rfl rfl (nI_1 i) (by decide) rfl ?_
    refine v_goto (n := 33) dX0_copyFrom_59 (by decide) ?_
    exact h

set_option maxRecDepth 20000 in
set_option maxHeartbeats 4000000 in
theorem wX0_copyFrom_64 (G : Gl) {P : Option Value → St → Prop} {X : String → St → Prop} (b : Nat) (hb : b < 11) (c : Nat) (hc : c < 11) (i : Nat) (μ : St)
    (h : ((μ 2 c 0 5 ≤ nI i → P none (up (up (up (up (up (up μ 2 b 0 3 (μ 2 c 0 3)) 2 b 0 4 (μ 2 c 0 4)) 2 b 0 5 (μ 2 c 0 5)) 2 b 0 6 (μ 2 c 0 6)) 2 b 0 7 (μ 2 c 0 7)) 2 b 0 8 (μ 2 c 0 8))) ∧ (¬ μ 2 c 0 5 ≤ nI i → i < 16 ∧ Con G mX1_copyFrom [.ref (zad G.1 3 b i), .ref (zad G.1 3 c i)] μ (fun v μ1 => v = none ∧ VL G mX0_copyFrom P X 64 [(0, .ref (zad G.1 2 b 0)), (1, .ref (zad G.1 2 c 0)), (2, .int (nI (i + 1)))] [] μ1) noX))) :
    VL G mX0_copyFrom P X 64 [(0, .ref (zad G.1 2 b 0)), (1, .ref (zad G.1 2 c 0)), (2, .int (nI i))] [] μ := by
  refine v_iload_n (n := 65) dX0_copyFrom_64 rfl rfl ?_
  refine v_aload_n (n := 66) dX0_copyFrom_65 rfl rfl ?_
  refine v_getf (n := 69) dX0_copyFrom_66 rfl fl_X0_39 (zok_2 hc) (rfl) ?_
  refine v_icmp_ge (n := 72) (t := 93) dX0_copyFrom_69 rfl (by decide) (fun hq => ?_) (fun hq => ?_)
  · replace h := h.1 hq
    refine v_aload_n (n := 94) dX0_copyFrom_93 rfl rfl ?_
    refine v_aload_n (n := 95) dX0_copyFrom_94 rfl rfl ?_
    refine v_getf (n := 98) dX0_copyFrom_95 rfl fl_X0_32 (zok_2 hc) (rfl) ?_
    refine v_putf (n := 101) dX0_copyFrom_98 rfl fw_X0_32 (zok_2 hb) (fun _ => rfl) rfl rfl ?_
    refine v_aload_n (n := 102) dX0_copyFrom_101 rfl rfl ?_
    refine v_aload_n (n := 103) dX0_copyFrom_102 rfl rfl ?_
    refine v_getf (n := 106) dX0_copyFrom_103 rfl fl_X0_36 (zok_2 hc) (congrArg Value.int (up_sl (by decide))) ?_
    refine v_putf (n := 109) dX0_copyFrom_106 rfl fw_X0_36 (zok_2 hb) (fun _ => rfl) rfl rfl ?_
    refine v_aload_n (n := 110) dX0_copyFrom_109 rfl rfl ?_
    refine v_aload_n (n := 111) dX0_copyFrom_110 rfl rfl ?_
    refine v_getf (n := 114) dX0_copyFrom_111 rfl fl_X0_39 (zok_2 hc) (congrArg Value.int ((up_sl (by decide)).trans (up_sl (by decide)))) ?_
    refine v_putf (n := 117) dX0_copyFrom_114 rfl fw_X0_39 (zok_2 hb) (fun _ => rfl) rfl rfl ?_
    refine v_aload_n (n := 118) dX0_copyFrom_117 rfl rfl ?_
    refine v_aload_n (n := 119) dX0_copyFrom_118 rfl rfl ?_
    refine v_getf (n := 122) dX0_copyFrom_119 rfl fl_X0_42 (zok_2 hc) (congrArg Value.int ((up_sl (by decide)).trans ((up_sl (by decide)).trans (up_sl (by decide))))) ?_
    refine v_putf (n := 125) dX0_copyFrom_122 rfl fw_X0_42 (zok_2 hb) (fun _ => rfl) rfl rfl ?_
    refine v_aload_n (n := 126) dX0_copyFrom_125 rfl rfl ?_
    refine v_aload_n (n := 127) dX0_copyFrom_126 rfl rfl ?_
    refine v_getf (n := 130) dX0_copyFrom_127 rfl fl_X0_45 (zok_2 hc) (congrArg Value.int ((up_sl (by decide)).trans ((up_sl (by decide)).trans ((up_sl (by decide)).trans (up_sl (by decide)))))) ?_
    refine v_putf (n := 133) dX0_copyFrom_130 rfl fw_X0_45 (zok_2 hb) (fun _ => rfl) rfl rfl ?_
    refine v_aload_n (n := 134) dX0_copyFrom_133 rfl rfl ?_
    refine v_aload_n (n := 135) dX0_copyFrom_134 rfl rfl ?_
    refine v_getf (n := 138) dX0_copyFrom_135 rfl fl_X0_48 (zok_2 hc) (congrArg Value.int ((up_sl (by decide)).trans ((up_sl (by decide)).trans ((up_sl (by decide)).trans ((up_sl (by decide)).trans (up_sl (by decide))))))) ?_
    refine v_putf (n := 141) dX0_copyFrom_138 rfl fw_X0_48 (zok_2 hb) (fun _ => rfl) rfl rfl ?_
    exact v_vret dX0_copyFrom_141 rfl (Nat.le_of_ble_eq_true rfl) (Nat.le_of_ble_eq_true rfl) h
  · replace h := h.2 hq
    refine v_aload_n (n := 73) dX0_copyFrom_72 rfl rfl ?_
    refine v_getf (n := 76) dX0_copyFrom_73 rfl fl_X0_27 (zok_2 hb) rfl ?_
    refine v_iload_n (n := 77) dX0_copyFrom_76 rfl rfl ?_
    obtain ⟨hf1, h⟩ := h
    refine v_aald (n := 78) (j := i) dX0_copyFrom_77 rfl (zok_22 hb) (by decide) rfl rfl hf1 rfl ?_
    refine v_aload_n (n := 79) dX0_copyFrom_78 rfl rfl ?_
    refine v_getf (n := 82) dX0_copyFrom_79 rfl fl_X0_27 (zok_2 hc) rfl ?_
    refine v_iload_n (n := 83) dX0_copyFrom_82 rfl rfl ?_
    refine v_aald (n := 84) (j := i) dX0_copyFrom_83 rfl (zok_22 hc) (by decide) rfl rfl hf1 rfl ?_
    refine v_callV (n := 87) (k := 3) (b := b) (i := i) (As := [.ref (zad G.1 3 c i)]) (rest := []) dX0_copyFrom_84 rfl lk_X0_58 rfl rfl (Nat.le_of_ble_eq_true rfl) ⟨Nat.le_of_ble_eq_true rfl, Nat.le_of_ble_eq_true rfl, Nat.le_of_ble_eq_true rfl, Nat.le_of_ble_eq_true rfl⟩ (zok_3 hb hf1) h (fun v μ1 h => ?_) (fun _ _ hp => False.elim hp)
    obtain ⟨rfl, h⟩ := h
    refine v_norm (st' := []) (cells' := 0) (slots' := 0) rfl rfl rfl ?_
    refine v_iinc (n := 90) (x := nI i) (y := nI (i + 1)) (L' := [(0, .ref (zad G.1 2 b 0)), (1, .ref (zad G.1 2 c 0)), (2, .int (nI (i + 1)))]) dX0_copyFrom_87 rfl rfl (nI_1 i) (by decide) rfl ?_
    refine v_goto (n := 64) dX0_copyFrom_90 (by decide) ?_
    exact h

set_option maxRecDepth 20000 in
set_option maxHeartbeats 4000000 in
theorem wX0_groomPistes (G : Gl) {P : Option Value → St → Prop} {X : String → St → Prop} (b : Nat) (hb : b < 11) (μ : St)
    (h : VL G mX0_groomPistes P X 2 [(0, .ref (zad G.1 2 b 0)), (1, .int (nI 0))] [] μ) :
    Con G mX0_groomPistes [.ref (zad G.1 2 b 0)] μ P X := by
  refine con_of pn_X0 rfl (Nat.le_of_ble_eq_true rfl) ?_
  show VL G mX0_groomPistes P X 0 [(0, .ref (zad G.1 2 b 0))] [] μ
  refine v_iconst (n := 1) (x := nI 0) dX0_groomPistes_0 rfl (by decide) ?_
  refine v_istore_n (n := 2) (L' := [(0, .ref (zad G.1 2 b 0)), (1, .int (nI 0))]) dX0_groomPistes_1 rfl (by decide) rfl ?_
  exact h

set_option maxRecDepth 20000 in
set_option maxHeartbeats 4000000 in
theorem wX0_groomPistes_2 (G : Gl) {P : Option Value → St → Prop} {X : String → St → Prop} (b : Nat) (hb : b < 11) (i : Nat) (μ : St)
    (h : ((μ 2 b 0 4 ≤ nI i → P none μ) ∧ (¬ μ 2 b 0 4 ≤ nI i → i < 10 ∧ ((¬ μ 7 b i 4 = nI 2 → VL G mX0_groomPistes P X 2 [(0, .ref (zad G.1 2 b 0)), (1, .int (nI (i + 1)))] [] μ) ∧ (μ 7 b i 4 = nI 2 → ((0 < (μ 7 b i 6) - (nI 1) → VL G mX0_groomPistes P X 2 [(0, .ref (zad G.1 2 b 0)), (1, .int (nI (i + 1)))] [] (up μ 7 b i 6 ((μ 7 b i 6) - (nI 1)))) ∧ (¬ 0 < (μ 7 b i 6) - (nI 1) → VL G mX0_groomPistes P X 2 [(0, .ref (zad G.1 2 b 0)), (1, .int (nI (i + 1)))] [] (pfr (up μ 7 b i 6 ((μ 7 b i 6) - (nI 1))) b i)))))))) :
    VL G mX0_groomPistes P X 2 [(0, .ref (zad G.1 2 b 0)), (1, .int (nI i))] [] μ := by
  refine v_iload_n (n := 3) dX0_groomPistes_2 rfl rfl ?_
  refine v_aload_n (n := 4) dX0_groomPistes_3 rfl rfl ?_
  refine v_getf (n := 7) dX0_groomPistes_4 rfl fl_X0_36 (zok_2 hb) (rfl) ?_
  refine v_icmp_ge (n := 10) (t := 52) dX0_groomPistes_7 rfl (by decide) (fun hq => ?_) (fun hq => ?_)
  · replace h := h.1 hq
    exact v_vret dX0_groomPistes_52 rfl (Nat.le_of_ble_eq_true rfl) (Nat.le_of_ble_eq_true rfl) h
  · replace h := h.2 hq
    refine v_aload_n (n := 11) dX0_groomPistes_10 rfl rfl ?_
    refine v_getf (n := 14) dX0_groomPistes_11 rfl fl_X0_20 (zok_2 hb) rfl ?_
    refine v_iload_n (n := 15) dX0_groomPistes_14 rfl rfl ?_
    obtain ⟨hf1, h⟩ := h
    refine v_aald (n := 16) (j := i) dX0_groomPistes_15 rfl (zok_21 hb) (by decide) rfl rfl hf1 rfl ?_
    refine v_astore_n (n := 17) (L' := [(0, .ref (zad G.1 2 b 0)), (1, .int (nI i)), (2, .ref (zad G.1 7 b i))]) dX0_groomPistes_16 rfl (by decide) rfl ?_
    refine v_aload_n (n := 18) dX0_groomPistes_17 rfl rfl ?_
    refine v_getf (n := 21) dX0_groomPistes_18 rfl fl_X0_88 (zok_7 hb hf1) (rfl) ?_
    refine v_iconst (n := 22) (x := nI 2) dX0_groomPistes_21 rfl (by decide) ?_
    refine v_icmp_ne (n := 25) (t := 46) dX0_groomPistes_22 rfl (by decide) (fun hq => ?_) (fun hq => ?_)
    · replace h := h.1 hq
      refine v_iinc (n := 49) (x := nI i) (y := nI (i + 1)) (L' := [(0, .ref (zad G.1 2 b 0)), (1, .int (nI (i + 1))), (2, .ref (zad G.1 7 b i))]) dX0_groomPistes_46 rfl rfl (nI_1 i) (by decide) rfl ?_
      refine v_goto (n := 2) dX0_groomPistes_49 (by decide) ?_
      exact v_pick [0, 1] rfl h
    · replace h := h.2 hq
      refine v_aload_n (n := 26) dX0_groomPistes_25 rfl rfl ?_
      refine v_dup (n := 27) dX0_groomPistes_26 rfl rfl ?_
      refine v_getf (n := 30) dX0_groomPistes_27 rfl fl_X0_206 (zok_7 hb hf1) (rfl) ?_
      refine v_iconst (n := 31) (x := nI 1) dX0_groomPistes_30 rfl (by decide) ?_
      refine v_isub (n := 32) dX0_groomPistes_31 rfl ?_
      refine v_putf (n := 35) dX0_groomPistes_32 rfl fw_X0_206 (zok_7 hb hf1) (fun _ => rfl) rfl rfl ?_
      refine v_aload_n (n := 36) dX0_groomPistes_35 rfl rfl ?_
      refine v_getf (n := 39) dX0_groomPistes_36 rfl fl_X0_206 (zok_7 hb hf1) (congrArg Value.int (up_self _ _ _ _ _ _)) ?_
      refine v_if_gt (n := 42) (t := 46) dX0_groomPistes_39 rfl (by decide) (fun hq => ?_) (fun hq => ?_)
      · replace h := h.1 hq
        refine v_iinc (n := 49) (x := nI i) (y := nI (i + 1)) (L' := [(0, .ref (zad G.1 2 b 0)), (1, .int (nI (i + 1))), (2, .ref (zad G.1 7 b i))]) dX0_groomPistes_46 rfl rfl (nI_1 i) (by decide) rfl ?_
        refine v_goto (n := 2) dX0_groomPistes_49 (by decide) ?_
        exact v_pick [0, 1] rfl h
      · replace h := h.2 hq
        refine v_aload_n (n := 43) dX0_groomPistes_42 rfl rfl ?_
        refine v_callV (n := 46) (k := 7) (b := b) (i := i) (As := []) (rest := []) dX0_groomPistes_43 rfl lk_X0_207 rfl rfl (Nat.le_of_ble_eq_true rfl) ⟨Nat.le_of_ble_eq_true rfl, Nat.le_of_ble_eq_true rfl, Nat.le_of_ble_eq_true rfl, Nat.le_of_ble_eq_true rfl⟩ (zok_7 hb hf1) (s_X5_becomeFresh G b hb i hf1 (up μ 7 b i 6 ((μ 7 b i 6) - (nI 1)))) (fun v μ9 hp => ?_) (fun _ _ hp => False.elim hp)
        rw [hp.1, hp.2]
        refine v_norm (st' := []) (cells' := 0) (slots' := 0) rfl rfl rfl ?_
        refine v_iinc (n := 49) (x := nI i) (y := nI (i + 1)) (L' := [(0, .ref (zad G.1 2 b 0)), (1, .int (nI (i + 1))), (2, .ref (zad G.1 7 b i))]) dX0_groomPistes_46 rfl rfl (nI_1 i) (by decide) rfl ?_
        refine v_goto (n := 2) dX0_groomPistes_49 (by decide) ?_
        exact v_pick [0, 1] rfl h

set_option maxRecDepth 20000 in
set_option maxHeartbeats 4000000 in
theorem wX0_guestInQueue (G : Gl) {P : Option Value → St → Prop} {X : String → St → Prop} (b : Nat) (hb : b < 11) (x1 : Int32) (x2 : Int32) (μ : St)
    (h : VL G mX0_guestInQueue P X 2 [(0, .ref (zad G.1 2 b 0)), (1, .int x1), (2, .int x2), (3, .int (nI 0))] [] μ) :
    Con G mX0_guestInQueue [.ref (zad G.1 2 b 0), .int x1, .int x2] μ P X := by
  refine con_of pn_X0 rfl (Nat.le_of_ble_eq_true rfl) ?_
  show VL G mX0_guestInQueue P X 0 [(0, .ref (zad G.1 2 b 0)), (1, .int x1), (2, .int x2)] [] μ
  refine v_iconst (n := 1) (x := nI 0) dX0_guestInQueue_0 rfl (by decide) ?_
  refine v_istore_n (n := 2) (L' := [(0, .ref (zad G.1 2 b 0)), (1, .int x1), (2, .int x2), (3, .int (nI 0))]) dX0_guestInQueue_1 rfl (by decide) rfl ?_
  exact h

set_option maxRecDepth 20000 in
set_option maxHeartbeats 4000000 in
theorem wX0_guestInQueue_2 (G : Gl) {P : Option Value → St → Prop} {X : String → St → Prop} (b : Nat) (hb : b < 11) (x1 : Int32) (x2 : Int32) (i : Nat) (μ : St)
    (h : ((μ 2 b 0 5 ≤ nI i → P (some (.int (-1 : Int32))) μ) ∧ (¬ μ 2 b 0 5 ≤ nI i → i < 16 ∧ ((gis μ b i (nI 1) x1 = false → VL G mX0_guestInQueue P X 2 [(0, .ref (zad G.1 2 b 0)), (1, .int x1), (2, .int x2), (3, .int (nI (i + 1)))] [] μ) ∧ (gis μ b i (nI 1) x1 = true → ((¬ μ 3 b i 7 = x2 → VL G mX0_guestInQueue P X 2 [(0, .ref (zad G.1 2 b 0)), (1, .int x1), (2, .int x2), (3, .int (nI (i + 1)))] [] μ) ∧ (μ 3 b i 7 = x2 → P (some (.int (nI i))) μ))))))) :
    VL G mX0_guestInQueue P X 2 [(0, .ref (zad G.1 2 b 0)), (1, .int x1), (2, .int x2), (3, .int (nI i))] [] μ := by
  refine v_iload_n (n := 3) dX0_guestInQueue_2 rfl rfl ?_
  refine v_aload_n (n := 4) dX0_guestInQueue_3 rfl rfl ?_
  refine v_getf (n := 7) dX0_guestInQueue_4 rfl fl_X0_39 (zok_2 hb) (rfl) ?_
  refine v_icmp_ge (n := 10) (t := 45) dX0_guestInQueue_7 rfl (by decide) (fun hq => ?_) (fun hq => ?_)
  · replace h := h.1 hq
    refine v_iconst (n := 46) (x := (-1 : Int32)) dX0_guestInQueue_45 rfl (by decide) ?_
    exact v_iret dX0_guestInQueue_46 rfl (Nat.le_of_ble_eq_true rfl) (Nat.le_of_ble_eq_true rfl) h
  · replace h := h.2 hq
    refine v_aload_n (n := 11) dX0_guestInQueue_10 rfl rfl ?_
    refine v_getf (n := 14) dX0_guestInQueue_11 rfl fl_X0_27 (zok_2 hb) rfl ?_
    refine v_iload_n (n := 15) dX0_guestInQueue_14 rfl rfl ?_
    obtain ⟨hf1, h⟩ := h
    refine v_aald (n := 16) (j := i) dX0_guestInQueue_15 rfl (zok_22 hb) (by decide) rfl rfl hf1 rfl ?_
    refine v_iconst (n := 17) (x := nI 1) dX0_guestInQueue_16 rfl (by decide) ?_
    refine v_iload_n (n := 18) dX0_guestInQueue_17 rfl rfl ?_
    refine v_callV (n := 21) (k := 3) (b := b) (i := i) (As := [.int (nI 1), .int x1]) (rest := []) dX0_guestInQueue_18 rfl lk_X0_96 rfl rfl (Nat.le_of_ble_eq_true rfl) ⟨Nat.le_of_ble_eq_true rfl, Nat.le_of_ble_eq_true rfl, Nat.le_of_ble_eq_true rfl, Nat.le_of_ble_eq_true rfl⟩ (zok_3 hb hf1) (s_X1_is G b hb i hf1 (nI 1) x1 μ) (fun v μ9 hp => ?_) (fun _ _ hp => False.elim hp)
    rw [hp.1, hp.2]
    refine v_norm (st' := [.int (bI (gis μ b i (nI 1) x1))]) (cells' := 0) (slots' := 0) rfl rfl rfl ?_
    refine v_if_eq (n := 24) (t := 39) dX0_guestInQueue_21 rfl (by decide) (fun hq => ?_) (fun hq => ?_)
    · replace h := h.1 (bI_f hq)
      refine v_iinc (n := 42) (x := nI i) (y := nI (i + 1)) (L' := [(0, .ref (zad G.1 2 b 0)), (1, .int x1), (2, .int x2), (3, .int (nI (i + 1)))]) dX0_guestInQueue_39 rfl rfl (nI_1 i) (by decide) rfl ?_
      refine v_goto (n := 2) dX0_guestInQueue_42 (by decide) ?_
      exact h
    · replace h := h.2 (bI_nf hq)
      refine v_aload_n (n := 25) dX0_guestInQueue_24 rfl rfl ?_
      refine v_getf (n := 28) dX0_guestInQueue_25 rfl fl_X0_27 (zok_2 hb) rfl ?_
      refine v_iload_n (n := 29) dX0_guestInQueue_28 rfl rfl ?_
      refine v_aald (n := 30) (j := i) dX0_guestInQueue_29 rfl (zok_22 hb) (by decide) rfl rfl hf1 rfl ?_
      refine v_getf (n := 33) dX0_guestInQueue_30 rfl fl_X0_100 (zok_3 hb hf1) (rfl) ?_
      refine v_iload_n (n := 34) dX0_guestInQueue_33 rfl rfl ?_
      refine v_icmp_ne (n := 37) (t := 39) dX0_guestInQueue_34 rfl (by decide) (fun hq => ?_) (fun hq => ?_)
      · replace h := h.1 hq
        refine v_iinc (n := 42) (x := nI i) (y := nI (i + 1)) (L' := [(0, .ref (zad G.1 2 b 0)), (1, .int x1), (2, .int x2), (3, .int (nI (i + 1)))]) dX0_guestInQueue_39 rfl rfl (nI_1 i) (by decide) rfl ?_
        refine v_goto (n := 2) dX0_guestInQueue_42 (by decide) ?_
        exact h
      · replace h := h.2 hq
        refine v_iload_n (n := 38) dX0_guestInQueue_37 rfl rfl ?_
        exact v_iret dX0_guestInQueue_38 rfl (Nat.le_of_ble_eq_true rfl) (Nat.le_of_ble_eq_true rfl) h

set_option maxRecDepth 20000 in
set_option maxHeartbeats 4000000 in
theorem wX0_guestsWith (G : Gl) {P : Option Value → St → Prop} {X : String → St → Prop} (b : Nat) (hb : b < 11) (x1 : Int32) (x2 : Int32) (μ : St)
    (h : VL G mX0_guestsWith P X 5 [(0, .ref (zad G.1 2 b 0)), (1, .int x1), (2, .int x2), (3, .int (nI 0)), (4, .int (nI 0))] [] μ) :
    Con G mX0_guestsWith [.ref (zad G.1 2 b 0), .int x1, .int x2] μ P X := by
  refine con_of pn_X0 rfl (Nat.le_of_ble_eq_true rfl) ?_
  show VL G mX0_guestsWith P X 0 [(0, .ref (zad G.1 2 b 0)), (1, .int x1), (2, .int x2)] [] μ
  refine v_iconst (n := 1) (x := nI 0) dX0_guestsWith_0 rfl (by decide) ?_
  refine v_istore_n (n := 2) (L' := [(0, .ref (zad G.1 2 b 0)), (1, .int x1), (2, .int x2), (3, .int (nI 0))]) dX0_guestsWith_1 rfl (by decide) rfl ?_
  refine v_iconst (n := 3) (x := nI 0) dX0_guestsWith_2 rfl (by decide) ?_
  refine v_istore (n := 5) (L' := [(0, .ref (zad G.1 2 b 0)), (1, .int x1), (2, .int x2), (3, .int (nI 0)), (4, .int (nI 0))]) dX0_guestsWith_3 rfl (by decide) rfl ?_
  exact h

set_option maxRecDepth 20000 in
set_option maxHeartbeats 4000000 in
theorem wX0_guestsWith_5 (G : Gl) {P : Option Value → St → Prop} {X : String → St → Prop} (b : Nat) (hb : b < 11) (x1 : Int32) (x2 : Int32) (y3 : Int32) (i : Nat) (μ : St)
    (h : ((μ 2 b 0 5 ≤ nI i → P (some (.int y3)) μ) ∧ (¬ μ 2 b 0 5 ≤ nI i → i < 16 ∧ ((gis μ b i x1 x2 = false → VL G mX0_guestsWith P X 5 [(0, .ref (zad G.1 2 b 0)), (1, .int x1), (2, .int x2), (3, .int y3), (4, .int (nI (i + 1)))] [] μ) ∧ (gis μ b i x1 x2 = true → VL G mX0_guestsWith P X 5 [(0, .ref (zad G.1 2 b 0)), (1, .int x1), (2, .int x2), (3, .int (y3 + 1)), (4, .int (nI (i + 1)))] [] μ))))) :
    VL G mX0_guestsWith P X 5 [(0, .ref (zad G.1 2 b 0)), (1, .int x1), (2, .int x2), (3, .int y3), (4, .int (nI i))] [] μ := by
  refine v_iload (n := 7) dX0_guestsWith_5 rfl rfl ?_
  refine v_aload_n (n := 8) dX0_guestsWith_7 rfl rfl ?_
  refine v_getf (n := 11) dX0_guestsWith_8 rfl fl_X0_39 (zok_2 hb) (rfl) ?_
  refine v_icmp_ge (n := 14) (t := 38) dX0_guestsWith_11 rfl (by decide) (fun hq => ?_) (fun hq => ?_)
  · replace h := h.1 hq
    refine v_iload_n (n := 39) dX0_guestsWith_38 rfl rfl ?_
    exact v_iret dX0_guestsWith_39 rfl (Nat.le_of_ble_eq_true rfl) (Nat.le_of_ble_eq_true rfl) h
  · replace h := h.2 hq
    refine v_aload_n (n := 15) dX0_guestsWith_14 rfl rfl ?_
    refine v_getf (n := 18) dX0_guestsWith_15 rfl fl_X0_27 (zok_2 hb) rfl ?_
    refine v_iload (n := 20) dX0_guestsWith_18 rfl rfl ?_
    obtain ⟨hf1, h⟩ := h
    refine v_aald (n := 21) (j := i) dX0_guestsWith_20 rfl (zok_22 hb) (by decide) rfl rfl hf1 rfl ?_
    refine v_iload_n (n := 22) dX0_guestsWith_21 rfl rfl ?_
    refine v_iload_n (n := 23) dX0_guestsWith_22 rfl rfl ?_
    refine v_callV (n := 26) (k := 3) (b := b) (i := i) (As := [.int x1, .int x2]) (rest := []) dX0_guestsWith_23 rfl lk_X0_96 rfl rfl (Nat.le_of_ble_eq_true rfl) ⟨Nat.le_of_ble_eq_true rfl, Nat.le_of_ble_eq_true rfl, Nat.le_of_ble_eq_true rfl, Nat.le_of_ble_eq_true rfl⟩ (zok_3 hb hf1) (s_X1_is G b hb i hf1 x1 x2 μ) (fun v μ9 hp => ?_) (fun _ _ hp => False.elim hp)
    rw [hp.1, hp.2]
    refine v_norm (st' := [.int (bI (gis μ b i x1 x2))]) (cells' := 0) (slots' := 0) rfl rfl rfl ?_
    refine v_if_eq (n := 29) (t := 32) dX0_guestsWith_26 rfl (by decide) (fun hq => ?_) (fun hq => ?_)
    · replace h := h.1 (bI_f hq)
      refine v_iinc (n := 35) (x := nI i) (y := nI (i + 1)) (L' := [(0, .ref (zad G.1 2 b 0)), (1, .int x1), (2, .int x2), (3, .int y3), (4, .int (nI (i + 1)))]) dX0_guestsWith_32 rfl rfl (nI_1 i) (by decide) rfl ?_
      refine v_goto (n := 5) dX0_guestsWith_35 (by decide) ?_
      exact h
    · replace h := h.2 (bI_nf hq)
      refine v_iinc (n := 32) (x := y3) (y := y3 + 1) (L' := [(0, .ref (zad G.1 2 b 0)), (1, .int x1), (2, .int x2), (3, .int (y3 + 1)), (4, .int (nI i))]) dX0_guestsWith_29 rfl rfl rfl (by decide) rfl ?_
      refine v_iinc (n := 35) (x := nI i) (y := nI (i + 1)) (L' := [(0, .ref (zad G.1 2 b 0)), (1, .int x1), (2, .int x2), (3, .int (y3 + 1)), (4, .int (nI (i + 1)))]) dX0_guestsWith_32 rfl rfl (nI_1 i) (by decide) rfl ?_
      refine v_goto (n := 5) dX0_guestsWith_35 (by decide) ?_
      exact h

set_option maxRecDepth 20000 in
set_option maxHeartbeats 4000000 in
theorem wX0_heldLifts (G : Gl) {P : Option Value → St → Prop} {X : String → St → Prop} (b : Nat) (hb : b < 11) (μ : St)
    (h : VL G mX0_heldLifts P X 4 [(0, .ref (zad G.1 2 b 0)), (1, .int (nI 0)), (2, .int (nI 0))] [] μ) :
    Con G mX0_heldLifts [.ref (zad G.1 2 b 0)] μ P X := by
  refine con_of pn_X0 rfl (Nat.le_of_ble_eq_true rfl) ?_
  show VL G mX0_heldLifts P X 0 [(0, .ref (zad G.1 2 b 0))] [] μ
  refine v_iconst (n := 1) (x := nI 0) dX0_heldLifts_0 rfl (by decide) ?_
  refine v_istore_n (n := 2) (L' := [(0, .ref (zad G.1 2 b 0)), (1, .int (nI 0))]) dX0_heldLifts_1 rfl (by decide) rfl ?_
  refine v_iconst (n := 3) (x := nI 0) dX0_heldLifts_2 rfl (by decide) ?_
  refine v_istore_n (n := 4) (L' := [(0, .ref (zad G.1 2 b 0)), (1, .int (nI 0)), (2, .int (nI 0))]) dX0_heldLifts_3 rfl (by decide) rfl ?_
  exact h

set_option maxRecDepth 20000 in
set_option maxHeartbeats 4000000 in
theorem wX0_heldLifts_4 (G : Gl) {P : Option Value → St → Prop} {X : String → St → Prop} (b : Nat) (hb : b < 11) (y1 : Int32) (i : Nat) (μ : St)
    (h : ((μ 2 b 0 3 ≤ nI i → P (some (.int y1)) μ) ∧ (¬ μ 2 b 0 3 ≤ nI i → i < 6 ∧ ((ihd μ b i = false → VL G mX0_heldLifts P X 4 [(0, .ref (zad G.1 2 b 0)), (1, .int y1), (2, .int (nI (i + 1)))] [] μ) ∧ (ihd μ b i = true → VL G mX0_heldLifts P X 4 [(0, .ref (zad G.1 2 b 0)), (1, .int (y1 ||| ((nI 1) <<< ((nI i) &&& 31)))), (2, .int (nI (i + 1)))] [] μ))))) :
    VL G mX0_heldLifts P X 4 [(0, .ref (zad G.1 2 b 0)), (1, .int y1), (2, .int (nI i))] [] μ := by
  refine v_iload_n (n := 5) dX0_heldLifts_4 rfl rfl ?_
  refine v_aload_n (n := 6) dX0_heldLifts_5 rfl rfl ?_
  refine v_getf (n := 9) dX0_heldLifts_6 rfl fl_X0_32 (zok_2 hb) (rfl) ?_
  refine v_icmp_ge (n := 12) (t := 37) dX0_heldLifts_9 rfl (by decide) (fun hq => ?_) (fun hq => ?_)
  · replace h := h.1 hq
    refine v_iload_n (n := 38) dX0_heldLifts_37 rfl rfl ?_
    exact v_iret dX0_heldLifts_38 rfl (Nat.le_of_ble_eq_true rfl) (Nat.le_of_ble_eq_true rfl) h
  · replace h := h.2 hq
    refine v_aload_n (n := 13) dX0_heldLifts_12 rfl rfl ?_
    refine v_aload_n (n := 14) dX0_heldLifts_13 rfl rfl ?_
    refine v_getf (n := 17) dX0_heldLifts_14 rfl fl_X0_11 (zok_2 hb) rfl ?_
    refine v_iload_n (n := 18) dX0_heldLifts_17 rfl rfl ?_
    obtain ⟨hf1, h⟩ := h
    refine v_aald (n := 19) (j := i) dX0_heldLifts_18 rfl (zok_20 hb) (by decide) rfl rfl hf1 rfl ?_
    refine v_callV (n := 22) (k := 2) (b := b) (i := 0) (As := [.ref (zad G.1 6 b i)]) (rest := []) dX0_heldLifts_19 rfl lk_X0_84 rfl rfl (Nat.le_of_ble_eq_true rfl) ⟨Nat.le_of_ble_eq_true rfl, Nat.le_of_ble_eq_true rfl, Nat.le_of_ble_eq_true rfl, Nat.le_of_ble_eq_true rfl⟩ (zok_2 hb) (s_X0_isHeld G b hb i hf1 μ) (fun v μ9 hp => ?_) (fun _ _ hp => False.elim hp)
    rw [hp.1, hp.2]
    refine v_norm (st' := [.int (bI (ihd μ b i))]) (cells' := 0) (slots' := 0) rfl rfl rfl ?_
    refine v_if_eq (n := 25) (t := 31) dX0_heldLifts_22 rfl (by decide) (fun hq => ?_) (fun hq => ?_)
    · replace h := h.1 (bI_f hq)
      refine v_iinc (n := 34) (x := nI i) (y := nI (i + 1)) (L' := [(0, .ref (zad G.1 2 b 0)), (1, .int y1), (2, .int (nI (i + 1)))]) dX0_heldLifts_31 rfl rfl (nI_1 i) (by decide) rfl ?_
      refine v_goto (n := 4) dX0_heldLifts_34 (by decide) ?_
      exact h
    · replace h := h.2 (bI_nf hq)
      refine v_iload_n (n := 26) dX0_heldLifts_25 rfl rfl ?_
      refine v_iconst (n := 27) (x := nI 1) dX0_heldLifts_26 rfl (by decide) ?_
      refine v_iload_n (n := 28) dX0_heldLifts_27 rfl rfl ?_
      refine v_ishl (n := 29) dX0_heldLifts_28 rfl ?_
      refine v_ior (n := 30) dX0_heldLifts_29 rfl ?_
      refine v_istore_n (n := 31) (L' := [(0, .ref (zad G.1 2 b 0)), (1, .int (y1 ||| ((nI 1) <<< ((nI i) &&& 31)))), (2, .int (nI i))]) dX0_heldLifts_30 rfl (by decide) rfl ?_
      refine v_iinc (n := 34) (x := nI i) (y := nI (i + 1)) (L' := [(0, .ref (zad G.1 2 b 0)), (1, .int (y1 ||| ((nI 1) <<< ((nI i) &&& 31)))), (2, .int (nI (i + 1)))]) dX0_heldLifts_31 rfl rfl (nI_1 i) (by decide) rfl ?_
      refine v_goto (n := 4) dX0_heldLifts_34 (by decide) ?_
      exact h

set_option maxRecDepth 20000 in
set_option maxHeartbeats 4000000 in
theorem wX0_leaveQueue (G : Gl) {P : Option Value → St → Prop} {X : String → St → Prop} (b : Nat) (hb : b < 11) (g : Nat) (hg : g < 16) (μ : St)
    (h : μ 2 b 0 3 ≤ nI 6 ∧ ((idx (μ 3 b g 5) (μ 2 b 0 3) = false → P none μ) ∧ (∀ i1 : Nat, i1 < 6 → μ 3 b g 5 = nI i1 → idx (μ 3 b g 5) (μ 2 b 0 3) = true → VL G mX0_leaveQueue P X 16 [(0, .ref (zad G.1 2 b 0)), (1, .ref (zad G.1 3 b g)), (2, .ref (zad G.1 6 b i1)), (3, .int (nI 0))] [] μ))) :
    Con G mX0_leaveQueue [.ref (zad G.1 2 b 0), .ref (zad G.1 3 b g)] μ P X := by
  refine con_of pn_X0 rfl (Nat.le_of_ble_eq_true rfl) ?_
  show VL G mX0_leaveQueue P X 0 [(0, .ref (zad G.1 2 b 0)), (1, .ref (zad G.1 3 b g))] [] μ
  refine v_aload_n (n := 1) dX0_leaveQueue_0 rfl rfl ?_
  refine v_aload_n (n := 2) dX0_leaveQueue_1 rfl rfl ?_
  refine v_getf (n := 5) dX0_leaveQueue_2 rfl fl_X0_107 (zok_3 hb hg) (rfl) ?_
  obtain ⟨hf1, h⟩ := h
  refine v_callV (n := 8) (k := 2) (b := b) (i := 0) (As := [.int (μ 3 b g 5)]) (rest := []) dX0_leaveQueue_5 rfl lk_X0_124 rfl rfl (Nat.le_of_ble_eq_true rfl) ⟨Nat.le_of_ble_eq_true rfl, Nat.le_of_ble_eq_true rfl, Nat.le_of_ble_eq_true rfl, Nat.le_of_ble_eq_true rfl⟩ (zok_2 hb) (s_X0_liftAt G b hb (μ 3 b g 5) μ hf1) (fun v μ9 hp => ?_) (fun _ _ hp => False.elim hp)
  rcases hp with ⟨hq, hv, hm⟩ | ⟨i1, hi1, hq, hq2, hv, hm⟩
  · replace h := h.1 hq
    rw [hv, hm]
    refine v_norm (st' := [.null]) (cells' := 0) (slots' := 0) rfl rfl rfl ?_
    refine v_astore_nN (n := 9) (L' := [(0, .ref (zad G.1 2 b 0)), (1, .ref (zad G.1 3 b g)), (2, .null)]) dX0_leaveQueue_8 rfl (by decide) rfl ?_
    refine v_aload_nN (n := 10) dX0_leaveQueue_9 rfl rfl ?_
    refine v_ifnonnullN (n := 13) dX0_leaveQueue_10 rfl ?_
    exact v_vret dX0_leaveQueue_13 rfl (Nat.le_of_ble_eq_true rfl) (Nat.le_of_ble_eq_true rfl) h
  · replace h := h.2 i1 hi1 hq hq2
    rw [hv, hm]
    refine v_norm (st' := [.ref (zad G.1 6 b i1)]) (cells' := 0) (slots' := 0) rfl rfl rfl ?_
    refine v_astore_n (n := 9) (L' := [(0, .ref (zad G.1 2 b 0)), (1, .ref (zad G.1 3 b g)), (2, .ref (zad G.1 6 b i1))]) dX0_leaveQueue_8 rfl (by decide) rfl ?_
    refine v_aload_n (n := 10) dX0_leaveQueue_9 rfl rfl ?_
    refine v_ifnonnull (n := 14) dX0_leaveQueue_10 (by decide) ?_
    refine v_iconst (n := 15) (x := nI 0) dX0_leaveQueue_14 rfl (by decide) ?_
    refine v_istore_n (n := 16) (L' := [(0, .ref (zad G.1 2 b 0)), (1, .ref (zad G.1 3 b g)), (2, .ref (zad G.1 6 b i1)), (3, .int (nI 0))]) dX0_leaveQueue_15 rfl (by decide) rfl ?_
    exact h

set_option maxRecDepth 20000 in
set_option maxHeartbeats 4000000 in
theorem wX0_leaveQueue_16 (G : Gl) {P : Option Value → St → Prop} {X : String → St → Prop} (b : Nat) (hb : b < 11) (g : Nat) (hg : g < 16) (k2 : Nat) (hk2 : k2 < 6) (i : Nat) (μ : St)
    (h : ((μ 2 b 0 5 ≤ nI i → P none (gbc μ b g (nI 0) (μ 6 b k2 0) (nI 0) (nI 0))) ∧ (¬ μ 2 b 0 5 ≤ nI i → i < 16 ∧ ((gis μ b i (nI 1) (μ 3 b g 5) = false → VL G mX0_leaveQueue P X 16 [(0, .ref (zad G.1 2 b 0)), (1, .ref (zad G.1 3 b g)), (2, .ref (zad G.1 6 b k2)), (3, .int (nI (i + 1)))] [] μ) ∧ (gis μ b i (nI 1) (μ 3 b g 5) = true → ((μ 3 b i 7 ≤ μ 3 b g 7 → VL G mX0_leaveQueue P X 16 [(0, .ref (zad G.1 2 b 0)), (1, .ref (zad G.1 3 b g)), (2, .ref (zad G.1 6 b k2)), (3, .int (nI (i + 1)))] [] μ) ∧ (¬ μ 3 b i 7 ≤ μ 3 b g 7 → VL G mX0_leaveQueue P X 16 [(0, .ref (zad G.1 2 b 0)), (1, .ref (zad G.1 3 b g)), (2, .ref (zad G.1 6 b k2)), (3, .int (nI (i + 1)))] [] (up μ 3 b i 7 ((μ 3 b i 7) - (nI 1)))))))))) :
    VL G mX0_leaveQueue P X 16 [(0, .ref (zad G.1 2 b 0)), (1, .ref (zad G.1 3 b g)), (2, .ref (zad G.1 6 b k2)), (3, .int (nI i))] [] μ := by
  refine v_iload_n (n := 17) dX0_leaveQueue_16 rfl rfl ?_
  refine v_aload_n (n := 18) dX0_leaveQueue_17 rfl rfl ?_
  refine v_getf (n := 21) dX0_leaveQueue_18 rfl fl_X0_39 (zok_2 hb) (rfl) ?_
  refine v_icmp_ge (n := 24) (t := 78) dX0_leaveQueue_21 rfl (by decide) (fun hq => ?_) (fun hq => ?_)
  · replace h := h.1 hq
    refine v_aload_n (n := 79) dX0_leaveQueue_78 rfl rfl ?_
    refine v_aload_n (n := 80) dX0_leaveQueue_79 rfl rfl ?_
    refine v_getf (n := 83) dX0_leaveQueue_80 rfl fl_X0_110 (zok_6 hb hk2) (rfl) ?_
    refine v_callV (n := 86) (k := 3) (b := b) (i := g) (As := [.int (μ 6 b k2 0)]) (rest := []) dX0_leaveQueue_83 rfl lk_X0_128 rfl rfl (Nat.le_of_ble_eq_true rfl) ⟨Nat.le_of_ble_eq_true rfl, Nat.le_of_ble_eq_true rfl, Nat.le_of_ble_eq_true rfl, Nat.le_of_ble_eq_true rfl⟩ (zok_3 hb hg) (s_X1_standAt G b hb g hg (μ 6 b k2 0) μ) (fun v μ9 hp => ?_) (fun _ _ hp => False.elim hp)
    rw [hp.1, hp.2]
    refine v_norm (st' := []) (cells' := 0) (slots' := 0) rfl rfl rfl ?_
    exact v_vret dX0_leaveQueue_86 rfl (Nat.le_of_ble_eq_true rfl) (Nat.le_of_ble_eq_true rfl) h
  · replace h := h.2 hq
    refine v_aload_n (n := 25) dX0_leaveQueue_24 rfl rfl ?_
    refine v_getf (n := 28) dX0_leaveQueue_25 rfl fl_X0_27 (zok_2 hb) rfl ?_
    refine v_iload_n (n := 29) dX0_leaveQueue_28 rfl rfl ?_
    obtain ⟨hf1, h⟩ := h
    refine v_aald (n := 30) (j := i) dX0_leaveQueue_29 rfl (zok_22 hb) (by decide) rfl rfl hf1 rfl ?_
    refine v_iconst (n := 31) (x := nI 1) dX0_leaveQueue_30 rfl (by decide) ?_
    refine v_aload_n (n := 32) dX0_leaveQueue_31 rfl rfl ?_
    refine v_getf (n := 35) dX0_leaveQueue_32 rfl fl_X0_107 (zok_3 hb hg) (rfl) ?_
    refine v_callV (n := 38) (k := 3) (b := b) (i := i) (As := [.int (nI 1), .int (μ 3 b g 5)]) (rest := []) dX0_leaveQueue_35 rfl lk_X0_96 rfl rfl (Nat.le_of_ble_eq_true rfl) ⟨Nat.le_of_ble_eq_true rfl, Nat.le_of_ble_eq_true rfl, Nat.le_of_ble_eq_true rfl, Nat.le_of_ble_eq_true rfl⟩ (zok_3 hb hf1) (s_X1_is G b hb i hf1 (nI 1) (μ 3 b g 5) μ) (fun v μ9 hp => ?_) (fun _ _ hp => False.elim hp)
    rw [hp.1, hp.2]
    refine v_norm (st' := [.int (bI (gis μ b i (nI 1) (μ 3 b g 5)))]) (cells' := 0) (slots' := 0) rfl rfl rfl ?_
    refine v_if_eq (n := 41) (t := 72) dX0_leaveQueue_38 rfl (by decide) (fun hq => ?_) (fun hq => ?_)
    · replace h := h.1 (bI_f hq)
      refine v_iinc (n := 75) (x := nI i) (y := nI (i + 1)) (L' := [(0, .ref (zad G.1 2 b 0)), (1, .ref (zad G.1 3 b g)), (2, .ref (zad G.1 6 b k2)), (3, .int (nI (i + 1)))]) dX0_leaveQueue_72 rfl rfl (nI_1 i) (by decide) rfl ?_
      refine v_goto (n := 16) dX0_leaveQueue_75 (by decide) ?_
      exact h
    · replace h := h.2 (bI_nf hq)
      refine v_aload_n (n := 42) dX0_leaveQueue_41 rfl rfl ?_
      refine v_getf (n := 45) dX0_leaveQueue_42 rfl fl_X0_27 (zok_2 hb) rfl ?_
      refine v_iload_n (n := 46) dX0_leaveQueue_45 rfl rfl ?_
      refine v_aald (n := 47) (j := i) dX0_leaveQueue_46 rfl (zok_22 hb) (by decide) rfl rfl hf1 rfl ?_
      refine v_getf (n := 50) dX0_leaveQueue_47 rfl fl_X0_100 (zok_3 hb hf1) (rfl) ?_
      refine v_aload_n (n := 51) dX0_leaveQueue_50 rfl rfl ?_
      refine v_getf (n := 54) dX0_leaveQueue_51 rfl fl_X0_100 (zok_3 hb hg) (rfl) ?_
      refine v_icmp_le (n := 57) (t := 72) dX0_leaveQueue_54 rfl (by decide) (fun hq => ?_) (fun hq => ?_)
      · replace h := h.1 hq
        refine v_iinc (n := 75) (x := nI i) (y := nI (i + 1)) (L' := [(0, .ref (zad G.1 2 b 0)), (1, .ref (zad G.1 3 b g)), (2, .ref (zad G.1 6 b k2)), (3, .int (nI (i + 1)))]) dX0_leaveQueue_72 rfl rfl (nI_1 i) (by decide) rfl ?_
        refine v_goto (n := 16) dX0_leaveQueue_75 (by decide) ?_
        exact h
      · replace h := h.2 hq
        refine v_aload_n (n := 58) dX0_leaveQueue_57 rfl rfl ?_
        refine v_getf (n := 61) dX0_leaveQueue_58 rfl fl_X0_27 (zok_2 hb) rfl ?_
        refine v_iload_n (n := 62) dX0_leaveQueue_61 rfl rfl ?_
        refine v_aald (n := 63) (j := i) dX0_leaveQueue_62 rfl (zok_22 hb) (by decide) rfl rfl hf1 rfl ?_
        refine v_dup (n := 64) dX0_leaveQueue_63 rfl rfl ?_
        refine v_getf (n := 67) dX0_leaveQueue_64 rfl fl_X0_100 (zok_3 hb hf1) (rfl) ?_
        refine v_iconst (n := 68) (x := nI 1) dX0_leaveQueue_67 rfl (by decide) ?_
        refine v_isub (n := 69) dX0_leaveQueue_68 rfl ?_
        refine v_putf (n := 72) dX0_leaveQueue_69 rfl fw_X0_100 (zok_3 hb hf1) (fun _ => rfl) rfl rfl ?_
        refine v_iinc (n := 75) (x := nI i) (y := nI (i + 1)) (L' := [(0, .ref (zad G.1 2 b 0)), (1, .ref (zad G.1 3 b g)), (2, .ref (zad G.1 6 b k2)), (3, .int (nI (i + 1)))]) dX0_leaveQueue_72 rfl rfl (nI_1 i) (by decide) rfl ?_
        refine v_goto (n := 16) dX0_leaveQueue_75 (by decide) ?_
        exact h

set_option maxRecDepth 20000 in
set_option maxHeartbeats 4000000 in
theorem wX0_liftsOpenedFor (G : Gl) {P : Option Value → St → Prop} {X : String → St → Prop} (b : Nat) (hb : b < 11) (g : Nat) (hg : g < 16) (μ : St)
    (h : VL G mX0_liftsOpenedFor P X 4 [(0, .ref (zad G.1 2 b 0)), (1, .ref (zad G.1 3 b g)), (2, .int (nI 0)), (3, .int (nI 0))] [] μ) :
    Con G mX0_liftsOpenedFor [.ref (zad G.1 2 b 0), .ref (zad G.1 3 b g)] μ P X := by
  refine con_of pn_X0 rfl (Nat.le_of_ble_eq_true rfl) ?_
  show VL G mX0_liftsOpenedFor P X 0 [(0, .ref (zad G.1 2 b 0)), (1, .ref (zad G.1 3 b g))] [] μ
  refine v_iconst (n := 1) (x := nI 0) dX0_liftsOpenedFor_0 rfl (by decide) ?_
  refine v_istore_n (n := 2) (L' := [(0, .ref (zad G.1 2 b 0)), (1, .ref (zad G.1 3 b g)), (2, .int (nI 0))]) dX0_liftsOpenedFor_1 rfl (by decide) rfl ?_
  refine v_iconst (n := 3) (x := nI 0) dX0_liftsOpenedFor_2 rfl (by decide) ?_
  refine v_istore_n (n := 4) (L' := [(0, .ref (zad G.1 2 b 0)), (1, .ref (zad G.1 3 b g)), (2, .int (nI 0)), (3, .int (nI 0))]) dX0_liftsOpenedFor_3 rfl (by decide) rfl ?_
  exact h

set_option maxRecDepth 20000 in
set_option maxHeartbeats 4000000 in
theorem wX0_liftsOpenedFor_4 (G : Gl) {P : Option Value → St → Prop} {X : String → St → Prop} (b : Nat) (hb : b < 11) (g : Nat) (hg : g < 16) (y2 : Int32) (i : Nat) (μ : St)
    (h : ((μ 2 b 0 3 ≤ nI i → P (some (.int y2)) μ) ∧ (¬ μ 2 b 0 3 ≤ nI i → i < 6 ∧ ((iop μ b g i = false → VL G mX0_liftsOpenedFor P X 4 [(0, .ref (zad G.1 2 b 0)), (1, .ref (zad G.1 3 b g)), (2, .int y2), (3, .int (nI (i + 1)))] [] μ) ∧ (iop μ b g i = true → VL G mX0_liftsOpenedFor P X 4 [(0, .ref (zad G.1 2 b 0)), (1, .ref (zad G.1 3 b g)), (2, .int (y2 ||| ((nI 1) <<< ((nI i) &&& 31)))), (3, .int (nI (i + 1)))] [] μ))))) :
    VL G mX0_liftsOpenedFor P X 4 [(0, .ref (zad G.1 2 b 0)), (1, .ref (zad G.1 3 b g)), (2, .int y2), (3, .int (nI i))] [] μ := by
  refine v_iload_n (n := 5) dX0_liftsOpenedFor_4 rfl rfl ?_
  refine v_aload_n (n := 6) dX0_liftsOpenedFor_5 rfl rfl ?_
  refine v_getf (n := 9) dX0_liftsOpenedFor_6 rfl fl_X0_32 (zok_2 hb) (rfl) ?_
  refine v_icmp_ge (n := 12) (t := 38) dX0_liftsOpenedFor_9 rfl (by decide) (fun hq => ?_) (fun hq => ?_)
  · replace h := h.1 hq
    refine v_iload_n (n := 39) dX0_liftsOpenedFor_38 rfl rfl ?_
    exact v_iret dX0_liftsOpenedFor_39 rfl (Nat.le_of_ble_eq_true rfl) (Nat.le_of_ble_eq_true rfl) h
  · replace h := h.2 hq
    refine v_aload_n (n := 13) dX0_liftsOpenedFor_12 rfl rfl ?_
    refine v_aload_n (n := 14) dX0_liftsOpenedFor_13 rfl rfl ?_
    refine v_aload_n (n := 15) dX0_liftsOpenedFor_14 rfl rfl ?_
    refine v_getf (n := 18) dX0_liftsOpenedFor_15 rfl fl_X0_11 (zok_2 hb) rfl ?_
    refine v_iload_n (n := 19) dX0_liftsOpenedFor_18 rfl rfl ?_
    obtain ⟨hf1, h⟩ := h
    refine v_aald (n := 20) (j := i) dX0_liftsOpenedFor_19 rfl (zok_20 hb) (by decide) rfl rfl hf1 rfl ?_
    refine v_callV (n := 23) (k := 2) (b := b) (i := 0) (As := [.ref (zad G.1 3 b g), .ref (zad G.1 6 b i)]) (rest := []) dX0_liftsOpenedFor_20 rfl lk_X0_80 rfl rfl (Nat.le_of_ble_eq_true rfl) ⟨Nat.le_of_ble_eq_true rfl, Nat.le_of_ble_eq_true rfl, Nat.le_of_ble_eq_true rfl, Nat.le_of_ble_eq_true rfl⟩ (zok_2 hb) (s_X0_isOpenedFor G b hb g hg i hf1 μ) (fun v μ9 hp => ?_) (fun _ _ hp => False.elim hp)
    rw [hp.1, hp.2]
    refine v_norm (st' := [.int (bI (iop μ b g i))]) (cells' := 0) (slots' := 0) rfl rfl rfl ?_
    refine v_if_eq (n := 26) (t := 32) dX0_liftsOpenedFor_23 rfl (by decide) (fun hq => ?_) (fun hq => ?_)
    · replace h := h.1 (bI_f hq)
      refine v_iinc (n := 35) (x := nI i) (y := nI (i + 1)) (L' := [(0, .ref (zad G.1 2 b 0)), (1, .ref (zad G.1 3 b g)), (2, .int y2), (3, .int (nI (i + 1)))]) dX0_liftsOpenedFor_32 rfl rfl (nI_1 i) (by decide) rfl ?_
      refine v_goto (n := 4) dX0_liftsOpenedFor_35 (by decide) ?_
      exact h
    · replace h := h.2 (bI_nf hq)
      refine v_iload_n (n := 27) dX0_liftsOpenedFor_26 rfl rfl ?_
      refine v_iconst (n := 28) (x := nI 1) dX0_liftsOpenedFor_27 rfl (by decide) ?_
      refine v_iload_n (n := 29) dX0_liftsOpenedFor_28 rfl rfl ?_
      refine v_ishl (n := 30) dX0_liftsOpenedFor_29 rfl ?_
      refine v_ior (n := 31) dX0_liftsOpenedFor_30 rfl ?_
      refine v_istore_n (n := 32) (L' := [(0, .ref (zad G.1 2 b 0)), (1, .ref (zad G.1 3 b g)), (2, .int (y2 ||| ((nI 1) <<< ((nI i) &&& 31)))), (3, .int (nI i))]) dX0_liftsOpenedFor_31 rfl (by decide) rfl ?_
      refine v_iinc (n := 35) (x := nI i) (y := nI (i + 1)) (L' := [(0, .ref (zad G.1 2 b 0)), (1, .ref (zad G.1 3 b g)), (2, .int (y2 ||| ((nI 1) <<< ((nI i) &&& 31)))), (3, .int (nI (i + 1)))]) dX0_liftsOpenedFor_32 rfl rfl (nI_1 i) (by decide) rfl ?_
      refine v_goto (n := 4) dX0_liftsOpenedFor_35 (by decide) ?_
      exact h

set_option maxRecDepth 20000 in
set_option maxHeartbeats 4000000 in
theorem wX0_moveRiders (G : Gl) {P : Option Value → St → Prop} {X : String → St → Prop} (b : Nat) (hb : b < 11) (μ : St)
    (h : VL G mX0_moveRiders P X 4 [(0, .ref (zad G.1 2 b 0)), (1, .int (nI 0)), (2, .int (nI 0))] [] μ) :
    Con G mX0_moveRiders [.ref (zad G.1 2 b 0)] μ P X := by
  refine con_of pn_X0 rfl (Nat.le_of_ble_eq_true rfl) ?_
  show VL G mX0_moveRiders P X 0 [(0, .ref (zad G.1 2 b 0))] [] μ
  refine v_iconst (n := 1) (x := nI 0) dX0_moveRiders_0 rfl (by decide) ?_
  refine v_istore_n (n := 2) (L' := [(0, .ref (zad G.1 2 b 0)), (1, .int (nI 0))]) dX0_moveRiders_1 rfl (by decide) rfl ?_
  refine v_iconst (n := 3) (x := nI 0) dX0_moveRiders_2 rfl (by decide) ?_
  refine v_istore_n (n := 4) (L' := [(0, .ref (zad G.1 2 b 0)), (1, .int (nI 0)), (2, .int (nI 0))]) dX0_moveRiders_3 rfl (by decide) rfl ?_
  exact h

set_option maxRecDepth 20000 in
set_option maxHeartbeats 4000000 in
theorem wX0_moveRiders_4 (G : Gl) {P : Option Value → St → Prop} {X : String → St → Prop} (b : Nat) (hb : b < 11) (y1 : Int32) (i : Nat) (μ : St)
    (h : ((μ 2 b 0 5 ≤ nI i → P (some (.int y1)) μ) ∧ (¬ μ 2 b 0 5 ≤ nI i → i < 16 ∧ ((¬ μ 3 b i 4 = nI 2 → VL G mX0_moveRiders P X 4 [(0, .ref (zad G.1 2 b 0)), (1, .int y1), (2, .int (nI (i + 1)))] [] μ) ∧ (μ 3 b i 4 = nI 2 → μ 2 b 0 3 ≤ nI 6 ∧ ((idx (μ 3 b i 5) (μ 2 b 0 3) = false → VL G mX0_moveRiders P X 4 [(0, .ref (zad G.1 2 b 0)), (1, .int y1), (2, .int (nI (i + 1)))] [] μ) ∧ (∀ i1 : Nat, i1 < 6 → μ 3 b i 5 = nI i1 → idx (μ 3 b i 5) (μ 2 b 0 3) = true → ((0 < (μ 3 b i 6) - (spo μ b i1) → VL G mX0_moveRiders P X 4 [(0, .ref (zad G.1 2 b 0)), (1, .int y1), (2, .int (nI (i + 1)))] [] (up μ 3 b i 6 ((μ 3 b i 6) - (spo μ b i1)))) ∧ (¬ 0 < (μ 3 b i 6) - (spo μ b i1) → VL G mX0_moveRiders P X 4 [(0, .ref (zad G.1 2 b 0)), (1, .int (y1 + 1)), (2, .int (nI (i + 1)))] [] (gbc (up μ 3 b i 6 ((μ 3 b i 6) - (spo μ b i1))) b i (nI 0) (μ 6 b i1 1) (nI 0) (nI 0))))))))))) :
    VL G mX0_moveRiders P X 4 [(0, .ref (zad G.1 2 b 0)), (1, .int y1), (2, .int (nI i))] [] μ := by
  refine v_iload_n (n := 5) dX0_moveRiders_4 rfl rfl ?_
  refine v_aload_n (n := 6) dX0_moveRiders_5 rfl rfl ?_
  refine v_getf (n := 9) dX0_moveRiders_6 rfl fl_X0_39 (zok_2 hb) (rfl) ?_
  refine v_icmp_ge (n := 12) (t := 86) dX0_moveRiders_9 rfl (by decide) (fun hq => ?_) (fun hq => ?_)
  · replace h := h.1 hq
    refine v_iload_n (n := 87) dX0_moveRiders_86 rfl rfl ?_
    exact v_iret dX0_moveRiders_87 rfl (Nat.le_of_ble_eq_true rfl) (Nat.le_of_ble_eq_true rfl) h
  · replace h := h.2 hq
    refine v_aload_n (n := 13) dX0_moveRiders_12 rfl rfl ?_
    refine v_getf (n := 16) dX0_moveRiders_13 rfl fl_X0_27 (zok_2 hb) rfl ?_
    refine v_iload_n (n := 17) dX0_moveRiders_16 rfl rfl ?_
    obtain ⟨hf1, h⟩ := h
    refine v_aald (n := 18) (j := i) dX0_moveRiders_17 rfl (zok_22 hb) (by decide) rfl rfl hf1 rfl ?_
    refine v_astore_n (n := 19) (L' := [(0, .ref (zad G.1 2 b 0)), (1, .int y1), (2, .int (nI i)), (3, .ref (zad G.1 3 b i))]) dX0_moveRiders_18 rfl (by decide) rfl ?_
    refine v_aload_n (n := 20) dX0_moveRiders_19 rfl rfl ?_
    refine v_getf (n := 23) dX0_moveRiders_20 rfl fl_X0_95 (zok_3 hb hf1) (rfl) ?_
    refine v_iconst (n := 24) (x := nI 2) dX0_moveRiders_23 rfl (by decide) ?_
    refine v_icmp_ne (n := 27) (t := 38) dX0_moveRiders_24 rfl (by decide) (fun hq => ?_) (fun hq => ?_)
    · replace h := h.1 hq
      refine v_null (n := 39) dX0_moveRiders_38 rfl ?_
      refine v_astoreN (n := 41) (L' := [(0, .ref (zad G.1 2 b 0)), (1, .int y1), (2, .int (nI i)), (3, .ref (zad G.1 3 b i)), (4, .null)]) dX0_moveRiders_39 rfl (by decide) rfl ?_
      refine v_aloadN (n := 43) dX0_moveRiders_41 rfl rfl ?_
      refine v_ifnullN (n := 80) dX0_moveRiders_43 (by decide) ?_
      refine v_iinc (n := 83) (x := nI i) (y := nI (i + 1)) (L' := [(0, .ref (zad G.1 2 b 0)), (1, .int y1), (2, .int (nI (i + 1))), (3, .ref (zad G.1 3 b i)), (4, .null)]) dX0_moveRiders_80 rfl rfl (nI_1 i) (by decide) rfl ?_
      refine v_goto (n := 4) dX0_moveRiders_83 (by decide) ?_
      exact v_pick [0, 1, 2] rfl h
    · replace h := h.2 hq
      refine v_aload_n (n := 28) dX0_moveRiders_27 rfl rfl ?_
      refine v_aload_n (n := 29) dX0_moveRiders_28 rfl rfl ?_
      refine v_getf (n := 32) dX0_moveRiders_29 rfl fl_X0_107 (zok_3 hb hf1) (rfl) ?_
      obtain ⟨hf2, h⟩ := h
      refine v_callV (n := 35) (k := 2) (b := b) (i := 0) (As := [.int (μ 3 b i 5)]) (rest := []) dX0_moveRiders_32 rfl lk_X0_124 rfl rfl (Nat.le_of_ble_eq_true rfl) ⟨Nat.le_of_ble_eq_true rfl, Nat.le_of_ble_eq_true rfl, Nat.le_of_ble_eq_true rfl, Nat.le_of_ble_eq_true rfl⟩ (zok_2 hb) (s_X0_liftAt G b hb (μ 3 b i 5) μ hf2) (fun v μ9 hp => ?_) (fun _ _ hp => False.elim hp)
      rcases hp with ⟨hq, hv, hm⟩ | ⟨i1, hi1, hq, hq2, hv, hm⟩
      · replace h := h.1 hq
        rw [hv, hm]
        refine v_norm (st' := [.null]) (cells' := 0) (slots' := 0) rfl rfl rfl ?_
        refine v_goto (n := 39) dX0_moveRiders_35 (by decide) ?_
        refine v_astoreN (n := 41) (L' := [(0, .ref (zad G.1 2 b 0)), (1, .int y1), (2, .int (nI i)), (3, .ref (zad G.1 3 b i)), (4, .null)]) dX0_moveRiders_39 rfl (by decide) rfl ?_
        refine v_aloadN (n := 43) dX0_moveRiders_41 rfl rfl ?_
        refine v_ifnullN (n := 80) dX0_moveRiders_43 (by decide) ?_
        refine v_iinc (n := 83) (x := nI i) (y := nI (i + 1)) (L' := [(0, .ref (zad G.1 2 b 0)), (1, .int y1), (2, .int (nI (i + 1))), (3, .ref (zad G.1 3 b i)), (4, .null)]) dX0_moveRiders_80 rfl rfl (nI_1 i) (by decide) rfl ?_
        refine v_goto (n := 4) dX0_moveRiders_83 (by decide) ?_
        exact v_pick [0, 1, 2] rfl h
      · replace h := h.2 i1 hi1 hq hq2
        rw [hv, hm]
        refine v_norm (st' := [.ref (zad G.1 6 b i1)]) (cells' := 0) (slots' := 0) rfl rfl rfl ?_
        refine v_goto (n := 39) dX0_moveRiders_35 (by decide) ?_
        refine v_astore (n := 41) (L' := [(0, .ref (zad G.1 2 b 0)), (1, .int y1), (2, .int (nI i)), (3, .ref (zad G.1 3 b i)), (4, .ref (zad G.1 6 b i1))]) dX0_moveRiders_39 rfl (by decide) rfl ?_
        refine v_aload (n := 43) dX0_moveRiders_41 rfl rfl ?_
        refine v_ifnull (n := 46) dX0_moveRiders_43 rfl ?_
        refine v_aload_n (n := 47) dX0_moveRiders_46 rfl rfl ?_
        refine v_dup (n := 48) dX0_moveRiders_47 rfl rfl ?_
        refine v_getf (n := 51) dX0_moveRiders_48 rfl fl_X0_148 (zok_3 hb hf1) (rfl) ?_
        refine v_aload_n (n := 52) dX0_moveRiders_51 rfl rfl ?_
        refine v_aload (n := 54) dX0_moveRiders_52 rfl rfl ?_
        refine v_callV (n := 57) (k := 2) (b := b) (i := 0) (As := [.ref (zad G.1 6 b i1)]) (rest := [.int (μ 3 b i 6), .ref (zad G.1 3 b i)]) dX0_moveRiders_54 rfl lk_X0_64 rfl rfl (Nat.le_of_ble_eq_true rfl) ⟨Nat.le_of_ble_eq_true rfl, Nat.le_of_ble_eq_true rfl, Nat.le_of_ble_eq_true rfl, Nat.le_of_ble_eq_true rfl⟩ (zok_2 hb) (s_X0_speedOf G b hb i1 hi1 μ) (fun v μ9 hp => ?_) (fun _ _ hp => False.elim hp)
        rw [hp.1, hp.2]
        refine v_norm (st' := [.int (spo μ b i1), .int (μ 3 b i 6), .ref (zad G.1 3 b i)]) (cells' := 0) (slots' := 0) rfl rfl rfl ?_
        refine v_isub (n := 58) dX0_moveRiders_57 rfl ?_
        refine v_putf (n := 61) dX0_moveRiders_58 rfl fw_X0_148 (zok_3 hb hf1) (fun _ => rfl) rfl rfl ?_
        refine v_aload_n (n := 62) dX0_moveRiders_61 rfl rfl ?_
        refine v_getf (n := 65) dX0_moveRiders_62 rfl fl_X0_148 (zok_3 hb hf1) (congrArg Value.int (up_self _ _ _ _ _ _)) ?_
        refine v_if_gt (n := 68) (t := 80) dX0_moveRiders_65 rfl (by decide) (fun hq => ?_) (fun hq => ?_)
        · replace h := h.1 hq
          refine v_iinc (n := 83) (x := nI i) (y := nI (i + 1)) (L' := [(0, .ref (zad G.1 2 b 0)), (1, .int y1), (2, .int (nI (i + 1))), (3, .ref (zad G.1 3 b i)), (4, .ref (zad G.1 6 b i1))]) dX0_moveRiders_80 rfl rfl (nI_1 i) (by decide) rfl ?_
          refine v_goto (n := 4) dX0_moveRiders_83 (by decide) ?_
          exact v_pick [0, 1, 2] rfl h
        · replace h := h.2 hq
          refine v_aload_n (n := 69) dX0_moveRiders_68 rfl rfl ?_
          refine v_aload (n := 71) dX0_moveRiders_69 rfl rfl ?_
          refine v_getf (n := 74) dX0_moveRiders_71 rfl fl_X0_167 (zok_6 hb hi1) (congrArg Value.int (up_k (by decide))) ?_
          refine v_callV (n := 77) (k := 3) (b := b) (i := i) (As := [.int (μ 6 b i1 1)]) (rest := []) dX0_moveRiders_74 rfl lk_X0_128 rfl rfl (Nat.le_of_ble_eq_true rfl) ⟨Nat.le_of_ble_eq_true rfl, Nat.le_of_ble_eq_true rfl, Nat.le_of_ble_eq_true rfl, Nat.le_of_ble_eq_true rfl⟩ (zok_3 hb hf1) (s_X1_standAt G b hb i hf1 (μ 6 b i1 1) (up μ 3 b i 6 ((μ 3 b i 6) - (spo μ b i1)))) (fun v μ9 hp => ?_) (fun _ _ hp => False.elim hp)
          rw [hp.1, hp.2]
          refine v_norm (st' := []) (cells' := 0) (slots' := 0) rfl rfl rfl ?_
          refine v_iinc (n := 80) (x := y1) (y := y1 + 1) (L' := [(0, .ref (zad G.1 2 b 0)), (1, .int (y1 + 1)), (2, .int (nI i)), (3, .ref (zad G.1 3 b i)), (4, .ref (zad G.1 6 b i1))]) dX0_moveRiders_77 rfl rfl rfl (by decide) rfl ?_
          refine v_iinc (n := 83) (x := nI i) (y := nI (i + 1)) (L' := [(0, .ref (zad G.1 2 b 0)), (1, .int (y1 + 1)), (2, .int (nI (i + 1))), (3, .ref (zad G.1 3 b i)), (4, .ref (zad G.1 6 b i1))]) dX0_moveRiders_80 rfl rfl (nI_1 i) (by decide) rfl ?_
          refine v_goto (n := 4) dX0_moveRiders_83 (by decide) ?_
          exact v_pick [0, 1, 2] rfl h

set_option maxRecDepth 20000 in
set_option maxHeartbeats 4000000 in
theorem wX0_moveSkiers (G : Gl) {P : Option Value → St → Prop} {X : String → St → Prop} (b : Nat) (hb : b < 11) (μ : St)
    (h : VL G mX0_moveSkiers P X 4 [(0, .ref (zad G.1 2 b 0)), (1, .int (nI 0)), (2, .int (nI 0))] [] μ) :
    Con G mX0_moveSkiers [.ref (zad G.1 2 b 0)] μ P X := by
  refine con_of pn_X0 rfl (Nat.le_of_ble_eq_true rfl) ?_
  show VL G mX0_moveSkiers P X 0 [(0, .ref (zad G.1 2 b 0))] [] μ
  refine v_iconst (n := 1) (x := nI 0) dX0_moveSkiers_0 rfl (by decide) ?_
  refine v_istore_n (n := 2) (L' := [(0, .ref (zad G.1 2 b 0)), (1, .int (nI 0))]) dX0_moveSkiers_1 rfl (by decide) rfl ?_
  refine v_iconst (n := 3) (x := nI 0) dX0_moveSkiers_2 rfl (by decide) ?_
  refine v_istore_n (n := 4) (L' := [(0, .ref (zad G.1 2 b 0)), (1, .int (nI 0)), (2, .int (nI 0))]) dX0_moveSkiers_3 rfl (by decide) rfl ?_
  exact h

set_option maxRecDepth 20000 in
set_option maxHeartbeats 4000000 in
theorem wX0_moveSkiers_4 (G : Gl) {P : Option Value → St → Prop} {X : String → St → Prop} (b : Nat) (hb : b < 11) (y1 : Int32) (i : Nat) (μ : St)
    (h : ((μ 2 b 0 5 ≤ nI i → P (some (.int y1)) μ) ∧ (¬ μ 2 b 0 5 ≤ nI i → i < 16 ∧ ((¬ μ 3 b i 4 = nI 3 → VL G mX0_moveSkiers P X 4 [(0, .ref (zad G.1 2 b 0)), (1, .int y1), (2, .int (nI (i + 1)))] [] μ) ∧ (μ 3 b i 4 = nI 3 → μ 2 b 0 4 ≤ nI 10 ∧ ((idx (μ 3 b i 5) (μ 2 b 0 4) = false → VL G mX0_moveSkiers P X 4 [(0, .ref (zad G.1 2 b 0)), (1, .int y1), (2, .int (nI (i + 1)))] [] μ) ∧ (∀ i1 : Nat, i1 < 10 → μ 3 b i 5 = nI i1 → idx (μ 3 b i 5) (μ 2 b 0 4) = true → ((0 < (μ 3 b i 6) - (nI 1) → VL G mX0_moveSkiers P X 4 [(0, .ref (zad G.1 2 b 0)), (1, .int y1), (2, .int (nI (i + 1)))] [] (up μ 3 b i 6 ((μ 3 b i 6) - (nI 1)))) ∧ (¬ 0 < (μ 3 b i 6) - (nI 1) → VL G mX0_moveSkiers P X 4 [(0, .ref (zad G.1 2 b 0)), (1, .int (y1 + 1)), (2, .int (nI (i + 1)))] [] (gbc (up μ 3 b i 6 ((μ 3 b i 6) - (nI 1))) b i (nI 0) (μ 7 b i1 1) (nI 0) (nI 0))))))))))) :
    VL G mX0_moveSkiers P X 4 [(0, .ref (zad G.1 2 b 0)), (1, .int y1), (2, .int (nI i))] [] μ := by
  refine v_iload_n (n := 5) dX0_moveSkiers_4 rfl rfl ?_
  refine v_aload_n (n := 6) dX0_moveSkiers_5 rfl rfl ?_
  refine v_getf (n := 9) dX0_moveSkiers_6 rfl fl_X0_39 (zok_2 hb) (rfl) ?_
  refine v_icmp_ge (n := 12) (t := 81) dX0_moveSkiers_9 rfl (by decide) (fun hq => ?_) (fun hq => ?_)
  · replace h := h.1 hq
    refine v_iload_n (n := 82) dX0_moveSkiers_81 rfl rfl ?_
    exact v_iret dX0_moveSkiers_82 rfl (Nat.le_of_ble_eq_true rfl) (Nat.le_of_ble_eq_true rfl) h
  · replace h := h.2 hq
    refine v_aload_n (n := 13) dX0_moveSkiers_12 rfl rfl ?_
    refine v_getf (n := 16) dX0_moveSkiers_13 rfl fl_X0_27 (zok_2 hb) rfl ?_
    refine v_iload_n (n := 17) dX0_moveSkiers_16 rfl rfl ?_
    obtain ⟨hf1, h⟩ := h
    refine v_aald (n := 18) (j := i) dX0_moveSkiers_17 rfl (zok_22 hb) (by decide) rfl rfl hf1 rfl ?_
    refine v_astore_n (n := 19) (L' := [(0, .ref (zad G.1 2 b 0)), (1, .int y1), (2, .int (nI i)), (3, .ref (zad G.1 3 b i))]) dX0_moveSkiers_18 rfl (by decide) rfl ?_
    refine v_aload_n (n := 20) dX0_moveSkiers_19 rfl rfl ?_
    refine v_getf (n := 23) dX0_moveSkiers_20 rfl fl_X0_95 (zok_3 hb hf1) (rfl) ?_
    refine v_iconst (n := 24) (x := nI 3) dX0_moveSkiers_23 rfl (by decide) ?_
    refine v_icmp_ne (n := 27) (t := 38) dX0_moveSkiers_24 rfl (by decide) (fun hq => ?_) (fun hq => ?_)
    · replace h := h.1 hq
      refine v_null (n := 39) dX0_moveSkiers_38 rfl ?_
      refine v_astoreN (n := 41) (L' := [(0, .ref (zad G.1 2 b 0)), (1, .int y1), (2, .int (nI i)), (3, .ref (zad G.1 3 b i)), (4, .null)]) dX0_moveSkiers_39 rfl (by decide) rfl ?_
      refine v_aloadN (n := 43) dX0_moveSkiers_41 rfl rfl ?_
      refine v_ifnullN (n := 75) dX0_moveSkiers_43 (by decide) ?_
      refine v_iinc (n := 78) (x := nI i) (y := nI (i + 1)) (L' := [(0, .ref (zad G.1 2 b 0)), (1, .int y1), (2, .int (nI (i + 1))), (3, .ref (zad G.1 3 b i)), (4, .null)]) dX0_moveSkiers_75 rfl rfl (nI_1 i) (by decide) rfl ?_
      refine v_goto (n := 4) dX0_moveSkiers_78 (by decide) ?_
      exact v_pick [0, 1, 2] rfl h
    · replace h := h.2 hq
      refine v_aload_n (n := 28) dX0_moveSkiers_27 rfl rfl ?_
      refine v_aload_n (n := 29) dX0_moveSkiers_28 rfl rfl ?_
      refine v_getf (n := 32) dX0_moveSkiers_29 rfl fl_X0_107 (zok_3 hb hf1) (rfl) ?_
      obtain ⟨hf2, h⟩ := h
      refine v_callV (n := 35) (k := 2) (b := b) (i := 0) (As := [.int (μ 3 b i 5)]) (rest := []) dX0_moveSkiers_32 rfl lk_X0_170 rfl rfl (Nat.le_of_ble_eq_true rfl) ⟨Nat.le_of_ble_eq_true rfl, Nat.le_of_ble_eq_true rfl, Nat.le_of_ble_eq_true rfl, Nat.le_of_ble_eq_true rfl⟩ (zok_2 hb) (s_X0_pisteAt G b hb (μ 3 b i 5) μ hf2) (fun v μ9 hp => ?_) (fun _ _ hp => False.elim hp)
      rcases hp with ⟨hq, hv, hm⟩ | ⟨i1, hi1, hq, hq2, hv, hm⟩
      · replace h := h.1 hq
        rw [hv, hm]
        refine v_norm (st' := [.null]) (cells' := 0) (slots' := 0) rfl rfl rfl ?_
        refine v_goto (n := 39) dX0_moveSkiers_35 (by decide) ?_
        refine v_astoreN (n := 41) (L' := [(0, .ref (zad G.1 2 b 0)), (1, .int y1), (2, .int (nI i)), (3, .ref (zad G.1 3 b i)), (4, .null)]) dX0_moveSkiers_39 rfl (by decide) rfl ?_
        refine v_aloadN (n := 43) dX0_moveSkiers_41 rfl rfl ?_
        refine v_ifnullN (n := 75) dX0_moveSkiers_43 (by decide) ?_
        refine v_iinc (n := 78) (x := nI i) (y := nI (i + 1)) (L' := [(0, .ref (zad G.1 2 b 0)), (1, .int y1), (2, .int (nI (i + 1))), (3, .ref (zad G.1 3 b i)), (4, .null)]) dX0_moveSkiers_75 rfl rfl (nI_1 i) (by decide) rfl ?_
        refine v_goto (n := 4) dX0_moveSkiers_78 (by decide) ?_
        exact v_pick [0, 1, 2] rfl h
      · replace h := h.2 i1 hi1 hq hq2
        rw [hv, hm]
        refine v_norm (st' := [.ref (zad G.1 7 b i1)]) (cells' := 0) (slots' := 0) rfl rfl rfl ?_
        refine v_goto (n := 39) dX0_moveSkiers_35 (by decide) ?_
        refine v_astore (n := 41) (L' := [(0, .ref (zad G.1 2 b 0)), (1, .int y1), (2, .int (nI i)), (3, .ref (zad G.1 3 b i)), (4, .ref (zad G.1 7 b i1))]) dX0_moveSkiers_39 rfl (by decide) rfl ?_
        refine v_aload (n := 43) dX0_moveSkiers_41 rfl rfl ?_
        refine v_ifnull (n := 46) dX0_moveSkiers_43 rfl ?_
        refine v_aload_n (n := 47) dX0_moveSkiers_46 rfl rfl ?_
        refine v_dup (n := 48) dX0_moveSkiers_47 rfl rfl ?_
        refine v_getf (n := 51) dX0_moveSkiers_48 rfl fl_X0_148 (zok_3 hb hf1) (rfl) ?_
        refine v_iconst (n := 52) (x := nI 1) dX0_moveSkiers_51 rfl (by decide) ?_
        refine v_isub (n := 53) dX0_moveSkiers_52 rfl ?_
        refine v_putf (n := 56) dX0_moveSkiers_53 rfl fw_X0_148 (zok_3 hb hf1) (fun _ => rfl) rfl rfl ?_
        refine v_aload_n (n := 57) dX0_moveSkiers_56 rfl rfl ?_
        refine v_getf (n := 60) dX0_moveSkiers_57 rfl fl_X0_148 (zok_3 hb hf1) (congrArg Value.int (up_self _ _ _ _ _ _)) ?_
        refine v_if_gt (n := 63) (t := 75) dX0_moveSkiers_60 rfl (by decide) (fun hq => ?_) (fun hq => ?_)
        · replace h := h.1 hq
          refine v_iinc (n := 78) (x := nI i) (y := nI (i + 1)) (L' := [(0, .ref (zad G.1 2 b 0)), (1, .int y1), (2, .int (nI (i + 1))), (3, .ref (zad G.1 3 b i)), (4, .ref (zad G.1 7 b i1))]) dX0_moveSkiers_75 rfl rfl (nI_1 i) (by decide) rfl ?_
          refine v_goto (n := 4) dX0_moveSkiers_78 (by decide) ?_
          exact v_pick [0, 1, 2] rfl h
        · replace h := h.2 hq
          refine v_aload_n (n := 64) dX0_moveSkiers_63 rfl rfl ?_
          refine v_aload (n := 66) dX0_moveSkiers_64 rfl rfl ?_
          refine v_getf (n := 69) dX0_moveSkiers_66 rfl fl_X0_174 (zok_7 hb hi1) (congrArg Value.int (up_k (by decide))) ?_
          refine v_callV (n := 72) (k := 3) (b := b) (i := i) (As := [.int (μ 7 b i1 1)]) (rest := []) dX0_moveSkiers_69 rfl lk_X0_128 rfl rfl (Nat.le_of_ble_eq_true rfl) ⟨Nat.le_of_ble_eq_true rfl, Nat.le_of_ble_eq_true rfl, Nat.le_of_ble_eq_true rfl, Nat.le_of_ble_eq_true rfl⟩ (zok_3 hb hf1) (s_X1_standAt G b hb i hf1 (μ 7 b i1 1) (up μ 3 b i 6 ((μ 3 b i 6) - (nI 1)))) (fun v μ9 hp => ?_) (fun _ _ hp => False.elim hp)
          rw [hp.1, hp.2]
          refine v_norm (st' := []) (cells' := 0) (slots' := 0) rfl rfl rfl ?_
          refine v_iinc (n := 75) (x := y1) (y := y1 + 1) (L' := [(0, .ref (zad G.1 2 b 0)), (1, .int (y1 + 1)), (2, .int (nI i)), (3, .ref (zad G.1 3 b i)), (4, .ref (zad G.1 7 b i1))]) dX0_moveSkiers_72 rfl rfl rfl (by decide) rfl ?_
          refine v_iinc (n := 78) (x := nI i) (y := nI (i + 1)) (L' := [(0, .ref (zad G.1 2 b 0)), (1, .int (y1 + 1)), (2, .int (nI (i + 1))), (3, .ref (zad G.1 3 b i)), (4, .ref (zad G.1 7 b i1))]) dX0_moveSkiers_75 rfl rfl (nI_1 i) (by decide) rfl ?_
          refine v_goto (n := 4) dX0_moveSkiers_78 (by decide) ?_
          exact v_pick [0, 1, 2] rfl h

set_option maxRecDepth 20000 in
set_option maxHeartbeats 4000000 in
theorem wX0_passTicks (G : Gl) {P : Option Value → St → Prop} {X : String → St → Prop} (b : Nat) (hb : b < 11) (x1 : Int32) (μ : St)
    (h : VL G mX0_passTicks P X 4 [(0, .ref (zad G.1 2 b 0)), (1, .int x1), (2, .int (nI 0)), (3, .int (nI 0))] [] μ) :
    Con G mX0_passTicks [.ref (zad G.1 2 b 0), .int x1] μ P X := by
  refine con_of pn_X0 rfl (Nat.le_of_ble_eq_true rfl) ?_
  show VL G mX0_passTicks P X 0 [(0, .ref (zad G.1 2 b 0)), (1, .int x1)] [] μ
  refine v_iconst (n := 1) (x := nI 0) dX0_passTicks_0 rfl (by decide) ?_
  refine v_istore_n (n := 2) (L' := [(0, .ref (zad G.1 2 b 0)), (1, .int x1), (2, .int (nI 0))]) dX0_passTicks_1 rfl (by decide) rfl ?_
  refine v_iconst (n := 3) (x := nI 0) dX0_passTicks_2 rfl (by decide) ?_
  refine v_istore_n (n := 4) (L' := [(0, .ref (zad G.1 2 b 0)), (1, .int x1), (2, .int (nI 0)), (3, .int (nI 0))]) dX0_passTicks_3 rfl (by decide) rfl ?_
  exact h

set_option maxRecDepth 20000 in
set_option maxHeartbeats 4000000 in
theorem wX0_passTicks_4 (G : Gl) {P : Option Value → St → Prop} {X : String → St → Prop} (b : Nat) (hb : b < 11) (x1 : Int32) (y2 : Int32) (i : Nat) (μ : St)
    (h : ((x1 ≤ nI i → P (some (.int y2)) μ) ∧ (¬ x1 ≤ nI i → Con G mX0_moveRiders [.ref (zad G.1 2 b 0)] μ (fun v μ1 => ∃ r1 : Int32, v = some (.int r1) ∧ Con G mX0_moveSkiers [.ref (zad G.1 2 b 0)] μ1 (fun v μ2 => ∃ r2 : Int32, v = some (.int r2) ∧ Con G mX0_turnLifts [.ref (zad G.1 2 b 0)] μ2 (fun v μ3 => v = none ∧ Con G mX0_groomPistes [.ref (zad G.1 2 b 0)] μ3 (fun v μ4 => v = none ∧ Con G mX0_closeWornPistes [.ref (zad G.1 2 b 0)] μ4 (fun v μ5 => v = none ∧ VL G mX0_passTicks P X 4 [(0, .ref (zad G.1 2 b 0)), (1, .int x1), (2, .int ((y2 + r1) + r2)), (3, .int (nI (i + 1)))] [] (up μ5 2 b 0 7 ((μ5 2 b 0 7) + (nI 1)))) noX) noX) noX) noX) noX))) :
    VL G mX0_passTicks P X 4 [(0, .ref (zad G.1 2 b 0)), (1, .int x1), (2, .int y2), (3, .int (nI i))] [] μ := by
  refine v_iload_n (n := 5) dX0_passTicks_4 rfl rfl ?_
  refine v_iload_n (n := 6) dX0_passTicks_5 rfl rfl ?_
  refine v_icmp_ge (n := 9) (t := 51) dX0_passTicks_6 rfl (by decide) (fun hq => ?_) (fun hq => ?_)
  · replace h := h.1 hq
    refine v_iload_n (n := 52) dX0_passTicks_51 rfl rfl ?_
    exact v_iret dX0_passTicks_52 rfl (Nat.le_of_ble_eq_true rfl) (Nat.le_of_ble_eq_true rfl) h
  · replace h := h.2 hq
    refine v_iload_n (n := 10) dX0_passTicks_9 rfl rfl ?_
    refine v_aload_n (n := 11) dX0_passTicks_10 rfl rfl ?_
    refine v_callV (n := 14) (k := 2) (b := b) (i := 0) (As := []) (rest := [.int y2]) dX0_passTicks_11 rfl lk_X0_151 rfl rfl (Nat.le_of_ble_eq_true rfl) ⟨Nat.le_of_ble_eq_true rfl, Nat.le_of_ble_eq_true rfl, Nat.le_of_ble_eq_true rfl, Nat.le_of_ble_eq_true rfl⟩ (zok_2 hb) h (fun v μ1 h => ?_) (fun _ _ hp => False.elim hp)
    obtain ⟨r1, rfl, h⟩ := h
    refine v_norm (st' := [.int r1, .int y2]) (cells' := 0) (slots' := 0) rfl rfl rfl ?_
    refine v_iadd (n := 15) dX0_passTicks_14 rfl ?_
    refine v_istore_n (n := 16) (L' := [(0, .ref (zad G.1 2 b 0)), (1, .int x1), (2, .int (y2 + r1)), (3, .int (nI i))]) dX0_passTicks_15 rfl (by decide) rfl ?_
    refine v_iload_n (n := 17) dX0_passTicks_16 rfl rfl ?_
    refine v_aload_n (n := 18) dX0_passTicks_17 rfl rfl ?_
    refine v_callV (n := 21) (k := 2) (b := b) (i := 0) (As := []) (rest := [.int (y2 + r1)]) dX0_passTicks_18 rfl lk_X0_155 rfl rfl (Nat.le_of_ble_eq_true rfl) ⟨Nat.le_of_ble_eq_true rfl, Nat.le_of_ble_eq_true rfl, Nat.le_of_ble_eq_true rfl, Nat.le_of_ble_eq_true rfl⟩ (zok_2 hb) h (fun v μ2 h => ?_) (fun _ _ hp => False.elim hp)
    obtain ⟨r2, rfl, h⟩ := h
    refine v_norm (st' := [.int r2, .int (y2 + r1)]) (cells' := 0) (slots' := 0) rfl rfl rfl ?_
    refine v_iadd (n := 22) dX0_passTicks_21 rfl ?_
    refine v_istore_n (n := 23) (L' := [(0, .ref (zad G.1 2 b 0)), (1, .int x1), (2, .int ((y2 + r1) + r2)), (3, .int (nI i))]) dX0_passTicks_22 rfl (by decide) rfl ?_
    refine v_aload_n (n := 24) dX0_passTicks_23 rfl rfl ?_
    refine v_callV (n := 27) (k := 2) (b := b) (i := 0) (As := []) (rest := []) dX0_passTicks_24 rfl lk_X0_158 rfl rfl (Nat.le_of_ble_eq_true rfl) ⟨Nat.le_of_ble_eq_true rfl, Nat.le_of_ble_eq_true rfl, Nat.le_of_ble_eq_true rfl, Nat.le_of_ble_eq_true rfl⟩ (zok_2 hb) h (fun v μ3 h => ?_) (fun _ _ hp => False.elim hp)
    obtain ⟨rfl, h⟩ := h
    refine v_norm (st' := []) (cells' := 0) (slots' := 0) rfl rfl rfl ?_
    refine v_aload_n (n := 28) dX0_passTicks_27 rfl rfl ?_
    refine v_callV (n := 31) (k := 2) (b := b) (i := 0) (As := []) (rest := []) dX0_passTicks_28 rfl lk_X0_161 rfl rfl (Nat.le_of_ble_eq_true rfl) ⟨Nat.le_of_ble_eq_true rfl, Nat.le_of_ble_eq_true rfl, Nat.le_of_ble_eq_true rfl, Nat.le_of_ble_eq_true rfl⟩ (zok_2 hb) h (fun v μ4 h => ?_) (fun _ _ hp => False.elim hp)
    obtain ⟨rfl, h⟩ := h
    refine v_norm (st' := []) (cells' := 0) (slots' := 0) rfl rfl rfl ?_
    refine v_aload_n (n := 32) dX0_passTicks_31 rfl rfl ?_
    refine v_callV (n := 35) (k := 2) (b := b) (i := 0) (As := []) (rest := []) dX0_passTicks_32 rfl lk_X0_164 rfl rfl (Nat.le_of_ble_eq_true rfl) ⟨Nat.le_of_ble_eq_true rfl, Nat.le_of_ble_eq_true rfl, Nat.le_of_ble_eq_true rfl, Nat.le_of_ble_eq_true rfl⟩ (zok_2 hb) h (fun v μ5 h => ?_) (fun _ _ hp => False.elim hp)
    obtain ⟨rfl, h⟩ := h
    refine v_norm (st' := []) (cells' := 0) (slots' := 0) rfl rfl rfl ?_
    refine v_aload_n (n := 36) dX0_passTicks_35 rfl rfl ?_
    refine v_dup (n := 37) dX0_passTicks_36 rfl rfl ?_
    refine v_getf (n := 40) dX0_passTicks_37 rfl fl_X0_45 (zok_2 hb) (rfl) ?_
    refine v_iconst (n := 41) (x := nI 1) dX0_passTicks_40 rfl (by decide) ?_
    refine v_iadd (n := 42) dX0_passTicks_41 rfl ?_
    refine v_putf (n := 45) dX0_passTicks_42 rfl fw_X0_45 (zok_2 hb) (fun _ => rfl) rfl rfl ?_
    refine v_iinc (n := 48) (x := nI i) (y := nI (i + 1)) (L' := [(0, .ref (zad G.1 2 b 0)), (1, .int x1), (2, .int ((y2 + r1) + r2)), (3, .int (nI (i + 1)))]) dX0_passTicks_45 rfl rfl (nI_1 i) (by decide) rfl ?_
    refine v_goto (n := 4) dX0_passTicks_48 (by decide) ?_
    exact h

set_option maxRecDepth 20000 in
set_option maxHeartbeats 4000000 in
theorem wX0_turnLifts (G : Gl) {P : Option Value → St → Prop} {X : String → St → Prop} (b : Nat) (hb : b < 11) (μ : St)
    (h : VL G mX0_turnLifts P X 2 [(0, .ref (zad G.1 2 b 0)), (1, .int (nI 0))] [] μ) :
    Con G mX0_turnLifts [.ref (zad G.1 2 b 0)] μ P X := by
  refine con_of pn_X0 rfl (Nat.le_of_ble_eq_true rfl) ?_
  show VL G mX0_turnLifts P X 0 [(0, .ref (zad G.1 2 b 0))] [] μ
  refine v_iconst (n := 1) (x := nI 0) dX0_turnLifts_0 rfl (by decide) ?_
  refine v_istore_n (n := 2) (L' := [(0, .ref (zad G.1 2 b 0)), (1, .int (nI 0))]) dX0_turnLifts_1 rfl (by decide) rfl ?_
  exact h

set_option maxRecDepth 20000 in
set_option maxHeartbeats 4000000 in
theorem wX0_turnLifts_2 (G : Gl) {P : Option Value → St → Prop} {X : String → St → Prop} (b : Nat) (hb : b < 11) (i : Nat) (μ : St)
    (h : ((μ 2 b 0 3 ≤ nI i → P none μ) ∧ (¬ μ 2 b 0 3 ≤ nI i → i < 6 ∧ ((0 < stc (up μ 6 b i 7 ((μ 6 b i 7) + (spo μ b i))) b i (nI 1) → VL G mX0_turnLifts P X 2 [(0, .ref (zad G.1 2 b 0)), (1, .int (nI (i + 1)))] [] (up μ 6 b i 7 ((μ 6 b i 7) + (spo μ b i)))) ∧ (¬ 0 < stc (up μ 6 b i 7 ((μ 6 b i 7) + (spo μ b i))) b i (nI 1) → Con G mX0_boardCabin [.ref (zad G.1 2 b 0), .ref (zad G.1 6 b i), .int (nI i)] (up (up (up μ 6 b i 7 ((μ 6 b i 7) + (spo μ b i))) 6 b i 7 (((μ 6 b i 7) + (spo μ b i)) - ((nI 2) * (μ 6 b i 3)))) 6 b i 9 ((μ 6 b i 9) + (nI 1))) (fun v μ1 => v = none ∧ VL G mX0_turnLifts P X 2 [(0, .ref (zad G.1 2 b 0)), (1, .int (nI (i + 1)))] [] μ1) noX))))) :
    VL G mX0_turnLifts P X 2 [(0, .ref (zad G.1 2 b 0)), (1, .int (nI i))] [] μ := by
  refine v_iload_n (n := 3) dX0_turnLifts_2 rfl rfl ?_
  refine v_aload_n (n := 4) dX0_turnLifts_3 rfl rfl ?_
  refine v_getf (n := 7) dX0_turnLifts_4 rfl fl_X0_32 (zok_2 hb) (rfl) ?_
  refine v_icmp_ge (n := 10) (t := 76) dX0_turnLifts_7 rfl (by decide) (fun hq => ?_) (fun hq => ?_)
  · replace h := h.1 hq
    exact v_vret dX0_turnLifts_76 rfl (Nat.le_of_ble_eq_true rfl) (Nat.le_of_ble_eq_true rfl) h
  · replace h := h.2 hq
    refine v_aload_n (n := 11) dX0_turnLifts_10 rfl rfl ?_
    refine v_getf (n := 14) dX0_turnLifts_11 rfl fl_X0_11 (zok_2 hb) rfl ?_
    refine v_iload_n (n := 15) dX0_turnLifts_14 rfl rfl ?_
    obtain ⟨hf1, h⟩ := h
    refine v_aald (n := 16) (j := i) dX0_turnLifts_15 rfl (zok_20 hb) (by decide) rfl rfl hf1 rfl ?_
    refine v_astore_n (n := 17) (L' := [(0, .ref (zad G.1 2 b 0)), (1, .int (nI i)), (2, .ref (zad G.1 6 b i))]) dX0_turnLifts_16 rfl (by decide) rfl ?_
    refine v_aload_n (n := 18) dX0_turnLifts_17 rfl rfl ?_
    refine v_dup (n := 19) dX0_turnLifts_18 rfl rfl ?_
    refine v_getf (n := 22) dX0_turnLifts_19 rfl fl_X0_177 (zok_6 hb hf1) (rfl) ?_
    refine v_aload_n (n := 23) dX0_turnLifts_22 rfl rfl ?_
    refine v_aload_n (n := 24) dX0_turnLifts_23 rfl rfl ?_
    refine v_callV (n := 27) (k := 2) (b := b) (i := 0) (As := [.ref (zad G.1 6 b i)]) (rest := [.int (μ 6 b i 7), .ref (zad G.1 6 b i)]) dX0_turnLifts_24 rfl lk_X0_64 rfl rfl (Nat.le_of_ble_eq_true rfl) ⟨Nat.le_of_ble_eq_true rfl, Nat.le_of_ble_eq_true rfl, Nat.le_of_ble_eq_true rfl, Nat.le_of_ble_eq_true rfl⟩ (zok_2 hb) (s_X0_speedOf G b hb i hf1 μ) (fun v μ9 hp => ?_) (fun _ _ hp => False.elim hp)
    rw [hp.1, hp.2]
    refine v_norm (st' := [.int (spo μ b i), .int (μ 6 b i 7), .ref (zad G.1 6 b i)]) (cells' := 0) (slots' := 0) rfl rfl rfl ?_
    refine v_iadd (n := 28) dX0_turnLifts_27 rfl ?_
    refine v_putf (n := 31) dX0_turnLifts_28 rfl fw_X0_177 (zok_6 hb hf1) (fun _ => rfl) rfl rfl ?_
    refine v_aload_n (n := 32) dX0_turnLifts_31 rfl rfl ?_
    refine v_iconst (n := 33) (x := nI 1) dX0_turnLifts_32 rfl (by decide) ?_
    refine v_callV (n := 36) (k := 6) (b := b) (i := i) (As := [.int (nI 1)]) (rest := []) dX0_turnLifts_33 rfl lk_X0_180 rfl rfl (Nat.le_of_ble_eq_true rfl) ⟨Nat.le_of_ble_eq_true rfl, Nat.le_of_ble_eq_true rfl, Nat.le_of_ble_eq_true rfl, Nat.le_of_ble_eq_true rfl⟩ (zok_6 hb hf1) (s_X4_stepsToCabin G b hb i hf1 (nI 1) (up μ 6 b i 7 ((μ 6 b i 7) + (spo μ b i)))) (fun v μ9 hp => ?_) (fun _ _ hp => False.elim hp)
    rw [hp.1, hp.2]
    refine v_norm (st' := [.int (stc (up μ 6 b i 7 ((μ 6 b i 7) + (spo μ b i))) b i (nI 1))]) (cells' := 0) (slots' := 0) rfl rfl rfl ?_
    refine v_if_gt (n := 39) (t := 70) dX0_turnLifts_36 rfl (by decide) (fun hq => ?_) (fun hq => ?_)
    · replace h := h.1 hq
      refine v_iinc (n := 73) (x := nI i) (y := nI (i + 1)) (L' := [(0, .ref (zad G.1 2 b 0)), (1, .int (nI (i + 1))), (2, .ref (zad G.1 6 b i))]) dX0_turnLifts_70 rfl rfl (nI_1 i) (by decide) rfl ?_
      refine v_goto (n := 2) dX0_turnLifts_73 (by decide) ?_
      exact v_pick [0, 1] rfl h
    · replace h := h.2 hq
      refine v_aload_n (n := 40) dX0_turnLifts_39 rfl rfl ?_
      refine v_dup (n := 41) dX0_turnLifts_40 rfl rfl ?_
      refine v_getf (n := 44) dX0_turnLifts_41 rfl fl_X0_177 (zok_6 hb hf1) (congrArg Value.int (up_self _ _ _ _ _ _)) ?_
      refine v_iconst (n := 45) (x := nI 2) dX0_turnLifts_44 rfl (by decide) ?_
      refine v_aload_n (n := 46) dX0_turnLifts_45 rfl rfl ?_
      refine v_getf (n := 49) dX0_turnLifts_46 rfl fl_X0_184 (zok_6 hb hf1) (congrArg Value.int (up_sl (by decide))) ?_
      refine v_imul (n := 50) dX0_turnLifts_49 rfl ?_
      refine v_isub (n := 51) dX0_turnLifts_50 rfl ?_
      refine v_putf (n := 54) dX0_turnLifts_51 rfl fw_X0_177 (zok_6 hb hf1) (fun _ => rfl) rfl rfl ?_
      refine v_aload_n (n := 55) dX0_turnLifts_54 rfl rfl ?_
      refine v_dup (n := 56) dX0_turnLifts_55 rfl rfl ?_
      refine v_getf (n := 59) dX0_turnLifts_56 rfl fl_X0_187 (zok_6 hb hf1) (congrArg Value.int ((up_sl (by decide)).trans (up_sl (by decide)))) ?_
      refine v_iconst (n := 60) (x := nI 1) dX0_turnLifts_59 rfl (by decide) ?_
      refine v_iadd (n := 61) dX0_turnLifts_60 rfl ?_
      refine v_putf (n := 64) dX0_turnLifts_61 rfl fw_X0_187 (zok_6 hb hf1) (fun _ => rfl) rfl rfl ?_
      refine v_aload_n (n := 65) dX0_turnLifts_64 rfl rfl ?_
      refine v_aload_n (n := 66) dX0_turnLifts_65 rfl rfl ?_
      refine v_iload_n (n := 67) dX0_turnLifts_66 rfl rfl ?_
      refine v_callV (n := 70) (k := 2) (b := b) (i := 0) (As := [.ref (zad G.1 6 b i), .int (nI i)]) (rest := []) dX0_turnLifts_67 rfl lk_X0_190 rfl rfl (Nat.le_of_ble_eq_true rfl) ⟨Nat.le_of_ble_eq_true rfl, Nat.le_of_ble_eq_true rfl, Nat.le_of_ble_eq_true rfl, Nat.le_of_ble_eq_true rfl⟩ (zok_2 hb) h (fun v μ1 h => ?_) (fun _ _ hp => False.elim hp)
      obtain ⟨rfl, h⟩ := h
      refine v_norm (st' := []) (cells' := 0) (slots' := 0) rfl rfl rfl ?_
      refine v_iinc (n := 73) (x := nI i) (y := nI (i + 1)) (L' := [(0, .ref (zad G.1 2 b 0)), (1, .int (nI (i + 1))), (2, .ref (zad G.1 6 b i))]) dX0_turnLifts_70 rfl rfl (nI_1 i) (by decide) rfl ?_
      refine v_goto (n := 2) dX0_turnLifts_73 (by decide) ?_
      exact v_pick [0, 1] rfl h

set_option maxRecDepth 20000 in
set_option maxHeartbeats 4000000 in
theorem wX0_welcome (G : Gl) {P : Option Value → St → Prop} {X : String → St → Prop} (b : Nat) (hb : b < 11) (x1 : Int32) (x2 : Int32) (x3 : Int32) (x4 : Int32) (x5 : Int32) (μ : St)
    (h : ((μ 2 b 0 5 < nI 16 → ∃ j1 : Nat, μ 2 b 0 5 = nI j1 ∧ j1 < 16 ∧ Con G mX1_begin [.ref (zad G.1 3 b j1), .int x1, .int x2, .int x3, .int x4, .int x5] μ (fun v μ1 => v = none ∧ P (some (.int (((μ1 2 b 0 5) + (nI 1)) - (nI 1)))) (up μ1 2 b 0 5 ((μ1 2 b 0 5) + (nI 1)))) noX) ∧ (¬ μ 2 b 0 5 < nI 16 → P (some (.int (-1 : Int32))) μ))) :
    Con G mX0_welcome [.ref (zad G.1 2 b 0), .int x1, .int x2, .int x3, .int x4, .int x5] μ P X := by
  refine con_of pn_X0 rfl (Nat.le_of_ble_eq_true rfl) ?_
  show VL G mX0_welcome P X 0 [(0, .ref (zad G.1 2 b 0)), (1, .int x1), (2, .int x2), (3, .int x3), (4, .int x4), (5, .int x5)] [] μ
  refine v_aload_n (n := 1) dX0_welcome_0 rfl rfl ?_
  refine v_getf (n := 4) dX0_welcome_1 rfl fl_X0_39 (zok_2 hb) (rfl) ?_
  refine v_bipush (n := 6) (x := nI 16) dX0_welcome_4 rfl (by decide) ?_
  refine v_icmp_lt (n := 9) (t := 11) dX0_welcome_6 rfl (by decide) (fun hq => ?_) (fun hq => ?_)
  · replace h := h.1 hq
    refine v_aload_n (n := 12) dX0_welcome_11 rfl rfl ?_
    refine v_getf (n := 15) dX0_welcome_12 rfl fl_X0_27 (zok_2 hb) rfl ?_
    refine v_aload_n (n := 16) dX0_welcome_15 rfl rfl ?_
    refine v_getf (n := 19) dX0_welcome_16 rfl fl_X0_39 (zok_2 hb) (rfl) ?_
    obtain ⟨j1, ej1, hj1, h⟩ := h
    refine v_aald (n := 20) (j := j1) dX0_welcome_19 rfl (zok_22 hb) (by decide) rfl ej1 hj1 rfl ?_
    refine v_iload_n (n := 21) dX0_welcome_20 rfl rfl ?_
    refine v_iload_n (n := 22) dX0_welcome_21 rfl rfl ?_
    refine v_iload_n (n := 23) dX0_welcome_22 rfl rfl ?_
    refine v_iload (n := 25) dX0_welcome_23 rfl rfl ?_
    refine v_iload (n := 27) dX0_welcome_25 rfl rfl ?_
    refine v_callV (n := 30) (k := 3) (b := b) (i := j1) (As := [.int x1, .int x2, .int x3, .int x4, .int x5]) (rest := []) dX0_welcome_27 rfl lk_X0_103 rfl rfl (Nat.le_of_ble_eq_true rfl) ⟨Nat.le_of_ble_eq_true rfl, Nat.le_of_ble_eq_true rfl, Nat.le_of_ble_eq_true rfl, Nat.le_of_ble_eq_true rfl⟩ (zok_3 hb hj1) h (fun v μ1 h => ?_) (fun _ _ hp => False.elim hp)
    obtain ⟨rfl, h⟩ := h
    refine v_norm (st' := []) (cells' := 0) (slots' := 0) rfl rfl rfl ?_
    refine v_aload_n (n := 31) dX0_welcome_30 rfl rfl ?_
    refine v_dup (n := 32) dX0_welcome_31 rfl rfl ?_
    refine v_getf (n := 35) dX0_welcome_32 rfl fl_X0_39 (zok_2 hb) (rfl) ?_
    refine v_iconst (n := 36) (x := nI 1) dX0_welcome_35 rfl (by decide) ?_
    refine v_iadd (n := 37) dX0_welcome_36 rfl ?_
    refine v_putf (n := 40) dX0_welcome_37 rfl fw_X0_39 (zok_2 hb) (fun _ => rfl) rfl rfl ?_
    refine v_aload_n (n := 41) dX0_welcome_40 rfl rfl ?_
    refine v_getf (n := 44) dX0_welcome_41 rfl fl_X0_39 (zok_2 hb) (congrArg Value.int (up_self _ _ _ _ _ _)) ?_
    refine v_iconst (n := 45) (x := nI 1) dX0_welcome_44 rfl (by decide) ?_
    refine v_isub (n := 46) dX0_welcome_45 rfl ?_
    exact v_iret dX0_welcome_46 rfl (Nat.le_of_ble_eq_true rfl) (Nat.le_of_ble_eq_true rfl) h
  · replace h := h.2 hq
    refine v_iconst (n := 10) (x := (-1 : Int32)) dX0_welcome_9 rfl (by decide) ?_
    exact v_iret dX0_welcome_10 rfl (Nat.le_of_ble_eq_true rfl) (Nat.le_of_ble_eq_true rfl) h

set_option maxRecDepth 20000 in
set_option maxHeartbeats 4000000 in
theorem wX0_queueRefusal (G : Gl) {P : Option Value → St → Prop} {X : String → St → Prop} (b : Nat) (hb : b < 11) (g : Nat) (hg : g < 16) (l : Nat) (hl : l < 6) (x3 : Int32) (μ : St)
    (h : ((μ 3 b g 4 = 0 → ((μ 3 b g 5 = μ 6 b l 0 → ((iop μ b g l = true → ((ihd μ b l = false → Con G mX0_guestsWith [.ref (zad G.1 2 b 0), .int (nI 1), .int x3] μ (fun v μ1 => ∃ r1 : Int32, v = some (.int r1) ∧ ((r1 < nI 10 → P (some (.int (nI 0))) μ1) ∧ (¬ r1 < nI 10 → P (some (.int (nI 5))) μ1))) noX) ∧ (ihd μ b l = true → P (some (.int (nI 4))) μ))) ∧ (iop μ b g l = false → P (some (.int (nI 3))) μ))) ∧ (¬ μ 3 b g 5 = μ 6 b l 0 → P (some (.int (nI 2))) μ))) ∧ (¬ μ 3 b g 4 = 0 → P (some (.int (nI 1))) μ))) :
    Con G mX0_queueRefusal [.ref (zad G.1 2 b 0), .ref (zad G.1 3 b g), .ref (zad G.1 6 b l), .int x3] μ P X := by
  refine con_of pn_X0 rfl (Nat.le_of_ble_eq_true rfl) ?_
  show VL G mX0_queueRefusal P X 0 [(0, .ref (zad G.1 2 b 0)), (1, .ref (zad G.1 3 b g)), (2, .ref (zad G.1 6 b l)), (3, .int x3)] [] μ
  refine v_aload_n (n := 1) dX0_queueRefusal_0 rfl rfl ?_
  refine v_getf (n := 4) dX0_queueRefusal_1 rfl fl_X0_95 (zok_3 hb hg) (rfl) ?_
  refine v_if_eq (n := 7) (t := 9) dX0_queueRefusal_4 rfl (by decide) (fun hq => ?_) (fun hq => ?_)
  · replace h := h.1 hq
    refine v_aload_n (n := 10) dX0_queueRefusal_9 rfl rfl ?_
    refine v_getf (n := 13) dX0_queueRefusal_10 rfl fl_X0_107 (zok_3 hb hg) (rfl) ?_
    refine v_aload_n (n := 14) dX0_queueRefusal_13 rfl rfl ?_
    refine v_getf (n := 17) dX0_queueRefusal_14 rfl fl_X0_110 (zok_6 hb hl) (rfl) ?_
    refine v_icmp_eq (n := 20) (t := 22) dX0_queueRefusal_17 rfl (by decide) (fun hq => ?_) (fun hq => ?_)
    · replace h := h.1 hq
      refine v_aload_n (n := 23) dX0_queueRefusal_22 rfl rfl ?_
      refine v_aload_n (n := 24) dX0_queueRefusal_23 rfl rfl ?_
      refine v_aload_n (n := 25) dX0_queueRefusal_24 rfl rfl ?_
      refine v_callV (n := 28) (k := 2) (b := b) (i := 0) (As := [.ref (zad G.1 3 b g), .ref (zad G.1 6 b l)]) (rest := []) dX0_queueRefusal_25 rfl lk_X0_80 rfl rfl (Nat.le_of_ble_eq_true rfl) ⟨Nat.le_of_ble_eq_true rfl, Nat.le_of_ble_eq_true rfl, Nat.le_of_ble_eq_true rfl, Nat.le_of_ble_eq_true rfl⟩ (zok_2 hb) (s_X0_isOpenedFor G b hb g hg l hl μ) (fun v μ9 hp => ?_) (fun _ _ hp => False.elim hp)
      rw [hp.1, hp.2]
      refine v_norm (st' := [.int (bI (iop μ b g l))]) (cells' := 0) (slots' := 0) rfl rfl rfl ?_
      refine v_if_ne (n := 31) (t := 33) dX0_queueRefusal_28 rfl (by decide) (fun hq => ?_) (fun hq => ?_)
      · replace h := h.1 (bI_nf hq)
        refine v_aload_n (n := 34) dX0_queueRefusal_33 rfl rfl ?_
        refine v_aload_n (n := 35) dX0_queueRefusal_34 rfl rfl ?_
        refine v_callV (n := 38) (k := 2) (b := b) (i := 0) (As := [.ref (zad G.1 6 b l)]) (rest := []) dX0_queueRefusal_35 rfl lk_X0_84 rfl rfl (Nat.le_of_ble_eq_true rfl) ⟨Nat.le_of_ble_eq_true rfl, Nat.le_of_ble_eq_true rfl, Nat.le_of_ble_eq_true rfl, Nat.le_of_ble_eq_true rfl⟩ (zok_2 hb) (s_X0_isHeld G b hb l hl μ) (fun v μ9 hp => ?_) (fun _ _ hp => False.elim hp)
        rw [hp.1, hp.2]
        refine v_norm (st' := [.int (bI (ihd μ b l))]) (cells' := 0) (slots' := 0) rfl rfl rfl ?_
        refine v_if_eq (n := 41) (t := 43) dX0_queueRefusal_38 rfl (by decide) (fun hq => ?_) (fun hq => ?_)
        · replace h := h.1 (bI_f hq)
          refine v_aload_n (n := 44) dX0_queueRefusal_43 rfl rfl ?_
          refine v_iconst (n := 45) (x := nI 1) dX0_queueRefusal_44 rfl (by decide) ?_
          refine v_iload_n (n := 46) dX0_queueRefusal_45 rfl rfl ?_
          refine v_callV (n := 49) (k := 2) (b := b) (i := 0) (As := [.int (nI 1), .int x3]) (rest := []) dX0_queueRefusal_46 rfl lk_X0_113 rfl rfl (Nat.le_of_ble_eq_true rfl) ⟨Nat.le_of_ble_eq_true rfl, Nat.le_of_ble_eq_true rfl, Nat.le_of_ble_eq_true rfl, Nat.le_of_ble_eq_true rfl⟩ (zok_2 hb) h (fun v μ1 h => ?_) (fun _ _ hp => False.elim hp)
          obtain ⟨r1, rfl, h⟩ := h
          refine v_norm (st' := [.int r1]) (cells' := 0) (slots' := 0) rfl rfl rfl ?_
          refine v_bipush (n := 51) (x := nI 10) dX0_queueRefusal_49 rfl (by decide) ?_
          refine v_icmp_lt (n := 54) (t := 58) dX0_queueRefusal_51 rfl (by decide) (fun hq => ?_) (fun hq => ?_)
          · replace h := h.1 hq
            refine v_iconst (n := 59) (x := nI 0) dX0_queueRefusal_58 rfl (by decide) ?_
            exact v_iret dX0_queueRefusal_59 rfl (Nat.le_of_ble_eq_true rfl) (Nat.le_of_ble_eq_true rfl) h
          · replace h := h.2 hq
            refine v_iconst (n := 55) (x := nI 5) dX0_queueRefusal_54 rfl (by decide) ?_
            refine v_goto (n := 59) dX0_queueRefusal_55 (by decide) ?_
            exact v_iret dX0_queueRefusal_59 rfl (Nat.le_of_ble_eq_true rfl) (Nat.le_of_ble_eq_true rfl) h
        · replace h := h.2 (bI_nf hq)
          refine v_iconst (n := 42) (x := nI 4) dX0_queueRefusal_41 rfl (by decide) ?_
          exact v_iret dX0_queueRefusal_42 rfl (Nat.le_of_ble_eq_true rfl) (Nat.le_of_ble_eq_true rfl) h
      · replace h := h.2 (bI_f hq)
        refine v_iconst (n := 32) (x := nI 3) dX0_queueRefusal_31 rfl (by decide) ?_
        exact v_iret dX0_queueRefusal_32 rfl (Nat.le_of_ble_eq_true rfl) (Nat.le_of_ble_eq_true rfl) h
    · replace h := h.2 hq
      refine v_iconst (n := 21) (x := nI 2) dX0_queueRefusal_20 rfl (by decide) ?_
      exact v_iret dX0_queueRefusal_21 rfl (Nat.le_of_ble_eq_true rfl) (Nat.le_of_ble_eq_true rfl) h
  · replace h := h.2 hq
    refine v_iconst (n := 8) (x := nI 1) dX0_queueRefusal_7 rfl (by decide) ?_
    exact v_iret dX0_queueRefusal_8 rfl (Nat.le_of_ble_eq_true rfl) (Nat.le_of_ble_eq_true rfl) h

set_option maxRecDepth 20000 in
set_option maxHeartbeats 4000000 in
theorem wX0_skiRefusal (G : Gl) {P : Option Value → St → Prop} {X : String → St → Prop} (b : Nat) (hb : b < 11) (g : Nat) (hg : g < 16) (pi : Nat) (hpi : pi < 10) (μ : St)
    (h : ((μ 3 b g 4 = 0 → ((μ 3 b g 5 = μ 7 b pi 0 → ((μ 7 b pi 4 = 0 → ((tdf μ b pi g = false → P (some (.int (nI 0))) μ) ∧ (tdf μ b pi g = true → P (some (.int (nI 7))) μ))) ∧ (¬ μ 7 b pi 4 = 0 → P (some (.int (nI 6))) μ))) ∧ (¬ μ 3 b g 5 = μ 7 b pi 0 → P (some (.int (nI 2))) μ))) ∧ (¬ μ 3 b g 4 = 0 → P (some (.int (nI 1))) μ))) :
    Con G mX0_skiRefusal [.ref (zad G.1 2 b 0), .ref (zad G.1 3 b g), .ref (zad G.1 7 b pi)] μ P X := by
  refine con_of pn_X0 rfl (Nat.le_of_ble_eq_true rfl) ?_
  show VL G mX0_skiRefusal P X 0 [(0, .ref (zad G.1 2 b 0)), (1, .ref (zad G.1 3 b g)), (2, .ref (zad G.1 7 b pi))] [] μ
  refine v_aload_n (n := 1) dX0_skiRefusal_0 rfl rfl ?_
  refine v_getf (n := 4) dX0_skiRefusal_1 rfl fl_X0_95 (zok_3 hb hg) (rfl) ?_
  refine v_if_eq (n := 7) (t := 9) dX0_skiRefusal_4 rfl (by decide) (fun hq => ?_) (fun hq => ?_)
  · replace h := h.1 hq
    refine v_aload_n (n := 10) dX0_skiRefusal_9 rfl rfl ?_
    refine v_getf (n := 13) dX0_skiRefusal_10 rfl fl_X0_107 (zok_3 hb hg) (rfl) ?_
    refine v_aload_n (n := 14) dX0_skiRefusal_13 rfl rfl ?_
    refine v_getf (n := 17) dX0_skiRefusal_14 rfl fl_X0_117 (zok_7 hb hpi) (rfl) ?_
    refine v_icmp_eq (n := 20) (t := 22) dX0_skiRefusal_17 rfl (by decide) (fun hq => ?_) (fun hq => ?_)
    · replace h := h.1 hq
      refine v_aload_n (n := 23) dX0_skiRefusal_22 rfl rfl ?_
      refine v_getf (n := 26) dX0_skiRefusal_23 rfl fl_X0_88 (zok_7 hb hpi) (rfl) ?_
      refine v_if_eq (n := 29) (t := 32) dX0_skiRefusal_26 rfl (by decide) (fun hq => ?_) (fun hq => ?_)
      · replace h := h.1 hq
        refine v_aload_n (n := 33) dX0_skiRefusal_32 rfl rfl ?_
        refine v_aload_n (n := 34) dX0_skiRefusal_33 rfl rfl ?_
        refine v_callV (n := 37) (k := 7) (b := b) (i := pi) (As := [.ref (zad G.1 3 b g)]) (rest := []) dX0_skiRefusal_34 rfl lk_X0_91 rfl rfl (Nat.le_of_ble_eq_true rfl) ⟨Nat.le_of_ble_eq_true rfl, Nat.le_of_ble_eq_true rfl, Nat.le_of_ble_eq_true rfl, Nat.le_of_ble_eq_true rfl⟩ (zok_7 hb hpi) (s_X5_isTooDifficultFor G b hb pi hpi g hg μ) (fun v μ9 hp => ?_) (fun _ _ hp => False.elim hp)
        rw [hp.1, hp.2]
        refine v_norm (st' := [.int (bI (tdf μ b pi g))]) (cells' := 0) (slots' := 0) rfl rfl rfl ?_
        refine v_if_eq (n := 40) (t := 45) dX0_skiRefusal_37 rfl (by decide) (fun hq => ?_) (fun hq => ?_)
        · replace h := h.1 (bI_f hq)
          refine v_iconst (n := 46) (x := nI 0) dX0_skiRefusal_45 rfl (by decide) ?_
          exact v_iret dX0_skiRefusal_46 rfl (Nat.le_of_ble_eq_true rfl) (Nat.le_of_ble_eq_true rfl) h
        · replace h := h.2 (bI_nf hq)
          refine v_bipush (n := 42) (x := nI 7) dX0_skiRefusal_40 rfl (by decide) ?_
          refine v_goto (n := 46) dX0_skiRefusal_42 (by decide) ?_
          exact v_iret dX0_skiRefusal_46 rfl (Nat.le_of_ble_eq_true rfl) (Nat.le_of_ble_eq_true rfl) h
      · replace h := h.2 hq
        refine v_bipush (n := 31) (x := nI 6) dX0_skiRefusal_29 rfl (by decide) ?_
        exact v_iret dX0_skiRefusal_31 rfl (Nat.le_of_ble_eq_true rfl) (Nat.le_of_ble_eq_true rfl) h
    · replace h := h.2 hq
      refine v_iconst (n := 21) (x := nI 2) dX0_skiRefusal_20 rfl (by decide) ?_
      exact v_iret dX0_skiRefusal_21 rfl (Nat.le_of_ble_eq_true rfl) (Nat.le_of_ble_eq_true rfl) h
  · replace h := h.2 hq
    refine v_iconst (n := 8) (x := nI 1) dX0_skiRefusal_7 rfl (by decide) ?_
    exact v_iret dX0_skiRefusal_8 rfl (Nat.le_of_ble_eq_true rfl) (Nat.le_of_ble_eq_true rfl) h

set_option maxRecDepth 20000 in
set_option maxHeartbeats 4000000 in
theorem wX0_joinQueue (G : Gl) {P : Option Value → St → Prop} {X : String → St → Prop} (b : Nat) (hb : b < 11) (g : Nat) (hg : g < 16) (x2 : Int32) (μ : St)
    (h : Con G mX0_guestsWith [.ref (zad G.1 2 b 0), .int (nI 1), .int x2] μ (fun v μ1 => ∃ r1 : Int32, v = some (.int r1) ∧ P (some (.int ((gbc μ1 b g (nI 1) x2 (nI 0) r1) 3 b g 7))) (gbc μ1 b g (nI 1) x2 (nI 0) r1)) noX) :
    Con G mX0_joinQueue [.ref (zad G.1 2 b 0), .ref (zad G.1 3 b g), .int x2] μ P X := by
  refine con_of pn_X0 rfl (Nat.le_of_ble_eq_true rfl) ?_
  show VL G mX0_joinQueue P X 0 [(0, .ref (zad G.1 2 b 0)), (1, .ref (zad G.1 3 b g)), (2, .int x2)] [] μ
  refine v_aload_n (n := 1) dX0_joinQueue_0 rfl rfl ?_
  refine v_iconst (n := 2) (x := nI 1) dX0_joinQueue_1 rfl (by decide) ?_
  refine v_iload_n (n := 3) dX0_joinQueue_2 rfl rfl ?_
  refine v_iconst (n := 4) (x := nI 0) dX0_joinQueue_3 rfl (by decide) ?_
  refine v_aload_n (n := 5) dX0_joinQueue_4 rfl rfl ?_
  refine v_iconst (n := 6) (x := nI 1) dX0_joinQueue_5 rfl (by decide) ?_
  refine v_iload_n (n := 7) dX0_joinQueue_6 rfl rfl ?_
  refine v_callV (n := 10) (k := 2) (b := b) (i := 0) (As := [.int (nI 1), .int x2]) (rest := [.int (nI 0), .int x2, .int (nI 1), .ref (zad G.1 3 b g)]) dX0_joinQueue_7 rfl lk_X0_113 rfl rfl (Nat.le_of_ble_eq_true rfl) ⟨Nat.le_of_ble_eq_true rfl, Nat.le_of_ble_eq_true rfl, Nat.le_of_ble_eq_true rfl, Nat.le_of_ble_eq_true rfl⟩ (zok_2 hb) h (fun v μ1 h => ?_) (fun _ _ hp => False.elim hp)
  obtain ⟨r1, rfl, h⟩ := h
  refine v_norm (st' := [.int r1, .int (nI 0), .int x2, .int (nI 1), .ref (zad G.1 3 b g)]) (cells' := 0) (slots' := 0) rfl rfl rfl ?_
  refine v_callV (n := 13) (k := 3) (b := b) (i := g) (As := [.int (nI 1), .int x2, .int (nI 0), .int r1]) (rest := []) dX0_joinQueue_10 rfl lk_X0_120 rfl rfl (Nat.le_of_ble_eq_true rfl) ⟨Nat.le_of_ble_eq_true rfl, Nat.le_of_ble_eq_true rfl, Nat.le_of_ble_eq_true rfl, Nat.le_of_ble_eq_true rfl⟩ (zok_3 hb hg) (s_X1_become G b hb g hg (nI 1) x2 (nI 0) r1 μ1) (fun v μ9 hp => ?_) (fun _ _ hp => False.elim hp)
  rw [hp.1, hp.2]
  refine v_norm (st' := []) (cells' := 0) (slots' := 0) rfl rfl rfl ?_
  refine v_aload_n (n := 14) dX0_joinQueue_13 rfl rfl ?_
  refine v_getf (n := 17) dX0_joinQueue_14 rfl fl_X0_100 (zok_3 hb hg) (rfl) ?_
  exact v_iret dX0_joinQueue_17 rfl (Nat.le_of_ble_eq_true rfl) (Nat.le_of_ble_eq_true rfl) h

set_option maxRecDepth 20000 in
set_option maxHeartbeats 4000000 in
theorem wX0_startPiste (G : Gl) {P : Option Value → St → Prop} {X : String → St → Prop} (b : Nat) (hb : b < 11) (g : Nat) (hg : g < 16) (pi : Nat) (hpi : pi < 10) (x3 : Int32) (μ : St)
    (h : P (some (.int ((gbc μ b g (nI 3) x3 (rfo μ b pi g) (nI 0)) 3 b g 6))) (up (up (up (gbc μ b g (nI 3) x3 (rfo μ b pi g) (nI 0)) 3 b g 9 (((gbc μ b g (nI 3) x3 (rfo μ b pi g) (nI 0)) 3 b g 9) + (nI 1))) 7 b pi 7 (((gbc μ b g (nI 3) x3 (rfo μ b pi g) (nI 0)) 7 b pi 7) + (nI 1))) 7 b pi 5 (((gbc μ b g (nI 3) x3 (rfo μ b pi g) (nI 0)) 7 b pi 5) + ((gbc μ b g (nI 3) x3 (rfo μ b pi g) (nI 0)) 7 b pi 2)))) :
    Con G mX0_startPiste [.ref (zad G.1 2 b 0), .ref (zad G.1 3 b g), .ref (zad G.1 7 b pi), .int x3] μ P X := by
  refine con_of pn_X0 rfl (Nat.le_of_ble_eq_true rfl) ?_
  show VL G mX0_startPiste P X 0 [(0, .ref (zad G.1 2 b 0)), (1, .ref (zad G.1 3 b g)), (2, .ref (zad G.1 7 b pi)), (3, .int x3)] [] μ
  refine v_aload_n (n := 1) dX0_startPiste_0 rfl rfl ?_
  refine v_iconst (n := 2) (x := nI 3) dX0_startPiste_1 rfl (by decide) ?_
  refine v_iload_n (n := 3) dX0_startPiste_2 rfl rfl ?_
  refine v_aload_n (n := 4) dX0_startPiste_3 rfl rfl ?_
  refine v_aload_n (n := 5) dX0_startPiste_4 rfl rfl ?_
  refine v_callV (n := 8) (k := 7) (b := b) (i := pi) (As := [.ref (zad G.1 3 b g)]) (rest := [.int x3, .int (nI 3), .ref (zad G.1 3 b g)]) dX0_startPiste_5 rfl lk_X0_132 rfl rfl (Nat.le_of_ble_eq_true rfl) ⟨Nat.le_of_ble_eq_true rfl, Nat.le_of_ble_eq_true rfl, Nat.le_of_ble_eq_true rfl, Nat.le_of_ble_eq_true rfl⟩ (zok_7 hb hpi) (s_X5_restFor G b hb pi hpi g hg μ) (fun v μ9 hp => ?_) (fun _ _ hp => False.elim hp)
  rw [hp.1, hp.2]
  refine v_norm (st' := [.int (rfo μ b pi g), .int x3, .int (nI 3), .ref (zad G.1 3 b g)]) (cells' := 0) (slots' := 0) rfl rfl rfl ?_
  refine v_iconst (n := 9) (x := nI 0) dX0_startPiste_8 rfl (by decide) ?_
  refine v_callV (n := 12) (k := 3) (b := b) (i := g) (As := [.int (nI 3), .int x3, .int (rfo μ b pi g), .int (nI 0)]) (rest := []) dX0_startPiste_9 rfl lk_X0_120 rfl rfl (Nat.le_of_ble_eq_true rfl) ⟨Nat.le_of_ble_eq_true rfl, Nat.le_of_ble_eq_true rfl, Nat.le_of_ble_eq_true rfl, Nat.le_of_ble_eq_true rfl⟩ (zok_3 hb hg) (s_X1_become G b hb g hg (nI 3) x3 (rfo μ b pi g) (nI 0) μ) (fun v μ9 hp => ?_) (fun _ _ hp => False.elim hp)
  rw [hp.1, hp.2]
  refine v_norm (st' := []) (cells' := 0) (slots' := 0) rfl rfl rfl ?_
  refine v_aload_n (n := 13) dX0_startPiste_12 rfl rfl ?_
  refine v_dup (n := 14) dX0_startPiste_13 rfl rfl ?_
  refine v_getf (n := 17) dX0_startPiste_14 rfl fl_X0_136 (zok_3 hb hg) (rfl) ?_
  refine v_iconst (n := 18) (x := nI 1) dX0_startPiste_17 rfl (by decide) ?_
  refine v_iadd (n := 19) dX0_startPiste_18 rfl ?_
  refine v_putf (n := 22) dX0_startPiste_19 rfl fw_X0_136 (zok_3 hb hg) (fun _ => rfl) rfl rfl ?_
  refine v_aload_n (n := 23) dX0_startPiste_22 rfl rfl ?_
  refine v_dup (n := 24) dX0_startPiste_23 rfl rfl ?_
  refine v_getf (n := 27) dX0_startPiste_24 rfl fl_X0_139 (zok_7 hb hpi) (congrArg Value.int (up_k (by decide))) ?_
  refine v_iconst (n := 28) (x := nI 1) dX0_startPiste_27 rfl (by decide) ?_
  refine v_iadd (n := 29) dX0_startPiste_28 rfl ?_
  refine v_putf (n := 32) dX0_startPiste_29 rfl fw_X0_139 (zok_7 hb hpi) (fun _ => rfl) rfl rfl ?_
  refine v_aload_n (n := 33) dX0_startPiste_32 rfl rfl ?_
  refine v_dup (n := 34) dX0_startPiste_33 rfl rfl ?_
  refine v_getf (n := 37) dX0_startPiste_34 rfl fl_X0_142 (zok_7 hb hpi) (congrArg Value.int ((up_sl (by decide)).trans (up_k (by decide)))) ?_
  refine v_aload_n (n := 38) dX0_startPiste_37 rfl rfl ?_
  refine v_getf (n := 41) dX0_startPiste_38 rfl fl_X0_145 (zok_7 hb hpi) (congrArg Value.int ((up_sl (by decide)).trans (up_k (by decide)))) ?_
  refine v_iadd (n := 42) dX0_startPiste_41 rfl ?_
  refine v_putf (n := 45) dX0_startPiste_42 rfl fw_X0_142 (zok_7 hb hpi) (fun _ => rfl) rfl rfl ?_
  refine v_aload_n (n := 46) dX0_startPiste_45 rfl rfl ?_
  refine v_getf (n := 49) dX0_startPiste_46 rfl fl_X0_148 (zok_3 hb hg) (congrArg Value.int ((up_k (by decide)).trans ((up_k (by decide)).trans (up_sl (by decide))))) ?_
  exact v_iret dX0_startPiste_49 rfl (Nat.le_of_ble_eq_true rfl) (Nat.le_of_ble_eq_true rfl) h

set_option maxRecDepth 20000 in
set_option maxHeartbeats 4000000 in
theorem wX0_ticksToStation (G : Gl) {P : Option Value → St → Prop} {X : String → St → Prop} (b : Nat) (hb : b < 11) (g : Nat) (hg : g < 16) (μ : St)
    (h : ((μ 3 b g 4 = nI 0 → P (some (.int (nI 0))) μ) ∧ (¬ μ 3 b g 4 = nI 0 → ((μ 3 b g 4 = nI 1 → μ 2 b 0 3 ≤ nI 6 ∧ ((idx (μ 3 b g 5) (μ 2 b 0 3) = false → Con G mX0_ticksFromQueue [.ref (zad G.1 2 b 0), .null, .int (μ 3 b g 7)] μ (fun v μ1 => ∃ r1 : Int32, v = some (.int r1) ∧ P (some (.int r1)) μ1) noX) ∧ (∀ i1 : Nat, i1 < 6 → μ 3 b g 5 = nI i1 → idx (μ 3 b g 5) (μ 2 b 0 3) = true → Con G mX0_ticksFromQueue [.ref (zad G.1 2 b 0), .ref (zad G.1 6 b i1), .int (μ 3 b g 7)] μ (fun v μ2 => ∃ r2 : Int32, v = some (.int r2) ∧ P (some (.int r2)) μ2) noX))) ∧ (¬ μ 3 b g 4 = nI 1 → ((μ 3 b g 4 = nI 2 → μ 2 b 0 3 ≤ nI 6 ∧ ((idx (μ 3 b g 5) (μ 2 b 0 3) = false → Con G mX0_ticksOnLift [.ref (zad G.1 2 b 0), .null, .int (μ 3 b g 6)] μ (fun v μ3 => ∃ r3 : Int32, v = some (.int r3) ∧ P (some (.int r3)) μ3) noX) ∧ (∀ i2 : Nat, i2 < 6 → μ 3 b g 5 = nI i2 → idx (μ 3 b g 5) (μ 2 b 0 3) = true → Con G mX0_ticksOnLift [.ref (zad G.1 2 b 0), .ref (zad G.1 6 b i2), .int (μ 3 b g 6)] μ (fun v μ4 => ∃ r4 : Int32, v = some (.int r4) ∧ P (some (.int r4)) μ4) noX))) ∧ (¬ μ 3 b g 4 = nI 2 → ((μ 3 b g 4 = nI 3 → P (some (.int (μ 3 b g 6))) μ) ∧ (¬ μ 3 b g 4 = nI 3 → P (some (.int (-1 : Int32))) μ))))))))) :
    Con G mX0_ticksToStation [.ref (zad G.1 2 b 0), .ref (zad G.1 3 b g)] μ P X := by
  refine con_of pn_X0 rfl (Nat.le_of_ble_eq_true rfl) ?_
  show VL G mX0_ticksToStation P X 0 [(0, .ref (zad G.1 2 b 0)), (1, .ref (zad G.1 3 b g))] [] μ
  refine v_aload_n (n := 1) dX0_ticksToStation_0 rfl rfl ?_
  refine v_getf (n := 4) dX0_ticksToStation_1 rfl fl_X0_95 (zok_3 hb hg) (rfl) ?_
  by_cases hs0 : μ 3 b g 4 = nI 0
  · replace h := h.1 hs0
    have hx : (μ 3 b g 4).toInt = 0 := by rw [hs0]; rfl
    refine v_tableIn (n := 36) (off := 32) dX0_ticksToStation_4 (by rw [hx]; decide) (by rw [hx]; decide) (by rw [hx]; rfl) (by decide) ?_
    refine v_iconst (n := 37) (x := nI 0) dX0_ticksToStation_36 rfl (by decide) ?_
    exact v_iret dX0_ticksToStation_37 rfl (Nat.le_of_ble_eq_true rfl) (Nat.le_of_ble_eq_true rfl) h
  replace h := h.2 hs0
  by_cases hs1 : μ 3 b g 4 = nI 1
  · replace h := h.1 hs1
    have hx : (μ 3 b g 4).toInt = 1 := by rw [hs1]; rfl
    refine v_tableIn (n := 60) (off := 56) dX0_ticksToStation_4 (by rw [hx]; decide) (by rw [hx]; decide) (by rw [hx]; rfl) (by decide) ?_
    refine v_aload_n (n := 61) dX0_ticksToStation_60 rfl rfl ?_
    refine v_aload_n (n := 62) dX0_ticksToStation_61 rfl rfl ?_
    refine v_aload_n (n := 63) dX0_ticksToStation_62 rfl rfl ?_
    refine v_getf (n := 66) dX0_ticksToStation_63 rfl fl_X0_107 (zok_3 hb hg) (rfl) ?_
    obtain ⟨hf1, h⟩ := h
    refine v_callV (n := 69) (k := 2) (b := b) (i := 0) (As := [.int (μ 3 b g 5)]) (rest := [.ref (zad G.1 2 b 0)]) dX0_ticksToStation_66 rfl lk_X0_124 rfl rfl (Nat.le_of_ble_eq_true rfl) ⟨Nat.le_of_ble_eq_true rfl, Nat.le_of_ble_eq_true rfl, Nat.le_of_ble_eq_true rfl, Nat.le_of_ble_eq_true rfl⟩ (zok_2 hb) (s_X0_liftAt G b hb (μ 3 b g 5) μ hf1) (fun v μ9 hp => ?_) (fun _ _ hp => False.elim hp)
    rcases hp with ⟨hq, hv, hm⟩ | ⟨i1, hi1, hq, hq2, hv, hm⟩
    · replace h := h.1 hq
      rw [hv, hm]
      refine v_norm (st' := [.null, .ref (zad G.1 2 b 0)]) (cells' := 0) (slots' := 0) rfl rfl rfl ?_
      refine v_aload_n (n := 70) dX0_ticksToStation_69 rfl rfl ?_
      refine v_getf (n := 73) dX0_ticksToStation_70 rfl fl_X0_100 (zok_3 hb hg) (rfl) ?_
      refine v_callV (n := 76) (k := 2) (b := b) (i := 0) (As := [.null, .int (μ 3 b g 7)]) (rest := []) dX0_ticksToStation_73 rfl lk_X0_220 rfl rfl (Nat.le_of_ble_eq_true rfl) ⟨Nat.le_of_ble_eq_true rfl, Nat.le_of_ble_eq_true rfl, Nat.le_of_ble_eq_true rfl, Nat.le_of_ble_eq_true rfl⟩ (zok_2 hb) h (fun v μ1 h => ?_) (fun _ _ hp => False.elim hp)
      obtain ⟨r1, rfl, h⟩ := h
      refine v_norm (st' := [.int r1]) (cells' := 0) (slots' := 0) rfl rfl rfl ?_
      exact v_iret dX0_ticksToStation_76 rfl (Nat.le_of_ble_eq_true rfl) (Nat.le_of_ble_eq_true rfl) h
    · replace h := h.2 i1 hi1 hq hq2
      rw [hv, hm]
      refine v_norm (st' := [.ref (zad G.1 6 b i1), .ref (zad G.1 2 b 0)]) (cells' := 0) (slots' := 0) rfl rfl rfl ?_
      refine v_aload_n (n := 70) dX0_ticksToStation_69 rfl rfl ?_
      refine v_getf (n := 73) dX0_ticksToStation_70 rfl fl_X0_100 (zok_3 hb hg) (rfl) ?_
      refine v_callV (n := 76) (k := 2) (b := b) (i := 0) (As := [.ref (zad G.1 6 b i1), .int (μ 3 b g 7)]) (rest := []) dX0_ticksToStation_73 rfl lk_X0_220 rfl rfl (Nat.le_of_ble_eq_true rfl) ⟨Nat.le_of_ble_eq_true rfl, Nat.le_of_ble_eq_true rfl, Nat.le_of_ble_eq_true rfl, Nat.le_of_ble_eq_true rfl⟩ (zok_2 hb) h (fun v μ2 h => ?_) (fun _ _ hp => False.elim hp)
      obtain ⟨r2, rfl, h⟩ := h
      refine v_norm (st' := [.int r2]) (cells' := 0) (slots' := 0) rfl rfl rfl ?_
      exact v_iret dX0_ticksToStation_76 rfl (Nat.le_of_ble_eq_true rfl) (Nat.le_of_ble_eq_true rfl) h
  replace h := h.2 hs1
  by_cases hs2 : μ 3 b g 4 = nI 2
  · replace h := h.1 hs2
    have hx : (μ 3 b g 4).toInt = 2 := by rw [hs2]; rfl
    refine v_tableIn (n := 43) (off := 39) dX0_ticksToStation_4 (by rw [hx]; decide) (by rw [hx]; decide) (by rw [hx]; rfl) (by decide) ?_
    refine v_aload_n (n := 44) dX0_ticksToStation_43 rfl rfl ?_
    refine v_aload_n (n := 45) dX0_ticksToStation_44 rfl rfl ?_
    refine v_aload_n (n := 46) dX0_ticksToStation_45 rfl rfl ?_
    refine v_getf (n := 49) dX0_ticksToStation_46 rfl fl_X0_107 (zok_3 hb hg) (rfl) ?_
    obtain ⟨hf2, h⟩ := h
    refine v_callV (n := 52) (k := 2) (b := b) (i := 0) (As := [.int (μ 3 b g 5)]) (rest := [.ref (zad G.1 2 b 0)]) dX0_ticksToStation_49 rfl lk_X0_124 rfl rfl (Nat.le_of_ble_eq_true rfl) ⟨Nat.le_of_ble_eq_true rfl, Nat.le_of_ble_eq_true rfl, Nat.le_of_ble_eq_true rfl, Nat.le_of_ble_eq_true rfl⟩ (zok_2 hb) (s_X0_liftAt G b hb (μ 3 b g 5) μ hf2) (fun v μ9 hp => ?_) (fun _ _ hp => False.elim hp)
    rcases hp with ⟨hq, hv, hm⟩ | ⟨i2, hi2, hq, hq2, hv, hm⟩
    · replace h := h.1 hq
      rw [hv, hm]
      refine v_norm (st' := [.null, .ref (zad G.1 2 b 0)]) (cells' := 0) (slots' := 0) rfl rfl rfl ?_
      refine v_aload_n (n := 53) dX0_ticksToStation_52 rfl rfl ?_
      refine v_getf (n := 56) dX0_ticksToStation_53 rfl fl_X0_148 (zok_3 hb hg) (rfl) ?_
      refine v_callV (n := 59) (k := 2) (b := b) (i := 0) (As := [.null, .int (μ 3 b g 6)]) (rest := []) dX0_ticksToStation_56 rfl lk_X0_216 rfl rfl (Nat.le_of_ble_eq_true rfl) ⟨Nat.le_of_ble_eq_true rfl, Nat.le_of_ble_eq_true rfl, Nat.le_of_ble_eq_true rfl, Nat.le_of_ble_eq_true rfl⟩ (zok_2 hb) h (fun v μ3 h => ?_) (fun _ _ hp => False.elim hp)
      obtain ⟨r3, rfl, h⟩ := h
      refine v_norm (st' := [.int r3]) (cells' := 0) (slots' := 0) rfl rfl rfl ?_
      exact v_iret dX0_ticksToStation_59 rfl (Nat.le_of_ble_eq_true rfl) (Nat.le_of_ble_eq_true rfl) h
    · replace h := h.2 i2 hi2 hq hq2
      rw [hv, hm]
      refine v_norm (st' := [.ref (zad G.1 6 b i2), .ref (zad G.1 2 b 0)]) (cells' := 0) (slots' := 0) rfl rfl rfl ?_
      refine v_aload_n (n := 53) dX0_ticksToStation_52 rfl rfl ?_
      refine v_getf (n := 56) dX0_ticksToStation_53 rfl fl_X0_148 (zok_3 hb hg) (rfl) ?_
      refine v_callV (n := 59) (k := 2) (b := b) (i := 0) (As := [.ref (zad G.1 6 b i2), .int (μ 3 b g 6)]) (rest := []) dX0_ticksToStation_56 rfl lk_X0_216 rfl rfl (Nat.le_of_ble_eq_true rfl) ⟨Nat.le_of_ble_eq_true rfl, Nat.le_of_ble_eq_true rfl, Nat.le_of_ble_eq_true rfl, Nat.le_of_ble_eq_true rfl⟩ (zok_2 hb) h (fun v μ4 h => ?_) (fun _ _ hp => False.elim hp)
      obtain ⟨r4, rfl, h⟩ := h
      refine v_norm (st' := [.int r4]) (cells' := 0) (slots' := 0) rfl rfl rfl ?_
      exact v_iret dX0_ticksToStation_59 rfl (Nat.le_of_ble_eq_true rfl) (Nat.le_of_ble_eq_true rfl) h
  replace h := h.2 hs2
  by_cases hs3 : μ 3 b g 4 = nI 3
  · replace h := h.1 hs3
    have hx : (μ 3 b g 4).toInt = 3 := by rw [hs3]; rfl
    refine v_tableIn (n := 38) (off := 34) dX0_ticksToStation_4 (by rw [hx]; decide) (by rw [hx]; decide) (by rw [hx]; rfl) (by decide) ?_
    refine v_aload_n (n := 39) dX0_ticksToStation_38 rfl rfl ?_
    refine v_getf (n := 42) dX0_ticksToStation_39 rfl fl_X0_148 (zok_3 hb hg) (rfl) ?_
    exact v_iret dX0_ticksToStation_42 rfl (Nat.le_of_ble_eq_true rfl) (Nat.le_of_ble_eq_true rfl) h
  replace h := h.2 hs3
  refine v_tableOut (n := 77) dX0_ticksToStation_4 (tsw_out 4 (fun k hk => by rcases (show k = 0 ∨ k = 1 ∨ k = 2 ∨ k = 3 by omega) with rfl | rfl | rfl | rfl <;> assumption)) (by decide) ?_
  refine v_iconst (n := 78) (x := (-1 : Int32)) dX0_ticksToStation_77 rfl (by decide) ?_
  exact v_iret dX0_ticksToStation_78 rfl (Nat.le_of_ble_eq_true rfl) (Nat.le_of_ble_eq_true rfl) h

set_option maxRecDepth 20000 in
set_option maxHeartbeats 4000000 in
theorem wX0_ticksOnLift (G : Gl) {P : Option Value → St → Prop} {X : String → St → Prop} (b : Nat) (hb : b < 11) (l : Nat) (hl : l < 6) (x2 : Int32) (μ : St)
    (h : ((ihd μ b l = false → P (some (.int (tkf x2 (spo μ b l)))) μ) ∧ (ihd μ b l = true → P (some (.int (-1 : Int32))) μ))) :
    Con G mX0_ticksOnLift [.ref (zad G.1 2 b 0), .ref (zad G.1 6 b l), .int x2] μ P X := by
  refine con_of pn_X0 rfl (Nat.le_of_ble_eq_true rfl) ?_
  show VL G mX0_ticksOnLift P X 0 [(0, .ref (zad G.1 2 b 0)), (1, .ref (zad G.1 6 b l)), (2, .int x2)] [] μ
  refine v_aload_n (n := 1) dX0_ticksOnLift_0 rfl rfl ?_
  refine v_ifnull (n := 4) dX0_ticksOnLift_1 rfl ?_
  refine v_aload_n (n := 5) dX0_ticksOnLift_4 rfl rfl ?_
  refine v_aload_n (n := 6) dX0_ticksOnLift_5 rfl rfl ?_
  refine v_callV (n := 9) (k := 2) (b := b) (i := 0) (As := [.ref (zad G.1 6 b l)]) (rest := []) dX0_ticksOnLift_6 rfl lk_X0_84 rfl rfl (Nat.le_of_ble_eq_true rfl) ⟨Nat.le_of_ble_eq_true rfl, Nat.le_of_ble_eq_true rfl, Nat.le_of_ble_eq_true rfl, Nat.le_of_ble_eq_true rfl⟩ (zok_2 hb) (s_X0_isHeld G b hb l hl μ) (fun v μ9 hp => ?_) (fun _ _ hp => False.elim hp)
  rw [hp.1, hp.2]
  refine v_norm (st' := [.int (bI (ihd μ b l))]) (cells' := 0) (slots' := 0) rfl rfl rfl ?_
  refine v_if_eq (n := 12) (t := 14) dX0_ticksOnLift_9 rfl (by decide) (fun hq => ?_) (fun hq => ?_)
  · replace h := h.1 (bI_f hq)
    refine v_iload_n (n := 15) dX0_ticksOnLift_14 rfl rfl ?_
    refine v_aload_n (n := 16) dX0_ticksOnLift_15 rfl rfl ?_
    refine v_aload_n (n := 17) dX0_ticksOnLift_16 rfl rfl ?_
    refine v_callV (n := 20) (k := 2) (b := b) (i := 0) (As := [.ref (zad G.1 6 b l)]) (rest := [.int x2]) dX0_ticksOnLift_17 rfl lk_X0_64 rfl rfl (Nat.le_of_ble_eq_true rfl) ⟨Nat.le_of_ble_eq_true rfl, Nat.le_of_ble_eq_true rfl, Nat.le_of_ble_eq_true rfl, Nat.le_of_ble_eq_true rfl⟩ (zok_2 hb) (s_X0_speedOf G b hb l hl μ) (fun v μ9 hp => ?_) (fun _ _ hp => False.elim hp)
    rw [hp.1, hp.2]
    refine v_norm (st' := [.int (spo μ b l), .int x2]) (cells' := 0) (slots' := 0) rfl rfl rfl ?_
    refine v_callN (n := 23) (As := [.int x2, .int (spo μ b l)]) (rest := []) dX0_ticksOnLift_20 rfl lk_X0_223 rfl rfl (Nat.le_of_ble_eq_true rfl) ⟨Nat.le_of_ble_eq_true rfl, Nat.le_of_ble_eq_true rfl, Nat.le_of_ble_eq_true rfl, Nat.le_of_ble_eq_true rfl⟩ (s_X7_ticksFor G x2 (spo μ b l) μ) (fun v μ9 hp => ?_) (fun _ _ hp => False.elim hp)
    rw [hp.1, hp.2]
    refine v_norm (st' := [.int (tkf x2 (spo μ b l))]) (cells' := 0) (slots' := 0) rfl rfl rfl ?_
    exact v_iret dX0_ticksOnLift_23 rfl (Nat.le_of_ble_eq_true rfl) (Nat.le_of_ble_eq_true rfl) h
  · replace h := h.2 (bI_nf hq)
    refine v_iconst (n := 13) (x := (-1 : Int32)) dX0_ticksOnLift_12 rfl (by decide) ?_
    exact v_iret dX0_ticksOnLift_13 rfl (Nat.le_of_ble_eq_true rfl) (Nat.le_of_ble_eq_true rfl) h

set_option maxRecDepth 20000 in
set_option maxHeartbeats 4000000 in
theorem wX0_ticksFromQueue (G : Gl) {P : Option Value → St → Prop} {X : String → St → Prop} (b : Nat) (hb : b < 11) (l : Nat) (hl : l < 6) (x2 : Int32) (μ : St)
    (h : ((ihd μ b l = true → P (some (.int (-1 : Int32))) μ) ∧ (ihd μ b l = false → ((nI 1 ≤ μ 6 b l 4 → ¬ μ 6 b l 4 = 0 ∧ Con G mX0_ticksOnLift [.ref (zad G.1 2 b 0), .ref (zad G.1 6 b l), .int (nI 2 * μ 6 b l 5)] μ (fun v μ1 => ∃ r1 : Int32, v = some (.int r1) ∧ P (some (.int ((tkf (stc μ b l ((nI 1) + (x2 / (μ 6 b l 4)))) (spo μ b l)) + r1))) μ1) noX) ∧ (¬ nI 1 ≤ μ 6 b l 4 → P (some (.int (-1 : Int32))) μ))))) :
    Con G mX0_ticksFromQueue [.ref (zad G.1 2 b 0), .ref (zad G.1 6 b l), .int x2] μ P X := by
  refine con_of pn_X0 rfl (Nat.le_of_ble_eq_true rfl) ?_
  show VL G mX0_ticksFromQueue P X 0 [(0, .ref (zad G.1 2 b 0)), (1, .ref (zad G.1 6 b l)), (2, .int x2)] [] μ
  refine v_aload_n (n := 1) dX0_ticksFromQueue_0 rfl rfl ?_
  refine v_ifnull (n := 4) dX0_ticksFromQueue_1 rfl ?_
  refine v_aload_n (n := 5) dX0_ticksFromQueue_4 rfl rfl ?_
  refine v_aload_n (n := 6) dX0_ticksFromQueue_5 rfl rfl ?_
  refine v_callV (n := 9) (k := 2) (b := b) (i := 0) (As := [.ref (zad G.1 6 b l)]) (rest := []) dX0_ticksFromQueue_6 rfl lk_X0_84 rfl rfl (Nat.le_of_ble_eq_true rfl) ⟨Nat.le_of_ble_eq_true rfl, Nat.le_of_ble_eq_true rfl, Nat.le_of_ble_eq_true rfl, Nat.le_of_ble_eq_true rfl⟩ (zok_2 hb) (s_X0_isHeld G b hb l hl μ) (fun v μ9 hp => ?_) (fun _ _ hp => False.elim hp)
  rw [hp.1, hp.2]
  refine v_norm (st' := [.int (bI (ihd μ b l))]) (cells' := 0) (slots' := 0) rfl rfl rfl ?_
  refine v_if_ne (n := 12) (t := 20) dX0_ticksFromQueue_9 rfl (by decide) (fun hq => ?_) (fun hq => ?_)
  · replace h := h.1 (bI_nf hq)
    refine v_iconst (n := 21) (x := (-1 : Int32)) dX0_ticksFromQueue_20 rfl (by decide) ?_
    exact v_iret dX0_ticksFromQueue_21 rfl (Nat.le_of_ble_eq_true rfl) (Nat.le_of_ble_eq_true rfl) h
  · replace h := h.2 (bI_f hq)
    refine v_aload_n (n := 13) dX0_ticksFromQueue_12 rfl rfl ?_
    refine v_getf (n := 16) dX0_ticksFromQueue_13 rfl fl_X0_194 (zok_6 hb hl) (rfl) ?_
    refine v_iconst (n := 17) (x := nI 1) dX0_ticksFromQueue_16 rfl (by decide) ?_
    refine v_icmp_ge (n := 20) (t := 22) dX0_ticksFromQueue_17 rfl (by decide) (fun hq => ?_) (fun hq => ?_)
    · replace h := h.1 hq
      refine v_iconst (n := 23) (x := nI 1) dX0_ticksFromQueue_22 rfl (by decide) ?_
      refine v_iload_n (n := 24) dX0_ticksFromQueue_23 rfl rfl ?_
      refine v_aload_n (n := 25) dX0_ticksFromQueue_24 rfl rfl ?_
      refine v_getf (n := 28) dX0_ticksFromQueue_25 rfl fl_X0_194 (zok_6 hb hl) (rfl) ?_
      obtain ⟨hf1, h⟩ := h
      refine v_idiv (n := 29) dX0_ticksFromQueue_28 rfl hf1 ?_
      refine v_iadd (n := 30) dX0_ticksFromQueue_29 rfl ?_
      refine v_istore_n (n := 31) (L' := [(0, .ref (zad G.1 2 b 0)), (1, .ref (zad G.1 6 b l)), (2, .int x2), (3, .int ((nI 1) + (x2 / (μ 6 b l 4))))]) dX0_ticksFromQueue_30 rfl (by decide) rfl ?_
      refine v_aload_n (n := 32) dX0_ticksFromQueue_31 rfl rfl ?_
      refine v_iload_n (n := 33) dX0_ticksFromQueue_32 rfl rfl ?_
      refine v_callV (n := 36) (k := 6) (b := b) (i := l) (As := [.int ((nI 1) + (x2 / (μ 6 b l 4)))]) (rest := []) dX0_ticksFromQueue_33 rfl lk_X0_180 rfl rfl (Nat.le_of_ble_eq_true rfl) ⟨Nat.le_of_ble_eq_true rfl, Nat.le_of_ble_eq_true rfl, Nat.le_of_ble_eq_true rfl, Nat.le_of_ble_eq_true rfl⟩ (zok_6 hb hl) (s_X4_stepsToCabin G b hb l hl ((nI 1) + (x2 / (μ 6 b l 4))) μ) (fun v μ9 hp => ?_) (fun _ _ hp => False.elim hp)
      rw [hp.1, hp.2]
      refine v_norm (st' := [.int (stc μ b l ((nI 1) + (x2 / (μ 6 b l 4))))]) (cells' := 0) (slots' := 0) rfl rfl rfl ?_
      refine v_aload_n (n := 37) dX0_ticksFromQueue_36 rfl rfl ?_
      refine v_aload_n (n := 38) dX0_ticksFromQueue_37 rfl rfl ?_
      refine v_callV (n := 41) (k := 2) (b := b) (i := 0) (As := [.ref (zad G.1 6 b l)]) (rest := [.int (stc μ b l ((nI 1) + (x2 / (μ 6 b l 4))))]) dX0_ticksFromQueue_38 rfl lk_X0_64 rfl rfl (Nat.le_of_ble_eq_true rfl) ⟨Nat.le_of_ble_eq_true rfl, Nat.le_of_ble_eq_true rfl, Nat.le_of_ble_eq_true rfl, Nat.le_of_ble_eq_true rfl⟩ (zok_2 hb) (s_X0_speedOf G b hb l hl μ) (fun v μ9 hp => ?_) (fun _ _ hp => False.elim hp)
      rw [hp.1, hp.2]
      refine v_norm (st' := [.int (spo μ b l), .int (stc μ b l ((nI 1) + (x2 / (μ 6 b l 4))))]) (cells' := 0) (slots' := 0) rfl rfl rfl ?_
      refine v_callN (n := 44) (As := [.int (stc μ b l ((nI 1) + (x2 / (μ 6 b l 4)))), .int (spo μ b l)]) (rest := []) dX0_ticksFromQueue_41 rfl lk_X0_223 rfl rfl (Nat.le_of_ble_eq_true rfl) ⟨Nat.le_of_ble_eq_true rfl, Nat.le_of_ble_eq_true rfl, Nat.le_of_ble_eq_true rfl, Nat.le_of_ble_eq_true rfl⟩ (s_X7_ticksFor G (stc μ b l ((nI 1) + (x2 / (μ 6 b l 4)))) (spo μ b l) μ) (fun v μ9 hp => ?_) (fun _ _ hp => False.elim hp)
      rw [hp.1, hp.2]
      refine v_norm (st' := [.int (tkf (stc μ b l ((nI 1) + (x2 / (μ 6 b l 4)))) (spo μ b l))]) (cells' := 0) (slots' := 0) rfl rfl rfl ?_
      refine v_aload_n (n := 45) dX0_ticksFromQueue_44 rfl rfl ?_
      refine v_aload_n (n := 46) dX0_ticksFromQueue_45 rfl rfl ?_
      refine v_aload_n (n := 47) dX0_ticksFromQueue_46 rfl rfl ?_
      refine v_callV (n := 50) (k := 6) (b := b) (i := l) (As := []) (rest := [.ref (zad G.1 6 b l), .ref (zad G.1 2 b 0), .int (tkf (stc μ b l ((nI 1) + (x2 / (μ 6 b l 4)))) (spo μ b l))]) dX0_ticksFromQueue_47 rfl lk_X0_197 rfl rfl (Nat.le_of_ble_eq_true rfl) ⟨Nat.le_of_ble_eq_true rfl, Nat.le_of_ble_eq_true rfl, Nat.le_of_ble_eq_true rfl, Nat.le_of_ble_eq_true rfl⟩ (zok_6 hb hl) (s_X4_restOfRide G b hb l hl μ) (fun v μ9 hp => ?_) (fun _ _ hp => False.elim hp)
      rw [hp.1, hp.2]
      refine v_norm (st' := [.int (nI 2 * μ 6 b l 5), .ref (zad G.1 6 b l), .ref (zad G.1 2 b 0), .int (tkf (stc μ b l ((nI 1) + (x2 / (μ 6 b l 4)))) (spo μ b l))]) (cells' := 0) (slots' := 0) rfl rfl rfl ?_
      refine v_callV (n := 53) (k := 2) (b := b) (i := 0) (As := [.ref (zad G.1 6 b l), .int (nI 2 * μ 6 b l 5)]) (rest := [.int (tkf (stc μ b l ((nI 1) + (x2 / (μ 6 b l 4)))) (spo μ b l))]) dX0_ticksFromQueue_50 rfl lk_X0_216 rfl rfl (Nat.le_of_ble_eq_true rfl) ⟨Nat.le_of_ble_eq_true rfl, Nat.le_of_ble_eq_true rfl, Nat.le_of_ble_eq_true rfl, Nat.le_of_ble_eq_true rfl⟩ (zok_2 hb) h (fun v μ1 h => ?_) (fun _ _ hp => False.elim hp)
      obtain ⟨r1, rfl, h⟩ := h
      refine v_norm (st' := [.int r1, .int (tkf (stc μ b l ((nI 1) + (x2 / (μ 6 b l 4)))) (spo μ b l))]) (cells' := 0) (slots' := 0) rfl rfl rfl ?_
      refine v_iadd (n := 54) dX0_ticksFromQueue_53 rfl ?_
      exact v_iret dX0_ticksFromQueue_54 rfl (Nat.le_of_ble_eq_true rfl) (Nat.le_of_ble_eq_true rfl) h
    · replace h := h.2 hq
      refine v_iconst (n := 21) (x := (-1 : Int32)) dX0_ticksFromQueue_20 rfl (by decide) ?_
      exact v_iret dX0_ticksFromQueue_21 rfl (Nat.le_of_ble_eq_true rfl) (Nat.le_of_ble_eq_true rfl) h

