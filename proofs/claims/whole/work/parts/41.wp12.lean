/-! wp-lemmas by program (wip/whole/wp.py) -/
set_option maxRecDepth 20000 in
set_option maxHeartbeats 4000000 in
theorem wX8_entry (G : Gl) {P : Option Value → St → Prop} {X : String → St → Prop}  (μ : St)
    (h : Con G mX8_here [.ref (zad G.1 10 0 0)] μ (fun v μ1 => ∃ r1 : Int32, v = some (.int r1) ∧ ((r1 = nI 103 → VL G mX8_entry P X 44 [(0, .ref (zad G.1 10 0 0)), (1, .int r1)] [] (up μ1 10 0 0 13 (nI 0))) ∧ (¬ r1 = nI 103 → ((r1 = nI 113 → VL G mX8_entry P X 44 [(0, .ref (zad G.1 10 0 0)), (1, .int r1)] [] (up μ1 10 0 0 13 (nI 0))) ∧ (¬ r1 = nI 113 → ((r1 = nI 115 → VL G mX8_entry P X 44 [(0, .ref (zad G.1 10 0 0)), (1, .int r1)] [] (up μ1 10 0 0 13 (nI 0))) ∧ (¬ r1 = nI 115 → ((r1 = nI 119 → VL G mX8_entry P X 44 [(0, .ref (zad G.1 10 0 0)), (1, .int r1)] [] (up μ1 10 0 0 13 (nI 0))) ∧ (¬ r1 = nI 119 → ((r1 = nI 116 → VL G mX8_entry P X 44 [(0, .ref (zad G.1 10 0 0)), (1, .int r1)] [] (up μ1 10 0 0 13 (nI 0))) ∧ (¬ r1 = nI 116 → VL G mX8_entry P X 44 [(0, .ref (zad G.1 10 0 0)), (1, .int r1)] [] (up μ1 10 0 0 13 (nI 1))))))))))))) noX) :
    Con G mX8_entry [.ref (zad G.1 10 0 0)] μ P X := by
  refine con_of pn_X8 rfl (Nat.le_of_ble_eq_true rfl) ?_
  show VL G mX8_entry P X 0 [(0, .ref (zad G.1 10 0 0))] [] μ
  refine v_aload_n (n := 1) dX8_entry_0 rfl rfl ?_
  refine v_callV (n := 4) (k := 10) (b := 0) (i := 0) (As := []) (rest := []) dX8_entry_1 rfl lk_X8_182 rfl rfl (Nat.le_of_ble_eq_true rfl) ⟨Nat.le_of_ble_eq_true rfl, Nat.le_of_ble_eq_true rfl, Nat.le_of_ble_eq_true rfl, Nat.le_of_ble_eq_true rfl⟩ zokc_10 h (fun v μ1 h => ?_) (fun _ _ hp => False.elim hp)
  obtain ⟨r1, rfl, h⟩ := h
  refine v_norm (st' := [.int r1]) (cells' := 0) (slots' := 0) rfl rfl rfl ?_
  refine v_istore_n (n := 5) (L' := [(0, .ref (zad G.1 10 0 0)), (1, .int r1)]) dX8_entry_4 rfl (by decide) rfl ?_
  refine v_aload_n (n := 6) dX8_entry_5 rfl rfl ?_
  refine v_iload_n (n := 7) dX8_entry_6 rfl rfl ?_
  refine v_bipush (n := 9) (x := nI 103) dX8_entry_7 rfl (by decide) ?_
  refine v_icmp_eq (n := 12) (t := 40) dX8_entry_9 rfl (by decide) (fun hq => ?_) (fun hq => ?_)
  · replace h := h.1 hq
    refine v_iconst (n := 41) (x := nI 0) dX8_entry_40 rfl (by decide) ?_
    refine v_putf (n := 44) dX8_entry_41 rfl fw_X8_178 zokc_10 (fun _ => rfl) (by decide) (by decide) ?_
    exact h
  · replace h := h.2 hq
    refine v_iload_n (n := 13) dX8_entry_12 rfl rfl ?_
    refine v_bipush (n := 15) (x := nI 113) dX8_entry_13 rfl (by decide) ?_
    refine v_icmp_eq (n := 18) (t := 40) dX8_entry_15 rfl (by decide) (fun hq => ?_) (fun hq => ?_)
    · replace h := h.1 hq
      refine v_iconst (n := 41) (x := nI 0) dX8_entry_40 rfl (by decide) ?_
      refine v_putf (n := 44) dX8_entry_41 rfl fw_X8_178 zokc_10 (fun _ => rfl) (by decide) (by decide) ?_
      exact h
    · replace h := h.2 hq
      refine v_iload_n (n := 19) dX8_entry_18 rfl rfl ?_
      refine v_bipush (n := 21) (x := nI 115) dX8_entry_19 rfl (by decide) ?_
      refine v_icmp_eq (n := 24) (t := 40) dX8_entry_21 rfl (by decide) (fun hq => ?_) (fun hq => ?_)
      · replace h := h.1 hq
        refine v_iconst (n := 41) (x := nI 0) dX8_entry_40 rfl (by decide) ?_
        refine v_putf (n := 44) dX8_entry_41 rfl fw_X8_178 zokc_10 (fun _ => rfl) (by decide) (by decide) ?_
        exact h
      · replace h := h.2 hq
        refine v_iload_n (n := 25) dX8_entry_24 rfl rfl ?_
        refine v_bipush (n := 27) (x := nI 119) dX8_entry_25 rfl (by decide) ?_
        refine v_icmp_eq (n := 30) (t := 40) dX8_entry_27 rfl (by decide) (fun hq => ?_) (fun hq => ?_)
        · replace h := h.1 hq
          refine v_iconst (n := 41) (x := nI 0) dX8_entry_40 rfl (by decide) ?_
          refine v_putf (n := 44) dX8_entry_41 rfl fw_X8_178 zokc_10 (fun _ => rfl) (by decide) (by decide) ?_
          exact h
        · replace h := h.2 hq
          refine v_iload_n (n := 31) dX8_entry_30 rfl rfl ?_
          refine v_bipush (n := 33) (x := nI 116) dX8_entry_31 rfl (by decide) ?_
          refine v_icmp_eq (n := 36) (t := 40) dX8_entry_33 rfl (by decide) (fun hq => ?_) (fun hq => ?_)
          · replace h := h.1 hq
            refine v_iconst (n := 41) (x := nI 0) dX8_entry_40 rfl (by decide) ?_
            refine v_putf (n := 44) dX8_entry_41 rfl fw_X8_178 zokc_10 (fun _ => rfl) (by decide) (by decide) ?_
            exact h
          · replace h := h.2 hq
            refine v_iconst (n := 37) (x := nI 1) dX8_entry_36 rfl (by decide) ?_
            refine v_goto (n := 41) dX8_entry_37 (by decide) ?_
            refine v_putf (n := 44) dX8_entry_41 rfl fw_X8_178 zokc_10 (fun _ => rfl) (by decide) (by decide) ?_
            exact h

set_option maxRecDepth 20000 in
set_option maxHeartbeats 4000000 in
theorem wX8_entry_44 (G : Gl) {P : Option Value → St → Prop} {X : String → St → Prop} (y1 : Int32) (μ : St)
    (h : ((μ 10 0 0 13 = 0 → VL G mX8_entry P X 65 [(0, .ref (zad G.1 10 0 0)), (1, .int y1)] [] (up μ 10 0 0 12 ((μ 10 0 0 12) + (nI 1)))) ∧ (¬ μ 10 0 0 13 = 0 → VL G mX8_entry P X 65 [(0, .ref (zad G.1 10 0 0)), (1, .int y1)] [] (up μ 10 0 0 12 ((μ 10 0 0 12) + (nI 0)))))) :
    VL G mX8_entry P X 44 [(0, .ref (zad G.1 10 0 0)), (1, .int y1)] [] μ := by
  refine v_aload_n (n := 45) dX8_entry_44 rfl rfl ?_
  refine v_dup (n := 46) dX8_entry_45 rfl rfl ?_
  refine v_getf (n := 49) dX8_entry_46 rfl fl_X8_175 zokc_10 (rfl) ?_
  refine v_aload_n (n := 50) dX8_entry_49 rfl rfl ?_
  refine v_getf (n := 53) dX8_entry_50 rfl fl_X8_178 zokc_10 (rfl) ?_
  refine v_if_eq (n := 56) (t := 60) dX8_entry_53 rfl (by decide) (fun hq => ?_) (fun hq => ?_)
  · replace h := h.1 hq
    refine v_iconst (n := 61) (x := nI 1) dX8_entry_60 rfl (by decide) ?_
    refine v_iadd (n := 62) dX8_entry_61 rfl ?_
    refine v_putf (n := 65) dX8_entry_62 rfl fw_X8_175 zokc_10 (fun _ => rfl) rfl rfl ?_
    exact h
  · replace h := h.2 hq
    refine v_iconst (n := 57) (x := nI 0) dX8_entry_56 rfl (by decide) ?_
    refine v_goto (n := 61) dX8_entry_57 (by decide) ?_
    refine v_iadd (n := 62) dX8_entry_61 rfl ?_
    refine v_putf (n := 65) dX8_entry_62 rfl fw_X8_175 zokc_10 (fun _ => rfl) rfl rfl ?_
    exact h

set_option maxRecDepth 20000 in
set_option maxHeartbeats 4000000 in
theorem wX8_entry_65 (G : Gl) {P : Option Value → St → Prop} {X : String → St → Prop} (y1 : Int32) (μ : St)
    (h : ∃ j1 : Nat, μ 10 0 0 16 = nI j1 ∧ j1 < 60 ∧ ∃ j2 : Nat, μ 10 0 0 16 = nI j2 ∧ j2 < 60 ∧ ((y1 = nI 113 → VL G mX8_entry P X 97 [(0, .ref (zad G.1 10 0 0)), (1, .int y1)] [] (up (up μ 32 0 0 j1 y1) 34 0 0 j2 (nI 0))) ∧ (¬ y1 = nI 113 → ((¬ y1 = nI 115 → VL G mX8_entry P X 145 [(0, .ref (zad G.1 10 0 0)), (1, .int y1)] [] (up (up μ 32 0 0 j1 y1) 34 0 0 j2 (nI 0))) ∧ (y1 = nI 115 → VL G mX8_entry P X 97 [(0, .ref (zad G.1 10 0 0)), (1, .int y1)] [] (up (up μ 32 0 0 j1 y1) 34 0 0 j2 (nI 0))))))) :
    VL G mX8_entry P X 65 [(0, .ref (zad G.1 10 0 0)), (1, .int y1)] [] μ := by
  refine v_aload_n (n := 66) dX8_entry_65 rfl rfl ?_
  refine v_getf (n := 69) dX8_entry_66 rfl fl_X8_28 zokc_10 rfl ?_
  refine v_aload_n (n := 70) dX8_entry_69 rfl rfl ?_
  refine v_getf (n := 73) dX8_entry_70 rfl fl_X8_188 zokc_10 (rfl) ?_
  refine v_iload_n (n := 74) dX8_entry_73 rfl rfl ?_
  obtain ⟨j1, ej1, hj1, h⟩ := h
  refine v_iast (n := 75) (j := j1) dX8_entry_74 rfl zokc_32 (by decide) (by decide) rfl ej1 hj1 (fun _ => rfl) ?_
  refine v_aload_n (n := 76) dX8_entry_75 rfl rfl ?_
  refine v_getf (n := 79) dX8_entry_76 rfl fl_X8_34 zokc_10 rfl ?_
  refine v_aload_n (n := 80) dX8_entry_79 rfl rfl ?_
  refine v_getf (n := 83) dX8_entry_80 rfl fl_X8_188 zokc_10 (congrArg Value.int (up_k (by decide))) ?_
  refine v_iconst (n := 84) (x := nI 0) dX8_entry_83 rfl (by decide) ?_
  obtain ⟨j2, ej2, hj2, h⟩ := h
  refine v_iast (n := 85) (j := j2) dX8_entry_84 rfl zokc_34 (by decide) (by decide) rfl ej2 hj2 (fun _ => rfl) ?_
  refine v_iload_n (n := 86) dX8_entry_85 rfl rfl ?_
  refine v_bipush (n := 88) (x := nI 113) dX8_entry_86 rfl (by decide) ?_
  refine v_icmp_eq (n := 91) (t := 97) dX8_entry_88 rfl (by decide) (fun hq => ?_) (fun hq => ?_)
  · replace h := h.1 hq
    exact h
  · replace h := h.2 hq
    refine v_iload_n (n := 92) dX8_entry_91 rfl rfl ?_
    refine v_bipush (n := 94) (x := nI 115) dX8_entry_92 rfl (by decide) ?_
    refine v_icmp_ne (n := 97) (t := 145) dX8_entry_94 rfl (by decide) (fun hq => ?_) (fun hq => ?_)
    · replace h := h.1 hq
      exact h
    · replace h := h.2 hq
      exact h

set_option maxRecDepth 20000 in
set_option maxHeartbeats 4000000 in
theorem wX8_entry_97 (G : Gl) {P : Option Value → St → Prop} {X : String → St → Prop} (y1 : Int32) (μ : St)
    (h : Con G mX8_guestNumber [.ref (zad G.1 10 0 0)] μ (fun v μ1 => ∃ r1 : Int32, v = some (.int r1) ∧ ∃ j1 : Nat, μ 10 0 0 16 = nI j1 ∧ j1 < 60 ∧ Con G mX8_take [.ref (zad G.1 10 0 0), .int (nI 45)] (up μ1 33 0 0 j1 r1) (fun v μ2 => v = none ∧ ((¬ y1 = nI 113 → Con G mX8_digit [.ref (zad G.1 10 0 0), .int (nI 0), .int (nI 9)] μ2 (fun v μ3 => ∃ r2 : Int32, v = some (.int r2) ∧ ∃ j2 : Nat, μ2 10 0 0 16 = nI j2 ∧ j2 < 60 ∧ VL G mX8_entry P X 211 [(0, .ref (zad G.1 10 0 0)), (1, .int y1)] [] (up μ3 34 0 0 j2 r2)) noX) ∧ (y1 = nI 113 → Con G mX8_digit [.ref (zad G.1 10 0 0), .int (nI 0), .int (nI 5)] μ2 (fun v μ4 => ∃ r3 : Int32, v = some (.int r3) ∧ ∃ j3 : Nat, μ2 10 0 0 16 = nI j3 ∧ j3 < 60 ∧ VL G mX8_entry P X 211 [(0, .ref (zad G.1 10 0 0)), (1, .int y1)] [] (up μ4 34 0 0 j3 r3)) noX))) noX) noX) :
    VL G mX8_entry P X 97 [(0, .ref (zad G.1 10 0 0)), (1, .int y1)] [] μ := by
  refine v_aload_n (n := 98) dX8_entry_97 rfl rfl ?_
  refine v_getf (n := 101) dX8_entry_98 rfl fl_X8_31 zokc_10 rfl ?_
  refine v_aload_n (n := 102) dX8_entry_101 rfl rfl ?_
  refine v_getf (n := 105) dX8_entry_102 rfl fl_X8_188 zokc_10 (rfl) ?_
  refine v_aload_n (n := 106) dX8_entry_105 rfl rfl ?_
  refine v_callV (n := 109) (k := 10) (b := 0) (i := 0) (As := []) (rest := [.int (μ 10 0 0 16), .ref (zad G.1 33 0 0)]) dX8_entry_106 rfl lk_X8_191 rfl rfl (Nat.le_of_ble_eq_true rfl) ⟨Nat.le_of_ble_eq_true rfl, Nat.le_of_ble_eq_true rfl, Nat.le_of_ble_eq_true rfl, Nat.le_of_ble_eq_true rfl⟩ zokc_10 h (fun v μ1 h => ?_) (fun _ _ hp => False.elim hp)
  obtain ⟨r1, rfl, h⟩ := h
  refine v_norm (st' := [.int r1, .int (μ 10 0 0 16), .ref (zad G.1 33 0 0)]) (cells' := 0) (slots' := 0) rfl rfl rfl ?_
  obtain ⟨j1, ej1, hj1, h⟩ := h
  refine v_iast (n := 110) (j := j1) dX8_entry_109 rfl zokc_33 (by decide) (by decide) rfl ej1 hj1 (fun _ => rfl) ?_
  refine v_aload_n (n := 111) dX8_entry_110 rfl rfl ?_
  refine v_bipush (n := 113) (x := nI 45) dX8_entry_111 rfl (by decide) ?_
  refine v_callV (n := 116) (k := 10) (b := 0) (i := 0) (As := [.int (nI 45)]) (rest := []) dX8_entry_113 rfl lk_X8_194 rfl rfl (Nat.le_of_ble_eq_true rfl) ⟨Nat.le_of_ble_eq_true rfl, Nat.le_of_ble_eq_true rfl, Nat.le_of_ble_eq_true rfl, Nat.le_of_ble_eq_true rfl⟩ zokc_10 h (fun v μ2 h => ?_) (fun _ _ hp => False.elim hp)
  obtain ⟨rfl, h⟩ := h
  refine v_norm (st' := []) (cells' := 0) (slots' := 0) rfl rfl rfl ?_
  refine v_aload_n (n := 117) dX8_entry_116 rfl rfl ?_
  refine v_getf (n := 120) dX8_entry_117 rfl fl_X8_34 zokc_10 rfl ?_
  refine v_aload_n (n := 121) dX8_entry_120 rfl rfl ?_
  refine v_getf (n := 124) dX8_entry_121 rfl fl_X8_188 zokc_10 (rfl) ?_
  refine v_aload_n (n := 125) dX8_entry_124 rfl rfl ?_
  refine v_iconst (n := 126) (x := nI 0) dX8_entry_125 rfl (by decide) ?_
  refine v_iload_n (n := 127) dX8_entry_126 rfl rfl ?_
  refine v_bipush (n := 129) (x := nI 113) dX8_entry_127 rfl (by decide) ?_
  refine v_icmp_ne (n := 132) (t := 136) dX8_entry_129 rfl (by decide) (fun hq => ?_) (fun hq => ?_)
  · replace h := h.1 hq
    refine v_bipush (n := 138) (x := nI 9) dX8_entry_136 rfl (by decide) ?_
    refine v_callV (n := 141) (k := 10) (b := 0) (i := 0) (As := [.int (nI 0), .int (nI 9)]) (rest := [.int (μ2 10 0 0 16), .ref (zad G.1 34 0 0)]) dX8_entry_138 rfl lk_X8_185 rfl rfl (Nat.le_of_ble_eq_true rfl) ⟨Nat.le_of_ble_eq_true rfl, Nat.le_of_ble_eq_true rfl, Nat.le_of_ble_eq_true rfl, Nat.le_of_ble_eq_true rfl⟩ zokc_10 h (fun v μ3 h => ?_) (fun _ _ hp => False.elim hp)
    obtain ⟨r2, rfl, h⟩ := h
    refine v_norm (st' := [.int r2, .int (μ2 10 0 0 16), .ref (zad G.1 34 0 0)]) (cells' := 0) (slots' := 0) rfl rfl rfl ?_
    obtain ⟨j2, ej2, hj2, h⟩ := h
    refine v_iast (n := 142) (j := j2) dX8_entry_141 rfl zokc_34 (by decide) (by decide) rfl ej2 hj2 (fun _ => rfl) ?_
    refine v_goto (n := 211) dX8_entry_142 (by decide) ?_
    exact h
  · replace h := h.2 hq
    refine v_iconst (n := 133) (x := nI 5) dX8_entry_132 rfl (by decide) ?_
    refine v_goto (n := 138) dX8_entry_133 (by decide) ?_
    refine v_callV (n := 141) (k := 10) (b := 0) (i := 0) (As := [.int (nI 0), .int (nI 5)]) (rest := [.int (μ2 10 0 0 16), .ref (zad G.1 34 0 0)]) dX8_entry_138 rfl lk_X8_185 rfl rfl (Nat.le_of_ble_eq_true rfl) ⟨Nat.le_of_ble_eq_true rfl, Nat.le_of_ble_eq_true rfl, Nat.le_of_ble_eq_true rfl, Nat.le_of_ble_eq_true rfl⟩ zokc_10 h (fun v μ4 h => ?_) (fun _ _ hp => False.elim hp)
    obtain ⟨r3, rfl, h⟩ := h
    refine v_norm (st' := [.int r3, .int (μ2 10 0 0 16), .ref (zad G.1 34 0 0)]) (cells' := 0) (slots' := 0) rfl rfl rfl ?_
    obtain ⟨j3, ej3, hj3, h⟩ := h
    refine v_iast (n := 142) (j := j3) dX8_entry_141 rfl zokc_34 (by decide) (by decide) rfl ej3 hj3 (fun _ => rfl) ?_
    refine v_goto (n := 211) dX8_entry_142 (by decide) ?_
    exact h

set_option maxRecDepth 20000 in
set_option maxHeartbeats 4000000 in
theorem wX8_entry_145 (G : Gl) {P : Option Value → St → Prop} {X : String → St → Prop} (y1 : Int32) (μ : St)
    (h : ((¬ y1 = nI 103 → ((¬ y1 = nI 116 → Con G mX8_digit [.ref (zad G.1 10 0 0), .int (nI 0), .int (nI 9)] μ (fun v μ1 => ∃ r1 : Int32, v = some (.int r1) ∧ ∃ j1 : Nat, μ 10 0 0 16 = nI j1 ∧ j1 < 60 ∧ VL G mX8_entry P X 211 [(0, .ref (zad G.1 10 0 0)), (1, .int y1)] [] (up μ1 33 0 0 j1 r1)) noX) ∧ (y1 = nI 116 → Con G mX8_digit [.ref (zad G.1 10 0 0), .int (nI 1), .int (nI 9)] μ (fun v μ2 => ∃ r2 : Int32, v = some (.int r2) ∧ ∃ j2 : Nat, μ 10 0 0 16 = nI j2 ∧ j2 < 60 ∧ VL G mX8_entry P X 211 [(0, .ref (zad G.1 10 0 0)), (1, .int y1)] [] (up μ2 33 0 0 j2 r2)) noX))) ∧ (y1 = nI 103 → Con G mX8_digit [.ref (zad G.1 10 0 0), .int (nI 0), .int (nI 7)] μ (fun v μ3 => ∃ r3 : Int32, v = some (.int r3) ∧ ∃ j3 : Nat, μ 10 0 0 16 = nI j3 ∧ j3 < 60 ∧ Con G mX8_digit [.ref (zad G.1 10 0 0), .int (nI 1), .int (nI 3)] (up μ3 33 0 0 j3 r3) (fun v μ4 => ∃ r4 : Int32, v = some (.int r4) ∧ ∃ j4 : Nat, μ3 10 0 0 16 = nI j4 ∧ j4 < 60 ∧ VL G mX8_entry P X 211 [(0, .ref (zad G.1 10 0 0)), (1, .int y1)] [] (up μ4 34 0 0 j4 r4)) noX) noX))) :
    VL G mX8_entry P X 145 [(0, .ref (zad G.1 10 0 0)), (1, .int y1)] [] μ := by
  refine v_iload_n (n := 146) dX8_entry_145 rfl rfl ?_
  refine v_bipush (n := 148) (x := nI 103) dX8_entry_146 rfl (by decide) ?_
  refine v_icmp_ne (n := 151) (t := 185) dX8_entry_148 rfl (by decide) (fun hq => ?_) (fun hq => ?_)
  · replace h := h.1 hq
    refine v_aload_n (n := 186) dX8_entry_185 rfl rfl ?_
    refine v_getf (n := 189) dX8_entry_186 rfl fl_X8_31 zokc_10 rfl ?_
    refine v_aload_n (n := 190) dX8_entry_189 rfl rfl ?_
    refine v_getf (n := 193) dX8_entry_190 rfl fl_X8_188 zokc_10 (rfl) ?_
    refine v_aload_n (n := 194) dX8_entry_193 rfl rfl ?_
    refine v_iload_n (n := 195) dX8_entry_194 rfl rfl ?_
    refine v_bipush (n := 197) (x := nI 116) dX8_entry_195 rfl (by decide) ?_
    refine v_icmp_ne (n := 200) (t := 204) dX8_entry_197 rfl (by decide) (fun hq => ?_) (fun hq => ?_)
    · replace h := h.1 hq
      refine v_iconst (n := 205) (x := nI 0) dX8_entry_204 rfl (by decide) ?_
      refine v_bipush (n := 207) (x := nI 9) dX8_entry_205 rfl (by decide) ?_
      refine v_callV (n := 210) (k := 10) (b := 0) (i := 0) (As := [.int (nI 0), .int (nI 9)]) (rest := [.int (μ 10 0 0 16), .ref (zad G.1 33 0 0)]) dX8_entry_207 rfl lk_X8_185 rfl rfl (Nat.le_of_ble_eq_true rfl) ⟨Nat.le_of_ble_eq_true rfl, Nat.le_of_ble_eq_true rfl, Nat.le_of_ble_eq_true rfl, Nat.le_of_ble_eq_true rfl⟩ zokc_10 h (fun v μ1 h => ?_) (fun _ _ hp => False.elim hp)
      obtain ⟨r1, rfl, h⟩ := h
      refine v_norm (st' := [.int r1, .int (μ 10 0 0 16), .ref (zad G.1 33 0 0)]) (cells' := 0) (slots' := 0) rfl rfl rfl ?_
      obtain ⟨j1, ej1, hj1, h⟩ := h
      refine v_iast (n := 211) (j := j1) dX8_entry_210 rfl zokc_33 (by decide) (by decide) rfl ej1 hj1 (fun _ => rfl) ?_
      exact h
    · replace h := h.2 hq
      refine v_iconst (n := 201) (x := nI 1) dX8_entry_200 rfl (by decide) ?_
      refine v_goto (n := 205) dX8_entry_201 (by decide) ?_
      refine v_bipush (n := 207) (x := nI 9) dX8_entry_205 rfl (by decide) ?_
      refine v_callV (n := 210) (k := 10) (b := 0) (i := 0) (As := [.int (nI 1), .int (nI 9)]) (rest := [.int (μ 10 0 0 16), .ref (zad G.1 33 0 0)]) dX8_entry_207 rfl lk_X8_185 rfl rfl (Nat.le_of_ble_eq_true rfl) ⟨Nat.le_of_ble_eq_true rfl, Nat.le_of_ble_eq_true rfl, Nat.le_of_ble_eq_true rfl, Nat.le_of_ble_eq_true rfl⟩ zokc_10 h (fun v μ2 h => ?_) (fun _ _ hp => False.elim hp)
      obtain ⟨r2, rfl, h⟩ := h
      refine v_norm (st' := [.int r2, .int (μ 10 0 0 16), .ref (zad G.1 33 0 0)]) (cells' := 0) (slots' := 0) rfl rfl rfl ?_
      obtain ⟨j2, ej2, hj2, h⟩ := h
      refine v_iast (n := 211) (j := j2) dX8_entry_210 rfl zokc_33 (by decide) (by decide) rfl ej2 hj2 (fun _ => rfl) ?_
      exact h
  · replace h := h.2 hq
    refine v_aload_n (n := 152) dX8_entry_151 rfl rfl ?_
    refine v_getf (n := 155) dX8_entry_152 rfl fl_X8_31 zokc_10 rfl ?_
    refine v_aload_n (n := 156) dX8_entry_155 rfl rfl ?_
    refine v_getf (n := 159) dX8_entry_156 rfl fl_X8_188 zokc_10 (rfl) ?_
    refine v_aload_n (n := 160) dX8_entry_159 rfl rfl ?_
    refine v_iconst (n := 161) (x := nI 0) dX8_entry_160 rfl (by decide) ?_
    refine v_bipush (n := 163) (x := nI 7) dX8_entry_161 rfl (by decide) ?_
    refine v_callV (n := 166) (k := 10) (b := 0) (i := 0) (As := [.int (nI 0), .int (nI 7)]) (rest := [.int (μ 10 0 0 16), .ref (zad G.1 33 0 0)]) dX8_entry_163 rfl lk_X8_185 rfl rfl (Nat.le_of_ble_eq_true rfl) ⟨Nat.le_of_ble_eq_true rfl, Nat.le_of_ble_eq_true rfl, Nat.le_of_ble_eq_true rfl, Nat.le_of_ble_eq_true rfl⟩ zokc_10 h (fun v μ3 h => ?_) (fun _ _ hp => False.elim hp)
    obtain ⟨r3, rfl, h⟩ := h
    refine v_norm (st' := [.int r3, .int (μ 10 0 0 16), .ref (zad G.1 33 0 0)]) (cells' := 0) (slots' := 0) rfl rfl rfl ?_
    obtain ⟨j3, ej3, hj3, h⟩ := h
    refine v_iast (n := 167) (j := j3) dX8_entry_166 rfl zokc_33 (by decide) (by decide) rfl ej3 hj3 (fun _ => rfl) ?_
    refine v_aload_n (n := 168) dX8_entry_167 rfl rfl ?_
    refine v_getf (n := 171) dX8_entry_168 rfl fl_X8_34 zokc_10 rfl ?_
    refine v_aload_n (n := 172) dX8_entry_171 rfl rfl ?_
    refine v_getf (n := 175) dX8_entry_172 rfl fl_X8_188 zokc_10 (congrArg Value.int (up_k (by decide))) ?_
    refine v_aload_n (n := 176) dX8_entry_175 rfl rfl ?_
    refine v_iconst (n := 177) (x := nI 1) dX8_entry_176 rfl (by decide) ?_
    refine v_iconst (n := 178) (x := nI 3) dX8_entry_177 rfl (by decide) ?_
    refine v_callV (n := 181) (k := 10) (b := 0) (i := 0) (As := [.int (nI 1), .int (nI 3)]) (rest := [.int (μ3 10 0 0 16), .ref (zad G.1 34 0 0)]) dX8_entry_178 rfl lk_X8_185 rfl rfl (Nat.le_of_ble_eq_true rfl) ⟨Nat.le_of_ble_eq_true rfl, Nat.le_of_ble_eq_true rfl, Nat.le_of_ble_eq_true rfl, Nat.le_of_ble_eq_true rfl⟩ zokc_10 h (fun v μ4 h => ?_) (fun _ _ hp => False.elim hp)
    obtain ⟨r4, rfl, h⟩ := h
    refine v_norm (st' := [.int r4, .int (μ3 10 0 0 16), .ref (zad G.1 34 0 0)]) (cells' := 0) (slots' := 0) rfl rfl rfl ?_
    obtain ⟨j4, ej4, hj4, h⟩ := h
    refine v_iast (n := 182) (j := j4) dX8_entry_181 rfl zokc_34 (by decide) (by decide) rfl ej4 hj4 (fun _ => rfl) ?_
    refine v_goto (n := 211) dX8_entry_182 (by decide) ?_
    exact h

set_option maxRecDepth 20000 in
set_option maxHeartbeats 4000000 in
theorem wX8_entry_211 (G : Gl) {P : Option Value → St → Prop} {X : String → St → Prop} (y1 : Int32) (μ : St)
    (h : Con G mX8_take [.ref (zad G.1 10 0 0), .int (nI 59)] μ (fun v μ1 => v = none ∧ P none (up μ1 10 0 0 16 ((μ1 10 0 0 16) + (nI 1)))) noX) :
    VL G mX8_entry P X 211 [(0, .ref (zad G.1 10 0 0)), (1, .int y1)] [] μ := by
  refine v_aload_n (n := 212) dX8_entry_211 rfl rfl ?_
  refine v_bipush (n := 214) (x := nI 59) dX8_entry_212 rfl (by decide) ?_
  refine v_callV (n := 217) (k := 10) (b := 0) (i := 0) (As := [.int (nI 59)]) (rest := []) dX8_entry_214 rfl lk_X8_194 rfl rfl (Nat.le_of_ble_eq_true rfl) ⟨Nat.le_of_ble_eq_true rfl, Nat.le_of_ble_eq_true rfl, Nat.le_of_ble_eq_true rfl, Nat.le_of_ble_eq_true rfl⟩ zokc_10 h (fun v μ1 h => ?_) (fun _ _ hp => False.elim hp)
  obtain ⟨rfl, h⟩ := h
  refine v_norm (st' := []) (cells' := 0) (slots' := 0) rfl rfl rfl ?_
  refine v_aload_n (n := 218) dX8_entry_217 rfl rfl ?_
  refine v_dup (n := 219) dX8_entry_218 rfl rfl ?_
  refine v_getf (n := 222) dX8_entry_219 rfl fl_X8_188 zokc_10 (rfl) ?_
  refine v_iconst (n := 223) (x := nI 1) dX8_entry_222 rfl (by decide) ?_
  refine v_iadd (n := 224) dX8_entry_223 rfl ?_
  refine v_putf (n := 227) dX8_entry_224 rfl fw_X8_188 zokc_10 (fun _ => rfl) rfl rfl ?_
  exact v_vret dX8_entry_227 rfl (Nat.le_of_ble_eq_true rfl) (Nat.le_of_ble_eq_true rfl) h

