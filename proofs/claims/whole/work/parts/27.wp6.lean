/-! wp-lemmas by program (wip/whole/wp.py) -/
set_option maxRecDepth 20000 in
set_option maxHeartbeats 4000000 in
theorem wX7_clear (G : Gl) {P : Option Value → St → Prop} {X : String → St → Prop}  (μ : St)
    (h : Con G mX0_becomeEmpty [.ref (zad G.1 2 0 0)] μ (fun v μ1 => v = none ∧ Con G mX2_forgetAll [.ref (zad G.1 4 0 0)] μ1 (fun v μ2 => v = none ∧ P (some (.int (μ 2 0 0 5))) μ2) noX) noX) :
    Con G mX7_clear [.ref (zad G.1 9 0 0)] μ P X := by
  refine con_of pn_X7 rfl (Nat.le_of_ble_eq_true rfl) ?_
  show VL G mX7_clear P X 0 [(0, .ref (zad G.1 9 0 0))] [] μ
  refine v_aload_n (n := 1) dX7_clear_0 rfl rfl ?_
  refine v_getf (n := 4) dX7_clear_1 rfl fl_X7_12 zokc_9 rfl ?_
  refine v_getf (n := 7) dX7_clear_4 rfl fl_X7_54 (zok_2 (by decide)) (rfl) ?_
  refine v_istore_n (n := 8) (L' := [(0, .ref (zad G.1 9 0 0)), (1, .int (μ 2 0 0 5))]) dX7_clear_7 rfl (by decide) rfl ?_
  refine v_aload_n (n := 9) dX7_clear_8 rfl rfl ?_
  refine v_getf (n := 12) dX7_clear_9 rfl fl_X7_12 zokc_9 rfl ?_
  refine v_callV (n := 15) (k := 2) (b := 0) (i := 0) (As := []) (rest := []) dX7_clear_12 rfl lk_X7_57 rfl rfl (Nat.le_of_ble_eq_true rfl) ⟨Nat.le_of_ble_eq_true rfl, Nat.le_of_ble_eq_true rfl, Nat.le_of_ble_eq_true rfl, Nat.le_of_ble_eq_true rfl⟩ (zok_2 (by decide)) h (fun v μ1 h => ?_) (fun _ _ hp => False.elim hp)
  obtain ⟨rfl, h⟩ := h
  refine v_norm (st' := []) (cells' := 0) (slots' := 0) rfl rfl rfl ?_
  refine v_aload_n (n := 16) dX7_clear_15 rfl rfl ?_
  refine v_getf (n := 19) dX7_clear_16 rfl fl_X7_25 zokc_9 rfl ?_
  refine v_callV (n := 22) (k := 4) (b := 0) (i := 0) (As := []) (rest := []) dX7_clear_19 rfl lk_X7_60 rfl rfl (Nat.le_of_ble_eq_true rfl) ⟨Nat.le_of_ble_eq_true rfl, Nat.le_of_ble_eq_true rfl, Nat.le_of_ble_eq_true rfl, Nat.le_of_ble_eq_true rfl⟩ zokc_4 h (fun v μ2 h => ?_) (fun _ _ hp => False.elim hp)
  obtain ⟨rfl, h⟩ := h
  refine v_norm (st' := []) (cells' := 0) (slots' := 0) rfl rfl rfl ?_
  refine v_iload_n (n := 23) dX7_clear_22 rfl rfl ?_
  exact v_iret dX7_clear_23 rfl (Nat.le_of_ble_eq_true rfl) (Nat.le_of_ble_eq_true rfl) h

set_option maxRecDepth 20000 in
set_option maxHeartbeats 4000000 in
theorem wX7_addLift (G : Gl) {P : Option Value → St → Prop} {X : String → St → Prop} (x1 : Int32) (x2 : Int32) (x3 : Int32) (x4 : Int32) (x5 : Int32) (x6 : Int32) (μ : St)
    (h : ((isSt x1 = false → X "java/lang/IndexOutOfBoundsException" μ) ∧ (isSt x1 = true → ((isSt x2 = true → ((x1 = x2 → X "java/lang/IllegalArgumentException" μ) ∧ (¬ x1 = x2 → ((btw x3 (nI 0) (nI 3) = false → X "java/lang/IllegalArgumentException" μ) ∧ (btw x3 (nI 0) (nI 3) = true → ((btw x4 (nI 1) (nI 6) = false → X "java/lang/IllegalArgumentException" μ) ∧ (btw x4 (nI 1) (nI 6) = true → ((btw x5 (nI 1) (nI 8) = false → X "java/lang/IllegalArgumentException" μ) ∧ (btw x5 (nI 1) (nI 8) = true → ((btw (x6 / (nI 10)) (nI 1) (nI 9) = false → X "java/lang/IllegalArgumentException" μ) ∧ (btw (x6 / (nI 10)) (nI 1) (nI 9) = true → ((btw (x6 - x6 / (nI 10) * (nI 10)) (nI 0) (nI 3) = true → ((μ 2 0 0 3 < nI 6 → Con G mX2_remember [.ref (zad G.1 4 0 0), .ref (zad G.1 2 0 0)] μ (fun v μ1 => v = none ∧ ∃ j1 : Nat, μ1 2 0 0 3 = nI j1 ∧ j1 < 6 ∧ Con G mX4_begin [.ref (zad G.1 6 0 j1), .int x1, .int x2, .int x3, .int x4, .int x5, .int x6] μ1 (fun v μ2 => v = none ∧ P (some (.int (((μ2 2 0 0 3) + (nI 1)) - (nI 1)))) (up μ2 2 0 0 3 ((μ2 2 0 0 3) + (nI 1)))) noX) noX) ∧ (¬ μ 2 0 0 3 < nI 6 → X "java/lang/IllegalStateException" μ))) ∧ (btw (x6 - x6 / (nI 10) * (nI 10)) (nI 0) (nI 3) = false → X "java/lang/IllegalArgumentException" μ))))))))))))) ∧ (isSt x2 = false → X "java/lang/IndexOutOfBoundsException" μ))))) :
    Con G mX7_addLift [.ref (zad G.1 9 0 0), .int x1, .int x2, .int x3, .int x4, .int x5, .int x6] μ P X := by
  refine con_of pn_X7 rfl (Nat.le_of_ble_eq_true rfl) ?_
  show VL G mX7_addLift P X 0 [(0, .ref (zad G.1 9 0 0)), (1, .int x1), (2, .int x2), (3, .int x3), (4, .int x4), (5, .int x5), (6, .int x6)] [] μ
  refine v_iload_n (n := 1) dX7_addLift_0 rfl rfl ?_
  refine v_callS (n := 4) (As := [.int x1]) (rest := []) dX7_addLift_1 rfl lk_X7_63 rfl rfl (Nat.le_of_ble_eq_true rfl) ⟨Nat.le_of_ble_eq_true rfl, Nat.le_of_ble_eq_true rfl, Nat.le_of_ble_eq_true rfl, Nat.le_of_ble_eq_true rfl⟩ (s_X7_isStation G x1 μ) (fun v μ9 hp => ?_) (fun _ _ hp => False.elim hp)
  rw [hp.1, hp.2]
  refine v_norm (st' := [.int (bI (isSt x1))]) (cells' := 0) (slots' := 0) rfl rfl rfl ?_
  refine v_if_eq (n := 7) (t := 14) dX7_addLift_4 rfl (by decide) (fun hq => ?_) (fun hq => ?_)
  · replace h := h.1 (bI_f hq)
    exact v_throw lt_IndexOutOfBoundsException_69 rfl dX7_addLift_14 dX7_addLift_17 dX7_addLift_18 dX7_addLift_20 dX7_addLift_23 ⟨Nat.le_of_ble_eq_true rfl, Nat.le_of_ble_eq_true rfl, Nat.le_of_ble_eq_true rfl, Nat.le_of_ble_eq_true rfl⟩ (Nat.le_of_ble_eq_true rfl) (Nat.le_of_ble_eq_true rfl) h
  · replace h := h.2 (bI_nf hq)
    refine v_iload_n (n := 8) dX7_addLift_7 rfl rfl ?_
    refine v_callS (n := 11) (As := [.int x2]) (rest := []) dX7_addLift_8 rfl lk_X7_63 rfl rfl (Nat.le_of_ble_eq_true rfl) ⟨Nat.le_of_ble_eq_true rfl, Nat.le_of_ble_eq_true rfl, Nat.le_of_ble_eq_true rfl, Nat.le_of_ble_eq_true rfl⟩ (s_X7_isStation G x2 μ) (fun v μ9 hp => ?_) (fun _ _ hp => False.elim hp)
    rw [hp.1, hp.2]
    refine v_norm (st' := [.int (bI (isSt x2))]) (cells' := 0) (slots' := 0) rfl rfl rfl ?_
    refine v_if_ne (n := 14) (t := 24) dX7_addLift_11 rfl (by decide) (fun hq => ?_) (fun hq => ?_)
    · replace h := h.1 (bI_nf hq)
      refine v_iload_n (n := 25) dX7_addLift_24 rfl rfl ?_
      refine v_iload_n (n := 26) dX7_addLift_25 rfl rfl ?_
      refine v_icmp_eq (n := 29) (t := 87) dX7_addLift_26 rfl (by decide) (fun hq => ?_) (fun hq => ?_)
      · replace h := h.1 hq
        exact v_throw lt_IllegalArgumentException_80 rfl dX7_addLift_87 dX7_addLift_90 dX7_addLift_91 dX7_addLift_93 dX7_addLift_96 ⟨Nat.le_of_ble_eq_true rfl, Nat.le_of_ble_eq_true rfl, Nat.le_of_ble_eq_true rfl, Nat.le_of_ble_eq_true rfl⟩ (Nat.le_of_ble_eq_true rfl) (Nat.le_of_ble_eq_true rfl) h
      · replace h := h.2 hq
        refine v_iload_n (n := 30) dX7_addLift_29 rfl rfl ?_
        refine v_iconst (n := 31) (x := nI 0) dX7_addLift_30 rfl (by decide) ?_
        refine v_iconst (n := 32) (x := nI 3) dX7_addLift_31 rfl (by decide) ?_
        refine v_callS (n := 35) (As := [.int x3, .int (nI 0), .int (nI 3)]) (rest := []) dX7_addLift_32 rfl lk_X7_74 rfl rfl (Nat.le_of_ble_eq_true rfl) ⟨Nat.le_of_ble_eq_true rfl, Nat.le_of_ble_eq_true rfl, Nat.le_of_ble_eq_true rfl, Nat.le_of_ble_eq_true rfl⟩ (s_X7_isBetween G x3 (nI 0) (nI 3) μ) (fun v μ9 hp => ?_) (fun _ _ hp => False.elim hp)
        rw [hp.1, hp.2]
        refine v_norm (st' := [.int (bI (btw x3 (nI 0) (nI 3)))]) (cells' := 0) (slots' := 0) rfl rfl rfl ?_
        refine v_if_eq (n := 38) (t := 87) dX7_addLift_35 rfl (by decide) (fun hq => ?_) (fun hq => ?_)
        · replace h := h.1 (bI_f hq)
          exact v_throw lt_IllegalArgumentException_80 rfl dX7_addLift_87 dX7_addLift_90 dX7_addLift_91 dX7_addLift_93 dX7_addLift_96 ⟨Nat.le_of_ble_eq_true rfl, Nat.le_of_ble_eq_true rfl, Nat.le_of_ble_eq_true rfl, Nat.le_of_ble_eq_true rfl⟩ (Nat.le_of_ble_eq_true rfl) (Nat.le_of_ble_eq_true rfl) h
        · replace h := h.2 (bI_nf hq)
          refine v_iload (n := 40) dX7_addLift_38 rfl rfl ?_
          refine v_iconst (n := 41) (x := nI 1) dX7_addLift_40 rfl (by decide) ?_
          refine v_bipush (n := 43) (x := nI 6) dX7_addLift_41 rfl (by decide) ?_
          refine v_callS (n := 46) (As := [.int x4, .int (nI 1), .int (nI 6)]) (rest := []) dX7_addLift_43 rfl lk_X7_74 rfl rfl (Nat.le_of_ble_eq_true rfl) ⟨Nat.le_of_ble_eq_true rfl, Nat.le_of_ble_eq_true rfl, Nat.le_of_ble_eq_true rfl, Nat.le_of_ble_eq_true rfl⟩ (s_X7_isBetween G x4 (nI 1) (nI 6) μ) (fun v μ9 hp => ?_) (fun _ _ hp => False.elim hp)
          rw [hp.1, hp.2]
          refine v_norm (st' := [.int (bI (btw x4 (nI 1) (nI 6)))]) (cells' := 0) (slots' := 0) rfl rfl rfl ?_
          refine v_if_eq (n := 49) (t := 87) dX7_addLift_46 rfl (by decide) (fun hq => ?_) (fun hq => ?_)
          · replace h := h.1 (bI_f hq)
            exact v_throw lt_IllegalArgumentException_80 rfl dX7_addLift_87 dX7_addLift_90 dX7_addLift_91 dX7_addLift_93 dX7_addLift_96 ⟨Nat.le_of_ble_eq_true rfl, Nat.le_of_ble_eq_true rfl, Nat.le_of_ble_eq_true rfl, Nat.le_of_ble_eq_true rfl⟩ (Nat.le_of_ble_eq_true rfl) (Nat.le_of_ble_eq_true rfl) h
          · replace h := h.2 (bI_nf hq)
            refine v_iload (n := 51) dX7_addLift_49 rfl rfl ?_
            refine v_iconst (n := 52) (x := nI 1) dX7_addLift_51 rfl (by decide) ?_
            refine v_bipush (n := 54) (x := nI 8) dX7_addLift_52 rfl (by decide) ?_
            refine v_callS (n := 57) (As := [.int x5, .int (nI 1), .int (nI 8)]) (rest := []) dX7_addLift_54 rfl lk_X7_74 rfl rfl (Nat.le_of_ble_eq_true rfl) ⟨Nat.le_of_ble_eq_true rfl, Nat.le_of_ble_eq_true rfl, Nat.le_of_ble_eq_true rfl, Nat.le_of_ble_eq_true rfl⟩ (s_X7_isBetween G x5 (nI 1) (nI 8) μ) (fun v μ9 hp => ?_) (fun _ _ hp => False.elim hp)
            rw [hp.1, hp.2]
            refine v_norm (st' := [.int (bI (btw x5 (nI 1) (nI 8)))]) (cells' := 0) (slots' := 0) rfl rfl rfl ?_
            refine v_if_eq (n := 60) (t := 87) dX7_addLift_57 rfl (by decide) (fun hq => ?_) (fun hq => ?_)
            · replace h := h.1 (bI_f hq)
              exact v_throw lt_IllegalArgumentException_80 rfl dX7_addLift_87 dX7_addLift_90 dX7_addLift_91 dX7_addLift_93 dX7_addLift_96 ⟨Nat.le_of_ble_eq_true rfl, Nat.le_of_ble_eq_true rfl, Nat.le_of_ble_eq_true rfl, Nat.le_of_ble_eq_true rfl⟩ (Nat.le_of_ble_eq_true rfl) (Nat.le_of_ble_eq_true rfl) h
            · replace h := h.2 (bI_nf hq)
              refine v_iload (n := 62) dX7_addLift_60 rfl rfl ?_
              refine v_bipush (n := 64) (x := nI 10) dX7_addLift_62 rfl (by decide) ?_
              refine v_idiv (n := 65) dX7_addLift_64 rfl (by decide) ?_
              refine v_iconst (n := 66) (x := nI 1) dX7_addLift_65 rfl (by decide) ?_
              refine v_bipush (n := 68) (x := nI 9) dX7_addLift_66 rfl (by decide) ?_
              refine v_callS (n := 71) (As := [.int (x6 / (nI 10)), .int (nI 1), .int (nI 9)]) (rest := []) dX7_addLift_68 rfl lk_X7_74 rfl rfl (Nat.le_of_ble_eq_true rfl) ⟨Nat.le_of_ble_eq_true rfl, Nat.le_of_ble_eq_true rfl, Nat.le_of_ble_eq_true rfl, Nat.le_of_ble_eq_true rfl⟩ (s_X7_isBetween G (x6 / (nI 10)) (nI 1) (nI 9) μ) (fun v μ9 hp => ?_) (fun _ _ hp => False.elim hp)
              rw [hp.1, hp.2]
              refine v_norm (st' := [.int (bI (btw (x6 / (nI 10)) (nI 1) (nI 9)))]) (cells' := 0) (slots' := 0) rfl rfl rfl ?_
              refine v_if_eq (n := 74) (t := 87) dX7_addLift_71 rfl (by decide) (fun hq => ?_) (fun hq => ?_)
              · replace h := h.1 (bI_f hq)
                exact v_throw lt_IllegalArgumentException_80 rfl dX7_addLift_87 dX7_addLift_90 dX7_addLift_91 dX7_addLift_93 dX7_addLift_96 ⟨Nat.le_of_ble_eq_true rfl, Nat.le_of_ble_eq_true rfl, Nat.le_of_ble_eq_true rfl, Nat.le_of_ble_eq_true rfl⟩ (Nat.le_of_ble_eq_true rfl) (Nat.le_of_ble_eq_true rfl) h
              · replace h := h.2 (bI_nf hq)
                refine v_iload (n := 76) dX7_addLift_74 rfl rfl ?_
                refine v_bipush (n := 78) (x := nI 10) dX7_addLift_76 rfl (by decide) ?_
                refine v_irem (n := 79) dX7_addLift_78 rfl (by decide) ?_
                refine v_iconst (n := 80) (x := nI 0) dX7_addLift_79 rfl (by decide) ?_
                refine v_iconst (n := 81) (x := nI 3) dX7_addLift_80 rfl (by decide) ?_
                refine v_callS (n := 84) (As := [.int (x6 - x6 / (nI 10) * (nI 10)), .int (nI 0), .int (nI 3)]) (rest := []) dX7_addLift_81 rfl lk_X7_74 rfl rfl (Nat.le_of_ble_eq_true rfl) ⟨Nat.le_of_ble_eq_true rfl, Nat.le_of_ble_eq_true rfl, Nat.le_of_ble_eq_true rfl, Nat.le_of_ble_eq_true rfl⟩ (s_X7_isBetween G (x6 - x6 / (nI 10) * (nI 10)) (nI 0) (nI 3) μ) (fun v μ9 hp => ?_) (fun _ _ hp => False.elim hp)
                rw [hp.1, hp.2]
                refine v_norm (st' := [.int (bI (btw (x6 - x6 / (nI 10) * (nI 10)) (nI 0) (nI 3)))]) (cells' := 0) (slots' := 0) rfl rfl rfl ?_
                refine v_if_ne (n := 87) (t := 97) dX7_addLift_84 rfl (by decide) (fun hq => ?_) (fun hq => ?_)
                · replace h := h.1 (bI_nf hq)
                  refine v_aload_n (n := 98) dX7_addLift_97 rfl rfl ?_
                  refine v_getf (n := 101) dX7_addLift_98 rfl fl_X7_12 zokc_9 rfl ?_
                  refine v_getf (n := 104) dX7_addLift_101 rfl fl_X7_83 (zok_2 (by decide)) (rfl) ?_
                  refine v_bipush (n := 106) (x := nI 6) dX7_addLift_104 rfl (by decide) ?_
                  refine v_icmp_lt (n := 109) (t := 119) dX7_addLift_106 rfl (by decide) (fun hq => ?_) (fun hq => ?_)
                  · replace h := h.1 hq
                    refine v_aload_n (n := 120) dX7_addLift_119 rfl rfl ?_
                    refine v_getf (n := 123) dX7_addLift_120 rfl fl_X7_25 zokc_9 rfl ?_
                    refine v_aload_n (n := 124) dX7_addLift_123 rfl rfl ?_
                    refine v_getf (n := 127) dX7_addLift_124 rfl fl_X7_12 zokc_9 rfl ?_
                    refine v_callV (n := 130) (k := 4) (b := 0) (i := 0) (As := [.ref (zad G.1 2 0 0)]) (rest := []) dX7_addLift_127 rfl lk_X7_91 rfl rfl (Nat.le_of_ble_eq_true rfl) ⟨Nat.le_of_ble_eq_true rfl, Nat.le_of_ble_eq_true rfl, Nat.le_of_ble_eq_true rfl, Nat.le_of_ble_eq_true rfl⟩ zokc_4 h (fun v μ1 h => ?_) (fun _ _ hp => False.elim hp)
                    obtain ⟨rfl, h⟩ := h
                    refine v_norm (st' := []) (cells' := 0) (slots' := 0) rfl rfl rfl ?_
                    refine v_aload_n (n := 131) dX7_addLift_130 rfl rfl ?_
                    refine v_getf (n := 134) dX7_addLift_131 rfl fl_X7_12 zokc_9 rfl ?_
                    refine v_getf (n := 137) dX7_addLift_134 rfl fl_X7_95 (zok_2 (by decide)) rfl ?_
                    refine v_aload_n (n := 138) dX7_addLift_137 rfl rfl ?_
                    refine v_getf (n := 141) dX7_addLift_138 rfl fl_X7_12 zokc_9 rfl ?_
                    refine v_getf (n := 144) dX7_addLift_141 rfl fl_X7_83 (zok_2 (by decide)) (rfl) ?_
                    obtain ⟨j1, ej1, hj1, h⟩ := h
                    refine v_aald (n := 145) (j := j1) dX7_addLift_144 rfl (zok_20 (by decide)) (by decide) rfl ej1 hj1 rfl ?_
                    refine v_iload_n (n := 146) dX7_addLift_145 rfl rfl ?_
                    refine v_iload_n (n := 147) dX7_addLift_146 rfl rfl ?_
                    refine v_iload_n (n := 148) dX7_addLift_147 rfl rfl ?_
                    refine v_iload (n := 150) dX7_addLift_148 rfl rfl ?_
                    refine v_iload (n := 152) dX7_addLift_150 rfl rfl ?_
                    refine v_iload (n := 154) dX7_addLift_152 rfl rfl ?_
                    refine v_callV (n := 157) (k := 6) (b := 0) (i := j1) (As := [.int x1, .int x2, .int x3, .int x4, .int x5, .int x6]) (rest := []) dX7_addLift_154 rfl lk_X7_99 rfl rfl (Nat.le_of_ble_eq_true rfl) ⟨Nat.le_of_ble_eq_true rfl, Nat.le_of_ble_eq_true rfl, Nat.le_of_ble_eq_true rfl, Nat.le_of_ble_eq_true rfl⟩ (zok_6 (by decide) hj1) h (fun v μ2 h => ?_) (fun _ _ hp => False.elim hp)
                    obtain ⟨rfl, h⟩ := h
                    refine v_norm (st' := []) (cells' := 0) (slots' := 0) rfl rfl rfl ?_
                    refine v_aload_n (n := 158) dX7_addLift_157 rfl rfl ?_
                    refine v_getf (n := 161) dX7_addLift_158 rfl fl_X7_12 zokc_9 rfl ?_
                    refine v_dup (n := 162) dX7_addLift_161 rfl rfl ?_
                    refine v_getf (n := 165) dX7_addLift_162 rfl fl_X7_83 (zok_2 (by decide)) (rfl) ?_
                    refine v_iconst (n := 166) (x := nI 1) dX7_addLift_165 rfl (by decide) ?_
                    refine v_iadd (n := 167) dX7_addLift_166 rfl ?_
                    refine v_putf (n := 170) dX7_addLift_167 rfl fw_X7_83 (zok_2 (by decide)) (fun _ => rfl) rfl rfl ?_
                    refine v_aload_n (n := 171) dX7_addLift_170 rfl rfl ?_
                    refine v_getf (n := 174) dX7_addLift_171 rfl fl_X7_12 zokc_9 rfl ?_
                    refine v_getf (n := 177) dX7_addLift_174 rfl fl_X7_83 (zok_2 (by decide)) (congrArg Value.int (up_self _ _ _ _ _ _)) ?_
                    refine v_iconst (n := 178) (x := nI 1) dX7_addLift_177 rfl (by decide) ?_
                    refine v_isub (n := 179) dX7_addLift_178 rfl ?_
                    exact v_iret dX7_addLift_179 rfl (Nat.le_of_ble_eq_true rfl) (Nat.le_of_ble_eq_true rfl) h
                  · replace h := h.2 hq
                    exact v_throw lt_IllegalStateException_88 rfl dX7_addLift_109 dX7_addLift_112 dX7_addLift_113 dX7_addLift_115 dX7_addLift_118 ⟨Nat.le_of_ble_eq_true rfl, Nat.le_of_ble_eq_true rfl, Nat.le_of_ble_eq_true rfl, Nat.le_of_ble_eq_true rfl⟩ (Nat.le_of_ble_eq_true rfl) (Nat.le_of_ble_eq_true rfl) h
                · replace h := h.2 (bI_f hq)
                  exact v_throw lt_IllegalArgumentException_80 rfl dX7_addLift_87 dX7_addLift_90 dX7_addLift_91 dX7_addLift_93 dX7_addLift_96 ⟨Nat.le_of_ble_eq_true rfl, Nat.le_of_ble_eq_true rfl, Nat.le_of_ble_eq_true rfl, Nat.le_of_ble_eq_true rfl⟩ (Nat.le_of_ble_eq_true rfl) (Nat.le_of_ble_eq_true rfl) h
    · replace h := h.2 (bI_f hq)
      exact v_throw lt_IndexOutOfBoundsException_69 rfl dX7_addLift_14 dX7_addLift_17 dX7_addLift_18 dX7_addLift_20 dX7_addLift_23 ⟨Nat.le_of_ble_eq_true rfl, Nat.le_of_ble_eq_true rfl, Nat.le_of_ble_eq_true rfl, Nat.le_of_ble_eq_true rfl⟩ (Nat.le_of_ble_eq_true rfl) (Nat.le_of_ble_eq_true rfl) h

set_option maxRecDepth 20000 in
set_option maxHeartbeats 4000000 in
theorem wX7_addPiste (G : Gl) {P : Option Value → St → Prop} {X : String → St → Prop} (x1 : Int32) (x2 : Int32) (x3 : Int32) (x4 : Int32) (μ : St)
    (h : ((isSt x1 = false → X "java/lang/IndexOutOfBoundsException" μ) ∧ (isSt x1 = true → ((isSt x2 = true → ((x1 = x2 → X "java/lang/IllegalArgumentException" μ) ∧ (¬ x1 = x2 → ((btw x3 (nI 1) (nI 3) = false → X "java/lang/IllegalArgumentException" μ) ∧ (btw x3 (nI 1) (nI 3) = true → ((btw x4 (nI 1) (nI 9) = true → ((μ 2 0 0 4 < nI 10 → Con G mX2_remember [.ref (zad G.1 4 0 0), .ref (zad G.1 2 0 0)] μ (fun v μ1 => v = none ∧ ∃ j1 : Nat, μ1 2 0 0 4 = nI j1 ∧ j1 < 10 ∧ Con G mX5_begin [.ref (zad G.1 7 0 j1), .int x1, .int x2, .int x3, .int x4] μ1 (fun v μ2 => v = none ∧ P (some (.int (((μ2 2 0 0 4) + (nI 1)) - (nI 1)))) (up μ2 2 0 0 4 ((μ2 2 0 0 4) + (nI 1)))) noX) noX) ∧ (¬ μ 2 0 0 4 < nI 10 → X "java/lang/IllegalStateException" μ))) ∧ (btw x4 (nI 1) (nI 9) = false → X "java/lang/IllegalArgumentException" μ))))))) ∧ (isSt x2 = false → X "java/lang/IndexOutOfBoundsException" μ))))) :
    Con G mX7_addPiste [.ref (zad G.1 9 0 0), .int x1, .int x2, .int x3, .int x4] μ P X := by
  refine con_of pn_X7 rfl (Nat.le_of_ble_eq_true rfl) ?_
  show VL G mX7_addPiste P X 0 [(0, .ref (zad G.1 9 0 0)), (1, .int x1), (2, .int x2), (3, .int x3), (4, .int x4)] [] μ
  refine v_iload_n (n := 1) dX7_addPiste_0 rfl rfl ?_
  refine v_callS (n := 4) (As := [.int x1]) (rest := []) dX7_addPiste_1 rfl lk_X7_63 rfl rfl (Nat.le_of_ble_eq_true rfl) ⟨Nat.le_of_ble_eq_true rfl, Nat.le_of_ble_eq_true rfl, Nat.le_of_ble_eq_true rfl, Nat.le_of_ble_eq_true rfl⟩ (s_X7_isStation G x1 μ) (fun v μ9 hp => ?_) (fun _ _ hp => False.elim hp)
  rw [hp.1, hp.2]
  refine v_norm (st' := [.int (bI (isSt x1))]) (cells' := 0) (slots' := 0) rfl rfl rfl ?_
  refine v_if_eq (n := 7) (t := 14) dX7_addPiste_4 rfl (by decide) (fun hq => ?_) (fun hq => ?_)
  · replace h := h.1 (bI_f hq)
    exact v_throw lt_IndexOutOfBoundsException_69 rfl dX7_addPiste_14 dX7_addPiste_17 dX7_addPiste_18 dX7_addPiste_20 dX7_addPiste_23 ⟨Nat.le_of_ble_eq_true rfl, Nat.le_of_ble_eq_true rfl, Nat.le_of_ble_eq_true rfl, Nat.le_of_ble_eq_true rfl⟩ (Nat.le_of_ble_eq_true rfl) (Nat.le_of_ble_eq_true rfl) h
  · replace h := h.2 (bI_nf hq)
    refine v_iload_n (n := 8) dX7_addPiste_7 rfl rfl ?_
    refine v_callS (n := 11) (As := [.int x2]) (rest := []) dX7_addPiste_8 rfl lk_X7_63 rfl rfl (Nat.le_of_ble_eq_true rfl) ⟨Nat.le_of_ble_eq_true rfl, Nat.le_of_ble_eq_true rfl, Nat.le_of_ble_eq_true rfl, Nat.le_of_ble_eq_true rfl⟩ (s_X7_isStation G x2 μ) (fun v μ9 hp => ?_) (fun _ _ hp => False.elim hp)
    rw [hp.1, hp.2]
    refine v_norm (st' := [.int (bI (isSt x2))]) (cells' := 0) (slots' := 0) rfl rfl rfl ?_
    refine v_if_ne (n := 14) (t := 24) dX7_addPiste_11 rfl (by decide) (fun hq => ?_) (fun hq => ?_)
    · replace h := h.1 (bI_nf hq)
      refine v_iload_n (n := 25) dX7_addPiste_24 rfl rfl ?_
      refine v_iload_n (n := 26) dX7_addPiste_25 rfl rfl ?_
      refine v_icmp_eq (n := 29) (t := 49) dX7_addPiste_26 rfl (by decide) (fun hq => ?_) (fun hq => ?_)
      · replace h := h.1 hq
        exact v_throw lt_IllegalArgumentException_105 rfl dX7_addPiste_49 dX7_addPiste_52 dX7_addPiste_53 dX7_addPiste_55 dX7_addPiste_58 ⟨Nat.le_of_ble_eq_true rfl, Nat.le_of_ble_eq_true rfl, Nat.le_of_ble_eq_true rfl, Nat.le_of_ble_eq_true rfl⟩ (Nat.le_of_ble_eq_true rfl) (Nat.le_of_ble_eq_true rfl) h
      · replace h := h.2 hq
        refine v_iload_n (n := 30) dX7_addPiste_29 rfl rfl ?_
        refine v_iconst (n := 31) (x := nI 1) dX7_addPiste_30 rfl (by decide) ?_
        refine v_iconst (n := 32) (x := nI 3) dX7_addPiste_31 rfl (by decide) ?_
        refine v_callS (n := 35) (As := [.int x3, .int (nI 1), .int (nI 3)]) (rest := []) dX7_addPiste_32 rfl lk_X7_74 rfl rfl (Nat.le_of_ble_eq_true rfl) ⟨Nat.le_of_ble_eq_true rfl, Nat.le_of_ble_eq_true rfl, Nat.le_of_ble_eq_true rfl, Nat.le_of_ble_eq_true rfl⟩ (s_X7_isBetween G x3 (nI 1) (nI 3) μ) (fun v μ9 hp => ?_) (fun _ _ hp => False.elim hp)
        rw [hp.1, hp.2]
        refine v_norm (st' := [.int (bI (btw x3 (nI 1) (nI 3)))]) (cells' := 0) (slots' := 0) rfl rfl rfl ?_
        refine v_if_eq (n := 38) (t := 49) dX7_addPiste_35 rfl (by decide) (fun hq => ?_) (fun hq => ?_)
        · replace h := h.1 (bI_f hq)
          exact v_throw lt_IllegalArgumentException_105 rfl dX7_addPiste_49 dX7_addPiste_52 dX7_addPiste_53 dX7_addPiste_55 dX7_addPiste_58 ⟨Nat.le_of_ble_eq_true rfl, Nat.le_of_ble_eq_true rfl, Nat.le_of_ble_eq_true rfl, Nat.le_of_ble_eq_true rfl⟩ (Nat.le_of_ble_eq_true rfl) (Nat.le_of_ble_eq_true rfl) h
        · replace h := h.2 (bI_nf hq)
          refine v_iload (n := 40) dX7_addPiste_38 rfl rfl ?_
          refine v_iconst (n := 41) (x := nI 1) dX7_addPiste_40 rfl (by decide) ?_
          refine v_bipush (n := 43) (x := nI 9) dX7_addPiste_41 rfl (by decide) ?_
          refine v_callS (n := 46) (As := [.int x4, .int (nI 1), .int (nI 9)]) (rest := []) dX7_addPiste_43 rfl lk_X7_74 rfl rfl (Nat.le_of_ble_eq_true rfl) ⟨Nat.le_of_ble_eq_true rfl, Nat.le_of_ble_eq_true rfl, Nat.le_of_ble_eq_true rfl, Nat.le_of_ble_eq_true rfl⟩ (s_X7_isBetween G x4 (nI 1) (nI 9) μ) (fun v μ9 hp => ?_) (fun _ _ hp => False.elim hp)
          rw [hp.1, hp.2]
          refine v_norm (st' := [.int (bI (btw x4 (nI 1) (nI 9)))]) (cells' := 0) (slots' := 0) rfl rfl rfl ?_
          refine v_if_ne (n := 49) (t := 59) dX7_addPiste_46 rfl (by decide) (fun hq => ?_) (fun hq => ?_)
          · replace h := h.1 (bI_nf hq)
            refine v_aload_n (n := 60) dX7_addPiste_59 rfl rfl ?_
            refine v_getf (n := 63) dX7_addPiste_60 rfl fl_X7_12 zokc_9 rfl ?_
            refine v_getf (n := 66) dX7_addPiste_63 rfl fl_X7_107 (zok_2 (by decide)) (rfl) ?_
            refine v_bipush (n := 68) (x := nI 10) dX7_addPiste_66 rfl (by decide) ?_
            refine v_icmp_lt (n := 71) (t := 81) dX7_addPiste_68 rfl (by decide) (fun hq => ?_) (fun hq => ?_)
            · replace h := h.1 hq
              refine v_aload_n (n := 82) dX7_addPiste_81 rfl rfl ?_
              refine v_getf (n := 85) dX7_addPiste_82 rfl fl_X7_25 zokc_9 rfl ?_
              refine v_aload_n (n := 86) dX7_addPiste_85 rfl rfl ?_
              refine v_getf (n := 89) dX7_addPiste_86 rfl fl_X7_12 zokc_9 rfl ?_
              refine v_callV (n := 92) (k := 4) (b := 0) (i := 0) (As := [.ref (zad G.1 2 0 0)]) (rest := []) dX7_addPiste_89 rfl lk_X7_91 rfl rfl (Nat.le_of_ble_eq_true rfl) ⟨Nat.le_of_ble_eq_true rfl, Nat.le_of_ble_eq_true rfl, Nat.le_of_ble_eq_true rfl, Nat.le_of_ble_eq_true rfl⟩ zokc_4 h (fun v μ1 h => ?_) (fun _ _ hp => False.elim hp)
              obtain ⟨rfl, h⟩ := h
              refine v_norm (st' := []) (cells' := 0) (slots' := 0) rfl rfl rfl ?_
              refine v_aload_n (n := 93) dX7_addPiste_92 rfl rfl ?_
              refine v_getf (n := 96) dX7_addPiste_93 rfl fl_X7_12 zokc_9 rfl ?_
              refine v_getf (n := 99) dX7_addPiste_96 rfl fl_X7_112 (zok_2 (by decide)) rfl ?_
              refine v_aload_n (n := 100) dX7_addPiste_99 rfl rfl ?_
              refine v_getf (n := 103) dX7_addPiste_100 rfl fl_X7_12 zokc_9 rfl ?_
              refine v_getf (n := 106) dX7_addPiste_103 rfl fl_X7_107 (zok_2 (by decide)) (rfl) ?_
              obtain ⟨j1, ej1, hj1, h⟩ := h
              refine v_aald (n := 107) (j := j1) dX7_addPiste_106 rfl (zok_21 (by decide)) (by decide) rfl ej1 hj1 rfl ?_
              refine v_iload_n (n := 108) dX7_addPiste_107 rfl rfl ?_
              refine v_iload_n (n := 109) dX7_addPiste_108 rfl rfl ?_
              refine v_iload_n (n := 110) dX7_addPiste_109 rfl rfl ?_
              refine v_iload (n := 112) dX7_addPiste_110 rfl rfl ?_
              refine v_callV (n := 115) (k := 7) (b := 0) (i := j1) (As := [.int x1, .int x2, .int x3, .int x4]) (rest := []) dX7_addPiste_112 rfl lk_X7_116 rfl rfl (Nat.le_of_ble_eq_true rfl) ⟨Nat.le_of_ble_eq_true rfl, Nat.le_of_ble_eq_true rfl, Nat.le_of_ble_eq_true rfl, Nat.le_of_ble_eq_true rfl⟩ (zok_7 (by decide) hj1) h (fun v μ2 h => ?_) (fun _ _ hp => False.elim hp)
              obtain ⟨rfl, h⟩ := h
              refine v_norm (st' := []) (cells' := 0) (slots' := 0) rfl rfl rfl ?_
              refine v_aload_n (n := 116) dX7_addPiste_115 rfl rfl ?_
              refine v_getf (n := 119) dX7_addPiste_116 rfl fl_X7_12 zokc_9 rfl ?_
              refine v_dup (n := 120) dX7_addPiste_119 rfl rfl ?_
              refine v_getf (n := 123) dX7_addPiste_120 rfl fl_X7_107 (zok_2 (by decide)) (rfl) ?_
              refine v_iconst (n := 124) (x := nI 1) dX7_addPiste_123 rfl (by decide) ?_
              refine v_iadd (n := 125) dX7_addPiste_124 rfl ?_
              refine v_putf (n := 128) dX7_addPiste_125 rfl fw_X7_107 (zok_2 (by decide)) (fun _ => rfl) rfl rfl ?_
              refine v_aload_n (n := 129) dX7_addPiste_128 rfl rfl ?_
              refine v_getf (n := 132) dX7_addPiste_129 rfl fl_X7_12 zokc_9 rfl ?_
              refine v_getf (n := 135) dX7_addPiste_132 rfl fl_X7_107 (zok_2 (by decide)) (congrArg Value.int (up_self _ _ _ _ _ _)) ?_
              refine v_iconst (n := 136) (x := nI 1) dX7_addPiste_135 rfl (by decide) ?_
              refine v_isub (n := 137) dX7_addPiste_136 rfl ?_
              exact v_iret dX7_addPiste_137 rfl (Nat.le_of_ble_eq_true rfl) (Nat.le_of_ble_eq_true rfl) h
            · replace h := h.2 hq
              exact v_throw lt_IllegalStateException_110 rfl dX7_addPiste_71 dX7_addPiste_74 dX7_addPiste_75 dX7_addPiste_77 dX7_addPiste_80 ⟨Nat.le_of_ble_eq_true rfl, Nat.le_of_ble_eq_true rfl, Nat.le_of_ble_eq_true rfl, Nat.le_of_ble_eq_true rfl⟩ (Nat.le_of_ble_eq_true rfl) (Nat.le_of_ble_eq_true rfl) h
          · replace h := h.2 (bI_f hq)
            exact v_throw lt_IllegalArgumentException_105 rfl dX7_addPiste_49 dX7_addPiste_52 dX7_addPiste_53 dX7_addPiste_55 dX7_addPiste_58 ⟨Nat.le_of_ble_eq_true rfl, Nat.le_of_ble_eq_true rfl, Nat.le_of_ble_eq_true rfl, Nat.le_of_ble_eq_true rfl⟩ (Nat.le_of_ble_eq_true rfl) (Nat.le_of_ble_eq_true rfl) h
    · replace h := h.2 (bI_f hq)
      exact v_throw lt_IndexOutOfBoundsException_69 rfl dX7_addPiste_14 dX7_addPiste_17 dX7_addPiste_18 dX7_addPiste_20 dX7_addPiste_23 ⟨Nat.le_of_ble_eq_true rfl, Nat.le_of_ble_eq_true rfl, Nat.le_of_ble_eq_true rfl, Nat.le_of_ble_eq_true rfl⟩ (Nat.le_of_ble_eq_true rfl) (Nat.le_of_ble_eq_true rfl) h

set_option maxRecDepth 20000 in
set_option maxHeartbeats 4000000 in
theorem wX7_setWind (G : Gl) {P : Option Value → St → Prop} {X : String → St → Prop} (x1 : Int32) (μ : St)
    (h : ((btw x1 (nI 0) (nI 9) = true → Con G mX2_remember [.ref (zad G.1 4 0 0), .ref (zad G.1 2 0 0)] μ (fun v μ1 => v = none ∧ Con G mX0_heldLifts [.ref (zad G.1 2 0 0)] (up μ1 2 0 0 6 x1) (fun v μ2 => ∃ r1 : Int32, v = some (.int r1) ∧ P (some (.int r1)) μ2) noX) noX) ∧ (btw x1 (nI 0) (nI 9) = false → X "java/lang/IllegalArgumentException" μ))) :
    Con G mX7_setWind [.ref (zad G.1 9 0 0), .int x1] μ P X := by
  refine con_of pn_X7 rfl (Nat.le_of_ble_eq_true rfl) ?_
  show VL G mX7_setWind P X 0 [(0, .ref (zad G.1 9 0 0)), (1, .int x1)] [] μ
  refine v_iload_n (n := 1) dX7_setWind_0 rfl rfl ?_
  refine v_iconst (n := 2) (x := nI 0) dX7_setWind_1 rfl (by decide) ?_
  refine v_bipush (n := 4) (x := nI 9) dX7_setWind_2 rfl (by decide) ?_
  refine v_callS (n := 7) (As := [.int x1, .int (nI 0), .int (nI 9)]) (rest := []) dX7_setWind_4 rfl lk_X7_74 rfl rfl (Nat.le_of_ble_eq_true rfl) ⟨Nat.le_of_ble_eq_true rfl, Nat.le_of_ble_eq_true rfl, Nat.le_of_ble_eq_true rfl, Nat.le_of_ble_eq_true rfl⟩ (s_X7_isBetween G x1 (nI 0) (nI 9) μ) (fun v μ9 hp => ?_) (fun _ _ hp => False.elim hp)
  rw [hp.1, hp.2]
  refine v_norm (st' := [.int (bI (btw x1 (nI 0) (nI 9)))]) (cells' := 0) (slots' := 0) rfl rfl rfl ?_
  refine v_if_ne (n := 10) (t := 20) dX7_setWind_7 rfl (by decide) (fun hq => ?_) (fun hq => ?_)
  · replace h := h.1 (bI_nf hq)
    refine v_aload_n (n := 21) dX7_setWind_20 rfl rfl ?_
    refine v_getf (n := 24) dX7_setWind_21 rfl fl_X7_25 zokc_9 rfl ?_
    refine v_aload_n (n := 25) dX7_setWind_24 rfl rfl ?_
    refine v_getf (n := 28) dX7_setWind_25 rfl fl_X7_12 zokc_9 rfl ?_
    refine v_callV (n := 31) (k := 4) (b := 0) (i := 0) (As := [.ref (zad G.1 2 0 0)]) (rest := []) dX7_setWind_28 rfl lk_X7_91 rfl rfl (Nat.le_of_ble_eq_true rfl) ⟨Nat.le_of_ble_eq_true rfl, Nat.le_of_ble_eq_true rfl, Nat.le_of_ble_eq_true rfl, Nat.le_of_ble_eq_true rfl⟩ zokc_4 h (fun v μ1 h => ?_) (fun _ _ hp => False.elim hp)
    obtain ⟨rfl, h⟩ := h
    refine v_norm (st' := []) (cells' := 0) (slots' := 0) rfl rfl rfl ?_
    refine v_aload_n (n := 32) dX7_setWind_31 rfl rfl ?_
    refine v_getf (n := 35) dX7_setWind_32 rfl fl_X7_12 zokc_9 rfl ?_
    refine v_iload_n (n := 36) dX7_setWind_35 rfl rfl ?_
    refine v_putf (n := 39) dX7_setWind_36 rfl fw_X7_123 (zok_2 (by decide)) (fun _ => rfl) rfl rfl ?_
    refine v_aload_n (n := 40) dX7_setWind_39 rfl rfl ?_
    refine v_getf (n := 43) dX7_setWind_40 rfl fl_X7_12 zokc_9 rfl ?_
    refine v_callV (n := 46) (k := 2) (b := 0) (i := 0) (As := []) (rest := []) dX7_setWind_43 rfl lk_X7_126 rfl rfl (Nat.le_of_ble_eq_true rfl) ⟨Nat.le_of_ble_eq_true rfl, Nat.le_of_ble_eq_true rfl, Nat.le_of_ble_eq_true rfl, Nat.le_of_ble_eq_true rfl⟩ (zok_2 (by decide)) h (fun v μ2 h => ?_) (fun _ _ hp => False.elim hp)
    obtain ⟨r1, rfl, h⟩ := h
    refine v_norm (st' := [.int r1]) (cells' := 0) (slots' := 0) rfl rfl rfl ?_
    exact v_iret dX7_setWind_46 rfl (Nat.le_of_ble_eq_true rfl) (Nat.le_of_ble_eq_true rfl) h
  · replace h := h.2 (bI_f hq)
    exact v_throw lt_IllegalArgumentException_121 rfl dX7_setWind_10 dX7_setWind_13 dX7_setWind_14 dX7_setWind_16 dX7_setWind_19 ⟨Nat.le_of_ble_eq_true rfl, Nat.le_of_ble_eq_true rfl, Nat.le_of_ble_eq_true rfl, Nat.le_of_ble_eq_true rfl⟩ (Nat.le_of_ble_eq_true rfl) (Nat.le_of_ble_eq_true rfl) h

set_option maxRecDepth 20000 in
set_option maxHeartbeats 4000000 in
theorem wX7_lift (G : Gl) {P : Option Value → St → Prop} {X : String → St → Prop} (x1 : Int32) (x2 : Int32) (μ : St)
    (h : μ 2 0 0 3 ≤ nI 6 ∧ ((idx x1 (μ 2 0 0 3) = false → X "java/lang/IndexOutOfBoundsException" μ) ∧ (∀ i1 : Nat, i1 < 6 → x1 = nI i1 → idx x1 (μ 2 0 0 3) = true → ((x2 = nI 0 → P (some (.int (μ 6 0 i1 0))) μ) ∧ (¬ x2 = nI 0 → ((x2 = nI 1 → P (some (.int (μ 6 0 i1 1))) μ) ∧ (¬ x2 = nI 1 → ((x2 = nI 2 → P (some (.int (μ 6 0 i1 2))) μ) ∧ (¬ x2 = nI 2 → ((x2 = nI 3 → P (some (.int (μ 6 0 i1 3))) μ) ∧ (¬ x2 = nI 3 → ((x2 = nI 4 → P (some (.int (μ 6 0 i1 4))) μ) ∧ (¬ x2 = nI 4 → ((x2 = nI 5 → P (some (.int (μ 6 0 i1 5))) μ) ∧ (¬ x2 = nI 5 → ((x2 = nI 6 → P (some (.int (μ 6 0 i1 6))) μ) ∧ (¬ x2 = nI 6 → ((x2 = nI 7 → P (some (.int ((nI 2) - (spo μ 0 i1)))) μ) ∧ (¬ x2 = nI 7 → ((x2 = nI 8 → P (some (.int (μ 6 0 i1 7))) μ) ∧ (¬ x2 = nI 8 → ((x2 = nI 9 → Con G mX0_guestsWith [.ref (zad G.1 2 0 0), .int (nI 1), .int x1] μ (fun v μ1 => ∃ r1 : Int32, v = some (.int r1) ∧ P (some (.int r1)) μ1) noX) ∧ (¬ x2 = nI 9 → ((x2 = nI 10 → Con G mX0_guestsWith [.ref (zad G.1 2 0 0), .int (nI 2), .int x1] μ (fun v μ2 => ∃ r2 : Int32, v = some (.int r2) ∧ P (some (.int r2)) μ2) noX) ∧ (¬ x2 = nI 10 → X "java/lang/IllegalArgumentException" μ))))))))))))))))))))))))) :
    Con G mX7_lift [.ref (zad G.1 9 0 0), .int x1, .int x2] μ P X := by
  refine con_of pn_X7 rfl (Nat.le_of_ble_eq_true rfl) ?_
  show VL G mX7_lift P X 0 [(0, .ref (zad G.1 9 0 0)), (1, .int x1), (2, .int x2)] [] μ
  refine v_aload_n (n := 1) dX7_lift_0 rfl rfl ?_
  refine v_getf (n := 4) dX7_lift_1 rfl fl_X7_12 zokc_9 rfl ?_
  refine v_iload_n (n := 5) dX7_lift_4 rfl rfl ?_
  obtain ⟨hf1, h⟩ := h
  refine v_callV (n := 8) (k := 2) (b := 0) (i := 0) (As := [.int x1]) (rest := []) dX7_lift_5 rfl lk_X7_130 rfl rfl (Nat.le_of_ble_eq_true rfl) ⟨Nat.le_of_ble_eq_true rfl, Nat.le_of_ble_eq_true rfl, Nat.le_of_ble_eq_true rfl, Nat.le_of_ble_eq_true rfl⟩ (zok_2 (by decide)) (s_X0_liftAt G 0 (by decide) x1 μ hf1) (fun v μ9 hp => ?_) (fun _ _ hp => False.elim hp)
  rcases hp with ⟨hq, hv, hm⟩ | ⟨i1, hi1, hq, hq2, hv, hm⟩
  · replace h := h.1 hq
    rw [hv, hm]
    refine v_norm (st' := [.null]) (cells' := 0) (slots' := 0) rfl rfl rfl ?_
    refine v_astore_nN (n := 9) (L' := [(0, .ref (zad G.1 9 0 0)), (1, .int x1), (2, .int x2), (3, .null)]) dX7_lift_8 rfl (by decide) rfl ?_
    refine v_aload_nN (n := 10) dX7_lift_9 rfl rfl ?_
    refine v_ifnonnullN (n := 13) dX7_lift_10 rfl ?_
    exact v_throw lt_IndexOutOfBoundsException_134 rfl dX7_lift_13 dX7_lift_16 dX7_lift_17 dX7_lift_19 dX7_lift_22 ⟨Nat.le_of_ble_eq_true rfl, Nat.le_of_ble_eq_true rfl, Nat.le_of_ble_eq_true rfl, Nat.le_of_ble_eq_true rfl⟩ (Nat.le_of_ble_eq_true rfl) (Nat.le_of_ble_eq_true rfl) h
  · replace h := h.2 i1 hi1 hq hq2
    rw [hv, hm]
    refine v_norm (st' := [.ref (zad G.1 6 0 i1)]) (cells' := 0) (slots' := 0) rfl rfl rfl ?_
    refine v_astore_n (n := 9) (L' := [(0, .ref (zad G.1 9 0 0)), (1, .int x1), (2, .int x2), (3, .ref (zad G.1 6 0 i1))]) dX7_lift_8 rfl (by decide) rfl ?_
    refine v_aload_n (n := 10) dX7_lift_9 rfl rfl ?_
    refine v_ifnonnull (n := 23) dX7_lift_10 (by decide) ?_
    refine v_iload_n (n := 24) dX7_lift_23 rfl rfl ?_
    by_cases hs0 : x2 = nI 0
    · replace h := h.1 hs0
      have hx : (x2).toInt = 0 := by rw [hs0]; rfl
      refine v_tableIn (n := 84) (off := 60) dX7_lift_24 (by rw [hx]; decide) (by rw [hx]; decide) (by rw [hx]; rfl) (by decide) ?_
      refine v_aload_n (n := 85) dX7_lift_84 rfl rfl ?_
      refine v_getf (n := 88) dX7_lift_85 rfl fl_X7_136 (zok_6 (by decide) hi1) (rfl) ?_
      exact v_iret dX7_lift_88 rfl (Nat.le_of_ble_eq_true rfl) (Nat.le_of_ble_eq_true rfl) h
    replace h := h.2 hs0
    by_cases hs1 : x2 = nI 1
    · replace h := h.1 hs1
      have hx : (x2).toInt = 1 := by rw [hs1]; rfl
      refine v_tableIn (n := 89) (off := 65) dX7_lift_24 (by rw [hx]; decide) (by rw [hx]; decide) (by rw [hx]; rfl) (by decide) ?_
      refine v_aload_n (n := 90) dX7_lift_89 rfl rfl ?_
      refine v_getf (n := 93) dX7_lift_90 rfl fl_X7_139 (zok_6 (by decide) hi1) (rfl) ?_
      exact v_iret dX7_lift_93 rfl (Nat.le_of_ble_eq_true rfl) (Nat.le_of_ble_eq_true rfl) h
    replace h := h.2 hs1
    by_cases hs2 : x2 = nI 2
    · replace h := h.1 hs2
      have hx : (x2).toInt = 2 := by rw [hs2]; rfl
      refine v_tableIn (n := 94) (off := 70) dX7_lift_24 (by rw [hx]; decide) (by rw [hx]; decide) (by rw [hx]; rfl) (by decide) ?_
      refine v_aload_n (n := 95) dX7_lift_94 rfl rfl ?_
      refine v_getf (n := 98) dX7_lift_95 rfl fl_X7_142 (zok_6 (by decide) hi1) (rfl) ?_
      exact v_iret dX7_lift_98 rfl (Nat.le_of_ble_eq_true rfl) (Nat.le_of_ble_eq_true rfl) h
    replace h := h.2 hs2
    by_cases hs3 : x2 = nI 3
    · replace h := h.1 hs3
      have hx : (x2).toInt = 3 := by rw [hs3]; rfl
      refine v_tableIn (n := 99) (off := 75) dX7_lift_24 (by rw [hx]; decide) (by rw [hx]; decide) (by rw [hx]; rfl) (by decide) ?_
      refine v_aload_n (n := 100) dX7_lift_99 rfl rfl ?_
      refine v_getf (n := 103) dX7_lift_100 rfl fl_X7_145 (zok_6 (by decide) hi1) (rfl) ?_
      exact v_iret dX7_lift_103 rfl (Nat.le_of_ble_eq_true rfl) (Nat.le_of_ble_eq_true rfl) h
    replace h := h.2 hs3
    by_cases hs4 : x2 = nI 4
    · replace h := h.1 hs4
      have hx : (x2).toInt = 4 := by rw [hs4]; rfl
      refine v_tableIn (n := 104) (off := 80) dX7_lift_24 (by rw [hx]; decide) (by rw [hx]; decide) (by rw [hx]; rfl) (by decide) ?_
      refine v_aload_n (n := 105) dX7_lift_104 rfl rfl ?_
      refine v_getf (n := 108) dX7_lift_105 rfl fl_X7_148 (zok_6 (by decide) hi1) (rfl) ?_
      exact v_iret dX7_lift_108 rfl (Nat.le_of_ble_eq_true rfl) (Nat.le_of_ble_eq_true rfl) h
    replace h := h.2 hs4
    by_cases hs5 : x2 = nI 5
    · replace h := h.1 hs5
      have hx : (x2).toInt = 5 := by rw [hs5]; rfl
      refine v_tableIn (n := 109) (off := 85) dX7_lift_24 (by rw [hx]; decide) (by rw [hx]; decide) (by rw [hx]; rfl) (by decide) ?_
      refine v_aload_n (n := 110) dX7_lift_109 rfl rfl ?_
      refine v_getf (n := 113) dX7_lift_110 rfl fl_X7_151 (zok_6 (by decide) hi1) (rfl) ?_
      exact v_iret dX7_lift_113 rfl (Nat.le_of_ble_eq_true rfl) (Nat.le_of_ble_eq_true rfl) h
    replace h := h.2 hs5
    by_cases hs6 : x2 = nI 6
    · replace h := h.1 hs6
      have hx : (x2).toInt = 6 := by rw [hs6]; rfl
      refine v_tableIn (n := 114) (off := 90) dX7_lift_24 (by rw [hx]; decide) (by rw [hx]; decide) (by rw [hx]; rfl) (by decide) ?_
      refine v_aload_n (n := 115) dX7_lift_114 rfl rfl ?_
      refine v_getf (n := 118) dX7_lift_115 rfl fl_X7_154 (zok_6 (by decide) hi1) (rfl) ?_
      exact v_iret dX7_lift_118 rfl (Nat.le_of_ble_eq_true rfl) (Nat.le_of_ble_eq_true rfl) h
    replace h := h.2 hs6
    by_cases hs7 : x2 = nI 7
    · replace h := h.1 hs7
      have hx : (x2).toInt = 7 := by rw [hs7]; rfl
      refine v_tableIn (n := 119) (off := 95) dX7_lift_24 (by rw [hx]; decide) (by rw [hx]; decide) (by rw [hx]; rfl) (by decide) ?_
      refine v_iconst (n := 120) (x := nI 2) dX7_lift_119 rfl (by decide) ?_
      refine v_aload_n (n := 121) dX7_lift_120 rfl rfl ?_
      refine v_getf (n := 124) dX7_lift_121 rfl fl_X7_12 zokc_9 rfl ?_
      refine v_aload_n (n := 125) dX7_lift_124 rfl rfl ?_
      refine v_callV (n := 128) (k := 2) (b := 0) (i := 0) (As := [.ref (zad G.1 6 0 i1)]) (rest := [.int (nI 2)]) dX7_lift_125 rfl lk_X7_157 rfl rfl (Nat.le_of_ble_eq_true rfl) ⟨Nat.le_of_ble_eq_true rfl, Nat.le_of_ble_eq_true rfl, Nat.le_of_ble_eq_true rfl, Nat.le_of_ble_eq_true rfl⟩ (zok_2 (by decide)) (s_X0_speedOf G 0 (by decide) i1 hi1 μ) (fun v μ9 hp => ?_) (fun _ _ hp => False.elim hp)
      rw [hp.1, hp.2]
      refine v_norm (st' := [.int (spo μ 0 i1), .int (nI 2)]) (cells' := 0) (slots' := 0) rfl rfl rfl ?_
      refine v_isub (n := 129) dX7_lift_128 rfl ?_
      exact v_iret dX7_lift_129 rfl (Nat.le_of_ble_eq_true rfl) (Nat.le_of_ble_eq_true rfl) h
    replace h := h.2 hs7
    by_cases hs8 : x2 = nI 8
    · replace h := h.1 hs8
      have hx : (x2).toInt = 8 := by rw [hs8]; rfl
      refine v_tableIn (n := 130) (off := 106) dX7_lift_24 (by rw [hx]; decide) (by rw [hx]; decide) (by rw [hx]; rfl) (by decide) ?_
      refine v_aload_n (n := 131) dX7_lift_130 rfl rfl ?_
      refine v_getf (n := 134) dX7_lift_131 rfl fl_X7_161 (zok_6 (by decide) hi1) (rfl) ?_
      exact v_iret dX7_lift_134 rfl (Nat.le_of_ble_eq_true rfl) (Nat.le_of_ble_eq_true rfl) h
    replace h := h.2 hs8
    by_cases hs9 : x2 = nI 9
    · replace h := h.1 hs9
      have hx : (x2).toInt = 9 := by rw [hs9]; rfl
      refine v_tableIn (n := 135) (off := 111) dX7_lift_24 (by rw [hx]; decide) (by rw [hx]; decide) (by rw [hx]; rfl) (by decide) ?_
      refine v_aload_n (n := 136) dX7_lift_135 rfl rfl ?_
      refine v_getf (n := 139) dX7_lift_136 rfl fl_X7_12 zokc_9 rfl ?_
      refine v_iconst (n := 140) (x := nI 1) dX7_lift_139 rfl (by decide) ?_
      refine v_iload_n (n := 141) dX7_lift_140 rfl rfl ?_
      refine v_callV (n := 144) (k := 2) (b := 0) (i := 0) (As := [.int (nI 1), .int x1]) (rest := []) dX7_lift_141 rfl lk_X7_164 rfl rfl (Nat.le_of_ble_eq_true rfl) ⟨Nat.le_of_ble_eq_true rfl, Nat.le_of_ble_eq_true rfl, Nat.le_of_ble_eq_true rfl, Nat.le_of_ble_eq_true rfl⟩ (zok_2 (by decide)) h (fun v μ1 h => ?_) (fun _ _ hp => False.elim hp)
      obtain ⟨r1, rfl, h⟩ := h
      refine v_norm (st' := [.int r1]) (cells' := 0) (slots' := 0) rfl rfl rfl ?_
      exact v_iret dX7_lift_144 rfl (Nat.le_of_ble_eq_true rfl) (Nat.le_of_ble_eq_true rfl) h
    replace h := h.2 hs9
    by_cases hs10 : x2 = nI 10
    · replace h := h.1 hs10
      have hx : (x2).toInt = 10 := by rw [hs10]; rfl
      refine v_tableIn (n := 145) (off := 121) dX7_lift_24 (by rw [hx]; decide) (by rw [hx]; decide) (by rw [hx]; rfl) (by decide) ?_
      refine v_aload_n (n := 146) dX7_lift_145 rfl rfl ?_
      refine v_getf (n := 149) dX7_lift_146 rfl fl_X7_12 zokc_9 rfl ?_
      refine v_iconst (n := 150) (x := nI 2) dX7_lift_149 rfl (by decide) ?_
      refine v_iload_n (n := 151) dX7_lift_150 rfl rfl ?_
      refine v_callV (n := 154) (k := 2) (b := 0) (i := 0) (As := [.int (nI 2), .int x1]) (rest := []) dX7_lift_151 rfl lk_X7_164 rfl rfl (Nat.le_of_ble_eq_true rfl) ⟨Nat.le_of_ble_eq_true rfl, Nat.le_of_ble_eq_true rfl, Nat.le_of_ble_eq_true rfl, Nat.le_of_ble_eq_true rfl⟩ (zok_2 (by decide)) h (fun v μ2 h => ?_) (fun _ _ hp => False.elim hp)
      obtain ⟨r2, rfl, h⟩ := h
      refine v_norm (st' := [.int r2]) (cells' := 0) (slots' := 0) rfl rfl rfl ?_
      exact v_iret dX7_lift_154 rfl (Nat.le_of_ble_eq_true rfl) (Nat.le_of_ble_eq_true rfl) h
    replace h := h.2 hs10
    refine v_tableOut (n := 155) dX7_lift_24 (tsw_out 11 (fun k hk => by rcases (show k = 0 ∨ k = 1 ∨ k = 2 ∨ k = 3 ∨ k = 4 ∨ k = 5 ∨ k = 6 ∨ k = 7 ∨ k = 8 ∨ k = 9 ∨ k = 10 by omega) with rfl | rfl | rfl | rfl | rfl | rfl | rfl | rfl | rfl | rfl | rfl <;> assumption)) (by decide) ?_
    exact v_throw lt_IllegalArgumentException_168 rfl dX7_lift_155 dX7_lift_158 dX7_lift_159 dX7_lift_161 dX7_lift_164 ⟨Nat.le_of_ble_eq_true rfl, Nat.le_of_ble_eq_true rfl, Nat.le_of_ble_eq_true rfl, Nat.le_of_ble_eq_true rfl⟩ (Nat.le_of_ble_eq_true rfl) (Nat.le_of_ble_eq_true rfl) h

set_option maxRecDepth 20000 in
set_option maxHeartbeats 4000000 in
theorem wX7_piste (G : Gl) {P : Option Value → St → Prop} {X : String → St → Prop} (x1 : Int32) (x2 : Int32) (μ : St)
    (h : μ 2 0 0 4 ≤ nI 10 ∧ ((idx x1 (μ 2 0 0 4) = false → X "java/lang/IndexOutOfBoundsException" μ) ∧ (∀ i1 : Nat, i1 < 10 → x1 = nI i1 → idx x1 (μ 2 0 0 4) = true → ((x2 = nI 0 → P (some (.int (μ 7 0 i1 0))) μ) ∧ (¬ x2 = nI 0 → ((x2 = nI 1 → P (some (.int (μ 7 0 i1 1))) μ) ∧ (¬ x2 = nI 1 → ((x2 = nI 2 → P (some (.int (μ 7 0 i1 2))) μ) ∧ (¬ x2 = nI 2 → ((x2 = nI 3 → P (some (.int (μ 7 0 i1 3))) μ) ∧ (¬ x2 = nI 3 → ((x2 = nI 4 → P (some (.int (μ 7 0 i1 4))) μ) ∧ (¬ x2 = nI 4 → ((x2 = nI 5 → P (some (.int (μ 7 0 i1 5))) μ) ∧ (¬ x2 = nI 5 → ((x2 = nI 6 → P (some (.int (μ 7 0 i1 6))) μ) ∧ (¬ x2 = nI 6 → ((x2 = nI 7 → Con G mX0_guestsWith [.ref (zad G.1 2 0 0), .int (nI 3), .int x1] μ (fun v μ1 => ∃ r1 : Int32, v = some (.int r1) ∧ P (some (.int r1)) μ1) noX) ∧ (¬ x2 = nI 7 → X "java/lang/IllegalArgumentException" μ))))))))))))))))))) :
    Con G mX7_piste [.ref (zad G.1 9 0 0), .int x1, .int x2] μ P X := by
  refine con_of pn_X7 rfl (Nat.le_of_ble_eq_true rfl) ?_
  show VL G mX7_piste P X 0 [(0, .ref (zad G.1 9 0 0)), (1, .int x1), (2, .int x2)] [] μ
  refine v_aload_n (n := 1) dX7_piste_0 rfl rfl ?_
  refine v_getf (n := 4) dX7_piste_1 rfl fl_X7_12 zokc_9 rfl ?_
  refine v_iload_n (n := 5) dX7_piste_4 rfl rfl ?_
  obtain ⟨hf1, h⟩ := h
  refine v_callV (n := 8) (k := 2) (b := 0) (i := 0) (As := [.int x1]) (rest := []) dX7_piste_5 rfl lk_X7_170 rfl rfl (Nat.le_of_ble_eq_true rfl) ⟨Nat.le_of_ble_eq_true rfl, Nat.le_of_ble_eq_true rfl, Nat.le_of_ble_eq_true rfl, Nat.le_of_ble_eq_true rfl⟩ (zok_2 (by decide)) (s_X0_pisteAt G 0 (by decide) x1 μ hf1) (fun v μ9 hp => ?_) (fun _ _ hp => False.elim hp)
  rcases hp with ⟨hq, hv, hm⟩ | ⟨i1, hi1, hq, hq2, hv, hm⟩
  · replace h := h.1 hq
    rw [hv, hm]
    refine v_norm (st' := [.null]) (cells' := 0) (slots' := 0) rfl rfl rfl ?_
    refine v_astore_nN (n := 9) (L' := [(0, .ref (zad G.1 9 0 0)), (1, .int x1), (2, .int x2), (3, .null)]) dX7_piste_8 rfl (by decide) rfl ?_
    refine v_aload_nN (n := 10) dX7_piste_9 rfl rfl ?_
    refine v_ifnonnullN (n := 13) dX7_piste_10 rfl ?_
    exact v_throw lt_IndexOutOfBoundsException_174 rfl dX7_piste_13 dX7_piste_16 dX7_piste_17 dX7_piste_19 dX7_piste_22 ⟨Nat.le_of_ble_eq_true rfl, Nat.le_of_ble_eq_true rfl, Nat.le_of_ble_eq_true rfl, Nat.le_of_ble_eq_true rfl⟩ (Nat.le_of_ble_eq_true rfl) (Nat.le_of_ble_eq_true rfl) h
  · replace h := h.2 i1 hi1 hq hq2
    rw [hv, hm]
    refine v_norm (st' := [.ref (zad G.1 7 0 i1)]) (cells' := 0) (slots' := 0) rfl rfl rfl ?_
    refine v_astore_n (n := 9) (L' := [(0, .ref (zad G.1 9 0 0)), (1, .int x1), (2, .int x2), (3, .ref (zad G.1 7 0 i1))]) dX7_piste_8 rfl (by decide) rfl ?_
    refine v_aload_n (n := 10) dX7_piste_9 rfl rfl ?_
    refine v_ifnonnull (n := 23) dX7_piste_10 (by decide) ?_
    refine v_iload_n (n := 24) dX7_piste_23 rfl rfl ?_
    by_cases hs0 : x2 = nI 0
    · replace h := h.1 hs0
      have hx : (x2).toInt = 0 := by rw [hs0]; rfl
      refine v_tableIn (n := 72) (off := 48) dX7_piste_24 (by rw [hx]; decide) (by rw [hx]; decide) (by rw [hx]; rfl) (by decide) ?_
      refine v_aload_n (n := 73) dX7_piste_72 rfl rfl ?_
      refine v_getf (n := 76) dX7_piste_73 rfl fl_X7_176 (zok_7 (by decide) hi1) (rfl) ?_
      exact v_iret dX7_piste_76 rfl (Nat.le_of_ble_eq_true rfl) (Nat.le_of_ble_eq_true rfl) h
    replace h := h.2 hs0
    by_cases hs1 : x2 = nI 1
    · replace h := h.1 hs1
      have hx : (x2).toInt = 1 := by rw [hs1]; rfl
      refine v_tableIn (n := 77) (off := 53) dX7_piste_24 (by rw [hx]; decide) (by rw [hx]; decide) (by rw [hx]; rfl) (by decide) ?_
      refine v_aload_n (n := 78) dX7_piste_77 rfl rfl ?_
      refine v_getf (n := 81) dX7_piste_78 rfl fl_X7_179 (zok_7 (by decide) hi1) (rfl) ?_
      exact v_iret dX7_piste_81 rfl (Nat.le_of_ble_eq_true rfl) (Nat.le_of_ble_eq_true rfl) h
    replace h := h.2 hs1
    by_cases hs2 : x2 = nI 2
    · replace h := h.1 hs2
      have hx : (x2).toInt = 2 := by rw [hs2]; rfl
      refine v_tableIn (n := 82) (off := 58) dX7_piste_24 (by rw [hx]; decide) (by rw [hx]; decide) (by rw [hx]; rfl) (by decide) ?_
      refine v_aload_n (n := 83) dX7_piste_82 rfl rfl ?_
      refine v_getf (n := 86) dX7_piste_83 rfl fl_X7_182 (zok_7 (by decide) hi1) (rfl) ?_
      exact v_iret dX7_piste_86 rfl (Nat.le_of_ble_eq_true rfl) (Nat.le_of_ble_eq_true rfl) h
    replace h := h.2 hs2
    by_cases hs3 : x2 = nI 3
    · replace h := h.1 hs3
      have hx : (x2).toInt = 3 := by rw [hs3]; rfl
      refine v_tableIn (n := 87) (off := 63) dX7_piste_24 (by rw [hx]; decide) (by rw [hx]; decide) (by rw [hx]; rfl) (by decide) ?_
      refine v_aload_n (n := 88) dX7_piste_87 rfl rfl ?_
      refine v_getf (n := 91) dX7_piste_88 rfl fl_X7_185 (zok_7 (by decide) hi1) (rfl) ?_
      exact v_iret dX7_piste_91 rfl (Nat.le_of_ble_eq_true rfl) (Nat.le_of_ble_eq_true rfl) h
    replace h := h.2 hs3
    by_cases hs4 : x2 = nI 4
    · replace h := h.1 hs4
      have hx : (x2).toInt = 4 := by rw [hs4]; rfl
      refine v_tableIn (n := 92) (off := 68) dX7_piste_24 (by rw [hx]; decide) (by rw [hx]; decide) (by rw [hx]; rfl) (by decide) ?_
      refine v_aload_n (n := 93) dX7_piste_92 rfl rfl ?_
      refine v_getf (n := 96) dX7_piste_93 rfl fl_X7_188 (zok_7 (by decide) hi1) (rfl) ?_
      exact v_iret dX7_piste_96 rfl (Nat.le_of_ble_eq_true rfl) (Nat.le_of_ble_eq_true rfl) h
    replace h := h.2 hs4
    by_cases hs5 : x2 = nI 5
    · replace h := h.1 hs5
      have hx : (x2).toInt = 5 := by rw [hs5]; rfl
      refine v_tableIn (n := 97) (off := 73) dX7_piste_24 (by rw [hx]; decide) (by rw [hx]; decide) (by rw [hx]; rfl) (by decide) ?_
      refine v_aload_n (n := 98) dX7_piste_97 rfl rfl ?_
      refine v_getf (n := 101) dX7_piste_98 rfl fl_X7_191 (zok_7 (by decide) hi1) (rfl) ?_
      exact v_iret dX7_piste_101 rfl (Nat.le_of_ble_eq_true rfl) (Nat.le_of_ble_eq_true rfl) h
    replace h := h.2 hs5
    by_cases hs6 : x2 = nI 6
    · replace h := h.1 hs6
      have hx : (x2).toInt = 6 := by rw [hs6]; rfl
      refine v_tableIn (n := 102) (off := 78) dX7_piste_24 (by rw [hx]; decide) (by rw [hx]; decide) (by rw [hx]; rfl) (by decide) ?_
      refine v_aload_n (n := 103) dX7_piste_102 rfl rfl ?_
      refine v_getf (n := 106) dX7_piste_103 rfl fl_X7_194 (zok_7 (by decide) hi1) (rfl) ?_
      exact v_iret dX7_piste_106 rfl (Nat.le_of_ble_eq_true rfl) (Nat.le_of_ble_eq_true rfl) h
    replace h := h.2 hs6
    by_cases hs7 : x2 = nI 7
    · replace h := h.1 hs7
      have hx : (x2).toInt = 7 := by rw [hs7]; rfl
      refine v_tableIn (n := 107) (off := 83) dX7_piste_24 (by rw [hx]; decide) (by rw [hx]; decide) (by rw [hx]; rfl) (by decide) ?_
      refine v_aload_n (n := 108) dX7_piste_107 rfl rfl ?_
      refine v_getf (n := 111) dX7_piste_108 rfl fl_X7_12 zokc_9 rfl ?_
      refine v_iconst (n := 112) (x := nI 3) dX7_piste_111 rfl (by decide) ?_
      refine v_iload_n (n := 113) dX7_piste_112 rfl rfl ?_
      refine v_callV (n := 116) (k := 2) (b := 0) (i := 0) (As := [.int (nI 3), .int x1]) (rest := []) dX7_piste_113 rfl lk_X7_164 rfl rfl (Nat.le_of_ble_eq_true rfl) ⟨Nat.le_of_ble_eq_true rfl, Nat.le_of_ble_eq_true rfl, Nat.le_of_ble_eq_true rfl, Nat.le_of_ble_eq_true rfl⟩ (zok_2 (by decide)) h (fun v μ1 h => ?_) (fun _ _ hp => False.elim hp)
      obtain ⟨r1, rfl, h⟩ := h
      refine v_norm (st' := [.int r1]) (cells' := 0) (slots' := 0) rfl rfl rfl ?_
      exact v_iret dX7_piste_116 rfl (Nat.le_of_ble_eq_true rfl) (Nat.le_of_ble_eq_true rfl) h
    replace h := h.2 hs7
    refine v_tableOut (n := 117) dX7_piste_24 (tsw_out 8 (fun k hk => by rcases (show k = 0 ∨ k = 1 ∨ k = 2 ∨ k = 3 ∨ k = 4 ∨ k = 5 ∨ k = 6 ∨ k = 7 by omega) with rfl | rfl | rfl | rfl | rfl | rfl | rfl | rfl <;> assumption)) (by decide) ?_
    exact v_throw lt_IllegalArgumentException_197 rfl dX7_piste_117 dX7_piste_120 dX7_piste_121 dX7_piste_123 dX7_piste_126 ⟨Nat.le_of_ble_eq_true rfl, Nat.le_of_ble_eq_true rfl, Nat.le_of_ble_eq_true rfl, Nat.le_of_ble_eq_true rfl⟩ (Nat.le_of_ble_eq_true rfl) (Nat.le_of_ble_eq_true rfl) h

set_option maxRecDepth 20000 in
set_option maxHeartbeats 4000000 in
theorem wX7_open (G : Gl) {P : Option Value → St → Prop} {X : String → St → Prop} (x1 : Int32) (x2 : Bool) (μ : St)
    (h : μ 2 0 0 4 ≤ nI 10 ∧ ((idx x1 (μ 2 0 0 4) = false → X "java/lang/IndexOutOfBoundsException" μ) ∧ (∀ i1 : Nat, i1 < 10 → x1 = nI i1 → idx x1 (μ 2 0 0 4) = true → ((x2 = false → Con G mX2_remember [.ref (zad G.1 4 0 0), .ref (zad G.1 2 0 0)] μ (fun v μ1 => v = none ∧ ((x2 = false → P (some (.int (μ1 7 0 i1 4))) (up (up μ1 7 0 i1 4 (nI 1)) 7 0 i1 6 (nI 0))) ∧ (x2 = true → P (some (.int (μ1 7 0 i1 4))) (up (up μ1 7 0 i1 4 (nI 0)) 7 0 i1 6 (nI 0))))) noX) ∧ (x2 = true → ((μ 7 0 i1 5 < nI 20 → Con G mX2_remember [.ref (zad G.1 4 0 0), .ref (zad G.1 2 0 0)] μ (fun v μ2 => v = none ∧ ((x2 = false → P (some (.int (μ2 7 0 i1 4))) (up (up μ2 7 0 i1 4 (nI 1)) 7 0 i1 6 (nI 0))) ∧ (x2 = true → P (some (.int (μ2 7 0 i1 4))) (up (up μ2 7 0 i1 4 (nI 0)) 7 0 i1 6 (nI 0))))) noX) ∧ (¬ μ 7 0 i1 5 < nI 20 → X "java/lang/IllegalStateException" μ))))))) :
    Con G mX7_open [.ref (zad G.1 9 0 0), .int x1, .int (bI x2)] μ P X := by
  refine con_of pn_X7 rfl (Nat.le_of_ble_eq_true rfl) ?_
  show VL G mX7_open P X 0 [(0, .ref (zad G.1 9 0 0)), (1, .int x1), (2, .int (bI x2))] [] μ
  refine v_aload_n (n := 1) dX7_open_0 rfl rfl ?_
  refine v_getf (n := 4) dX7_open_1 rfl fl_X7_12 zokc_9 rfl ?_
  refine v_iload_n (n := 5) dX7_open_4 rfl rfl ?_
  obtain ⟨hf1, h⟩ := h
  refine v_callV (n := 8) (k := 2) (b := 0) (i := 0) (As := [.int x1]) (rest := []) dX7_open_5 rfl lk_X7_170 rfl rfl (Nat.le_of_ble_eq_true rfl) ⟨Nat.le_of_ble_eq_true rfl, Nat.le_of_ble_eq_true rfl, Nat.le_of_ble_eq_true rfl, Nat.le_of_ble_eq_true rfl⟩ (zok_2 (by decide)) (s_X0_pisteAt G 0 (by decide) x1 μ hf1) (fun v μ9 hp => ?_) (fun _ _ hp => False.elim hp)
  rcases hp with ⟨hq, hv, hm⟩ | ⟨i1, hi1, hq, hq2, hv, hm⟩
  · replace h := h.1 hq
    rw [hv, hm]
    refine v_norm (st' := [.null]) (cells' := 0) (slots' := 0) rfl rfl rfl ?_
    refine v_astore_nN (n := 9) (L' := [(0, .ref (zad G.1 9 0 0)), (1, .int x1), (2, .int (bI x2)), (3, .null)]) dX7_open_8 rfl (by decide) rfl ?_
    refine v_aload_nN (n := 10) dX7_open_9 rfl rfl ?_
    refine v_ifnonnullN (n := 13) dX7_open_10 rfl ?_
    exact v_throw lt_IndexOutOfBoundsException_174 rfl dX7_open_13 dX7_open_16 dX7_open_17 dX7_open_19 dX7_open_22 ⟨Nat.le_of_ble_eq_true rfl, Nat.le_of_ble_eq_true rfl, Nat.le_of_ble_eq_true rfl, Nat.le_of_ble_eq_true rfl⟩ (Nat.le_of_ble_eq_true rfl) (Nat.le_of_ble_eq_true rfl) h
  · replace h := h.2 i1 hi1 hq hq2
    rw [hv, hm]
    refine v_norm (st' := [.ref (zad G.1 7 0 i1)]) (cells' := 0) (slots' := 0) rfl rfl rfl ?_
    refine v_astore_n (n := 9) (L' := [(0, .ref (zad G.1 9 0 0)), (1, .int x1), (2, .int (bI x2)), (3, .ref (zad G.1 7 0 i1))]) dX7_open_8 rfl (by decide) rfl ?_
    refine v_aload_n (n := 10) dX7_open_9 rfl rfl ?_
    refine v_ifnonnull (n := 23) dX7_open_10 (by decide) ?_
    refine v_iload_n (n := 24) dX7_open_23 rfl rfl ?_
    refine v_if_eq (n := 27) (t := 46) dX7_open_24 rfl (by decide) (fun hq => ?_) (fun hq => ?_)
    · replace h := h.1 (bI_f hq)
      refine v_aload_n (n := 47) dX7_open_46 rfl rfl ?_
      refine v_getf (n := 50) dX7_open_47 rfl fl_X7_25 zokc_9 rfl ?_
      refine v_aload_n (n := 51) dX7_open_50 rfl rfl ?_
      refine v_getf (n := 54) dX7_open_51 rfl fl_X7_12 zokc_9 rfl ?_
      refine v_callV (n := 57) (k := 4) (b := 0) (i := 0) (As := [.ref (zad G.1 2 0 0)]) (rest := []) dX7_open_54 rfl lk_X7_91 rfl rfl (Nat.le_of_ble_eq_true rfl) ⟨Nat.le_of_ble_eq_true rfl, Nat.le_of_ble_eq_true rfl, Nat.le_of_ble_eq_true rfl, Nat.le_of_ble_eq_true rfl⟩ zokc_4 h (fun v μ1 h => ?_) (fun _ _ hp => False.elim hp)
      obtain ⟨rfl, h⟩ := h
      refine v_norm (st' := []) (cells' := 0) (slots' := 0) rfl rfl rfl ?_
      refine v_aload_n (n := 58) dX7_open_57 rfl rfl ?_
      refine v_getf (n := 61) dX7_open_58 rfl fl_X7_188 (zok_7 (by decide) hi1) (rfl) ?_
      refine v_istore (n := 63) (L' := [(0, .ref (zad G.1 9 0 0)), (1, .int x1), (2, .int (bI x2)), (3, .ref (zad G.1 7 0 i1)), (4, .int (μ1 7 0 i1 4))]) dX7_open_61 rfl (by decide) rfl ?_
      refine v_aload_n (n := 64) dX7_open_63 rfl rfl ?_
      refine v_iload_n (n := 65) dX7_open_64 rfl rfl ?_
      refine v_if_eq (n := 68) (t := 72) dX7_open_65 rfl (by decide) (fun hq => ?_) (fun hq => ?_)
      · replace h := h.1 (bI_f hq)
        refine v_iconst (n := 73) (x := nI 1) dX7_open_72 rfl (by decide) ?_
        refine v_putf (n := 76) dX7_open_73 rfl fw_X7_188 (zok_7 (by decide) hi1) (fun _ => rfl) rfl rfl ?_
        refine v_aload_n (n := 77) dX7_open_76 rfl rfl ?_
        refine v_iconst (n := 78) (x := nI 0) dX7_open_77 rfl (by decide) ?_
        refine v_putf (n := 81) dX7_open_78 rfl fw_X7_194 (zok_7 (by decide) hi1) (fun _ => rfl) rfl rfl ?_
        refine v_iload (n := 83) dX7_open_81 rfl rfl ?_
        exact v_iret dX7_open_83 rfl (Nat.le_of_ble_eq_true rfl) (Nat.le_of_ble_eq_true rfl) h
      · replace h := h.2 (bI_nf hq)
        refine v_iconst (n := 69) (x := nI 0) dX7_open_68 rfl (by decide) ?_
        refine v_goto (n := 73) dX7_open_69 (by decide) ?_
        refine v_putf (n := 76) dX7_open_73 rfl fw_X7_188 (zok_7 (by decide) hi1) (fun _ => rfl) rfl rfl ?_
        refine v_aload_n (n := 77) dX7_open_76 rfl rfl ?_
        refine v_iconst (n := 78) (x := nI 0) dX7_open_77 rfl (by decide) ?_
        refine v_putf (n := 81) dX7_open_78 rfl fw_X7_194 (zok_7 (by decide) hi1) (fun _ => rfl) rfl rfl ?_
        refine v_iload (n := 83) dX7_open_81 rfl rfl ?_
        exact v_iret dX7_open_83 rfl (Nat.le_of_ble_eq_true rfl) (Nat.le_of_ble_eq_true rfl) h
    · replace h := h.2 (bI_nf hq)
      refine v_aload_n (n := 28) dX7_open_27 rfl rfl ?_
      refine v_getf (n := 31) dX7_open_28 rfl fl_X7_191 (zok_7 (by decide) hi1) (rfl) ?_
      refine v_bipush (n := 33) (x := nI 20) dX7_open_31 rfl (by decide) ?_
      refine v_icmp_lt (n := 36) (t := 46) dX7_open_33 rfl (by decide) (fun hq => ?_) (fun hq => ?_)
      · replace h := h.1 hq
        refine v_aload_n (n := 47) dX7_open_46 rfl rfl ?_
        refine v_getf (n := 50) dX7_open_47 rfl fl_X7_25 zokc_9 rfl ?_
        refine v_aload_n (n := 51) dX7_open_50 rfl rfl ?_
        refine v_getf (n := 54) dX7_open_51 rfl fl_X7_12 zokc_9 rfl ?_
        refine v_callV (n := 57) (k := 4) (b := 0) (i := 0) (As := [.ref (zad G.1 2 0 0)]) (rest := []) dX7_open_54 rfl lk_X7_91 rfl rfl (Nat.le_of_ble_eq_true rfl) ⟨Nat.le_of_ble_eq_true rfl, Nat.le_of_ble_eq_true rfl, Nat.le_of_ble_eq_true rfl, Nat.le_of_ble_eq_true rfl⟩ zokc_4 h (fun v μ2 h => ?_) (fun _ _ hp => False.elim hp)
        obtain ⟨rfl, h⟩ := h
        refine v_norm (st' := []) (cells' := 0) (slots' := 0) rfl rfl rfl ?_
        refine v_aload_n (n := 58) dX7_open_57 rfl rfl ?_
        refine v_getf (n := 61) dX7_open_58 rfl fl_X7_188 (zok_7 (by decide) hi1) (rfl) ?_
        refine v_istore (n := 63) (L' := [(0, .ref (zad G.1 9 0 0)), (1, .int x1), (2, .int (bI x2)), (3, .ref (zad G.1 7 0 i1)), (4, .int (μ2 7 0 i1 4))]) dX7_open_61 rfl (by decide) rfl ?_
        refine v_aload_n (n := 64) dX7_open_63 rfl rfl ?_
        refine v_iload_n (n := 65) dX7_open_64 rfl rfl ?_
        refine v_if_eq (n := 68) (t := 72) dX7_open_65 rfl (by decide) (fun hq => ?_) (fun hq => ?_)
        · replace h := h.1 (bI_f hq)
          refine v_iconst (n := 73) (x := nI 1) dX7_open_72 rfl (by decide) ?_
          refine v_putf (n := 76) dX7_open_73 rfl fw_X7_188 (zok_7 (by decide) hi1) (fun _ => rfl) rfl rfl ?_
          refine v_aload_n (n := 77) dX7_open_76 rfl rfl ?_
          refine v_iconst (n := 78) (x := nI 0) dX7_open_77 rfl (by decide) ?_
          refine v_putf (n := 81) dX7_open_78 rfl fw_X7_194 (zok_7 (by decide) hi1) (fun _ => rfl) rfl rfl ?_
          refine v_iload (n := 83) dX7_open_81 rfl rfl ?_
          exact v_iret dX7_open_83 rfl (Nat.le_of_ble_eq_true rfl) (Nat.le_of_ble_eq_true rfl) h
        · replace h := h.2 (bI_nf hq)
          refine v_iconst (n := 69) (x := nI 0) dX7_open_68 rfl (by decide) ?_
          refine v_goto (n := 73) dX7_open_69 (by decide) ?_
          refine v_putf (n := 76) dX7_open_73 rfl fw_X7_188 (zok_7 (by decide) hi1) (fun _ => rfl) rfl rfl ?_
          refine v_aload_n (n := 77) dX7_open_76 rfl rfl ?_
          refine v_iconst (n := 78) (x := nI 0) dX7_open_77 rfl (by decide) ?_
          refine v_putf (n := 81) dX7_open_78 rfl fw_X7_194 (zok_7 (by decide) hi1) (fun _ => rfl) rfl rfl ?_
          refine v_iload (n := 83) dX7_open_81 rfl rfl ?_
          exact v_iret dX7_open_83 rfl (Nat.le_of_ble_eq_true rfl) (Nat.le_of_ble_eq_true rfl) h
      · replace h := h.2 hq
        exact v_throw lt_IllegalStateException_199 rfl dX7_open_36 dX7_open_39 dX7_open_40 dX7_open_42 dX7_open_45 ⟨Nat.le_of_ble_eq_true rfl, Nat.le_of_ble_eq_true rfl, Nat.le_of_ble_eq_true rfl, Nat.le_of_ble_eq_true rfl⟩ (Nat.le_of_ble_eq_true rfl) (Nat.le_of_ble_eq_true rfl) h

set_option maxRecDepth 20000 in
set_option maxHeartbeats 4000000 in
theorem wX7_groom (G : Gl) {P : Option Value → St → Prop} {X : String → St → Prop} (x1 : Int32) (μ : St)
    (h : μ 2 0 0 4 ≤ nI 10 ∧ ((idx x1 (μ 2 0 0 4) = false → X "java/lang/IndexOutOfBoundsException" μ) ∧ (∀ i1 : Nat, i1 < 10 → x1 = nI i1 → idx x1 (μ 2 0 0 4) = true → ((μ 7 0 i1 4 = nI 1 → Con G mX2_remember [.ref (zad G.1 4 0 0), .ref (zad G.1 2 0 0)] μ (fun v μ1 => v = none ∧ P (some (.int ((nI 1) + ((μ1 7 0 i1 5) / (nI 5))))) (up (up μ1 7 0 i1 4 (nI 2)) 7 0 i1 6 ((nI 1) + ((μ1 7 0 i1 5) / (nI 5))))) noX) ∧ (¬ μ 7 0 i1 4 = nI 1 → X "java/lang/IllegalStateException" μ))))) :
    Con G mX7_groom [.ref (zad G.1 9 0 0), .int x1] μ P X := by
  refine con_of pn_X7 rfl (Nat.le_of_ble_eq_true rfl) ?_
  show VL G mX7_groom P X 0 [(0, .ref (zad G.1 9 0 0)), (1, .int x1)] [] μ
  refine v_aload_n (n := 1) dX7_groom_0 rfl rfl ?_
  refine v_getf (n := 4) dX7_groom_1 rfl fl_X7_12 zokc_9 rfl ?_
  refine v_iload_n (n := 5) dX7_groom_4 rfl rfl ?_
  obtain ⟨hf1, h⟩ := h
  refine v_callV (n := 8) (k := 2) (b := 0) (i := 0) (As := [.int x1]) (rest := []) dX7_groom_5 rfl lk_X7_170 rfl rfl (Nat.le_of_ble_eq_true rfl) ⟨Nat.le_of_ble_eq_true rfl, Nat.le_of_ble_eq_true rfl, Nat.le_of_ble_eq_true rfl, Nat.le_of_ble_eq_true rfl⟩ (zok_2 (by decide)) (s_X0_pisteAt G 0 (by decide) x1 μ hf1) (fun v μ9 hp => ?_) (fun _ _ hp => False.elim hp)
  rcases hp with ⟨hq, hv, hm⟩ | ⟨i1, hi1, hq, hq2, hv, hm⟩
  · replace h := h.1 hq
    rw [hv, hm]
    refine v_norm (st' := [.null]) (cells' := 0) (slots' := 0) rfl rfl rfl ?_
    refine v_astore_nN (n := 9) (L' := [(0, .ref (zad G.1 9 0 0)), (1, .int x1), (2, .null)]) dX7_groom_8 rfl (by decide) rfl ?_
    refine v_aload_nN (n := 10) dX7_groom_9 rfl rfl ?_
    refine v_ifnonnullN (n := 13) dX7_groom_10 rfl ?_
    exact v_throw lt_IndexOutOfBoundsException_174 rfl dX7_groom_13 dX7_groom_16 dX7_groom_17 dX7_groom_19 dX7_groom_22 ⟨Nat.le_of_ble_eq_true rfl, Nat.le_of_ble_eq_true rfl, Nat.le_of_ble_eq_true rfl, Nat.le_of_ble_eq_true rfl⟩ (Nat.le_of_ble_eq_true rfl) (Nat.le_of_ble_eq_true rfl) h
  · replace h := h.2 i1 hi1 hq hq2
    rw [hv, hm]
    refine v_norm (st' := [.ref (zad G.1 7 0 i1)]) (cells' := 0) (slots' := 0) rfl rfl rfl ?_
    refine v_astore_n (n := 9) (L' := [(0, .ref (zad G.1 9 0 0)), (1, .int x1), (2, .ref (zad G.1 7 0 i1))]) dX7_groom_8 rfl (by decide) rfl ?_
    refine v_aload_n (n := 10) dX7_groom_9 rfl rfl ?_
    refine v_ifnonnull (n := 23) dX7_groom_10 (by decide) ?_
    refine v_aload_n (n := 24) dX7_groom_23 rfl rfl ?_
    refine v_getf (n := 27) dX7_groom_24 rfl fl_X7_188 (zok_7 (by decide) hi1) (rfl) ?_
    refine v_iconst (n := 28) (x := nI 1) dX7_groom_27 rfl (by decide) ?_
    refine v_icmp_eq (n := 31) (t := 41) dX7_groom_28 rfl (by decide) (fun hq => ?_) (fun hq => ?_)
    · replace h := h.1 hq
      refine v_aload_n (n := 42) dX7_groom_41 rfl rfl ?_
      refine v_getf (n := 45) dX7_groom_42 rfl fl_X7_25 zokc_9 rfl ?_
      refine v_aload_n (n := 46) dX7_groom_45 rfl rfl ?_
      refine v_getf (n := 49) dX7_groom_46 rfl fl_X7_12 zokc_9 rfl ?_
      refine v_callV (n := 52) (k := 4) (b := 0) (i := 0) (As := [.ref (zad G.1 2 0 0)]) (rest := []) dX7_groom_49 rfl lk_X7_91 rfl rfl (Nat.le_of_ble_eq_true rfl) ⟨Nat.le_of_ble_eq_true rfl, Nat.le_of_ble_eq_true rfl, Nat.le_of_ble_eq_true rfl, Nat.le_of_ble_eq_true rfl⟩ zokc_4 h (fun v μ1 h => ?_) (fun _ _ hp => False.elim hp)
      obtain ⟨rfl, h⟩ := h
      refine v_norm (st' := []) (cells' := 0) (slots' := 0) rfl rfl rfl ?_
      refine v_aload_n (n := 53) dX7_groom_52 rfl rfl ?_
      refine v_iconst (n := 54) (x := nI 2) dX7_groom_53 rfl (by decide) ?_
      refine v_putf (n := 57) dX7_groom_54 rfl fw_X7_188 (zok_7 (by decide) hi1) (fun _ => rfl) rfl rfl ?_
      refine v_aload_n (n := 58) dX7_groom_57 rfl rfl ?_
      refine v_iconst (n := 59) (x := nI 1) dX7_groom_58 rfl (by decide) ?_
      refine v_aload_n (n := 60) dX7_groom_59 rfl rfl ?_
      refine v_getf (n := 63) dX7_groom_60 rfl fl_X7_191 (zok_7 (by decide) hi1) (congrArg Value.int (up_sl (by decide))) ?_
      refine v_iconst (n := 64) (x := nI 5) dX7_groom_63 rfl (by decide) ?_
      refine v_idiv (n := 65) dX7_groom_64 rfl (by decide) ?_
      refine v_iadd (n := 66) dX7_groom_65 rfl ?_
      refine v_putf (n := 69) dX7_groom_66 rfl fw_X7_194 (zok_7 (by decide) hi1) (fun _ => rfl) rfl rfl ?_
      refine v_aload_n (n := 70) dX7_groom_69 rfl rfl ?_
      refine v_getf (n := 73) dX7_groom_70 rfl fl_X7_194 (zok_7 (by decide) hi1) (congrArg Value.int (up_self _ _ _ _ _ _)) ?_
      exact v_iret dX7_groom_73 rfl (Nat.le_of_ble_eq_true rfl) (Nat.le_of_ble_eq_true rfl) h
    · replace h := h.2 hq
      exact v_throw lt_IllegalStateException_201 rfl dX7_groom_31 dX7_groom_34 dX7_groom_35 dX7_groom_37 dX7_groom_40 ⟨Nat.le_of_ble_eq_true rfl, Nat.le_of_ble_eq_true rfl, Nat.le_of_ble_eq_true rfl, Nat.le_of_ble_eq_true rfl⟩ (Nat.le_of_ble_eq_true rfl) (Nat.le_of_ble_eq_true rfl) h

set_option maxRecDepth 20000 in
set_option maxHeartbeats 4000000 in
theorem wX7_count (G : Gl) {P : Option Value → St → Prop} {X : String → St → Prop} (x1 : Int32) (μ : St)
    (h : ((x1 = nI 0 → P (some (.int (μ 2 0 0 3))) μ) ∧ (¬ x1 = nI 0 → ((x1 = nI 1 → P (some (.int (μ 2 0 0 4))) μ) ∧ (¬ x1 = nI 1 → ((x1 = nI 2 → P (some (.int (μ 2 0 0 5))) μ) ∧ (¬ x1 = nI 2 → ((x1 = nI 3 → P (some (.int (μ 2 0 0 6))) μ) ∧ (¬ x1 = nI 3 → ((x1 = nI 4 → P (some (.int (μ 2 0 0 7))) μ) ∧ (¬ x1 = nI 4 → ((x1 = nI 5 → P (some (.int (μ 2 0 0 8))) μ) ∧ (¬ x1 = nI 5 → ((x1 = nI 6 → Con G mX0_guestsIn [.ref (zad G.1 2 0 0), .int (nI 0)] μ (fun v μ1 => ∃ r1 : Int32, v = some (.int r1) ∧ P (some (.int r1)) μ1) noX) ∧ (¬ x1 = nI 6 → ((x1 = nI 7 → Con G mX0_guestsIn [.ref (zad G.1 2 0 0), .int (nI 1)] μ (fun v μ2 => ∃ r2 : Int32, v = some (.int r2) ∧ P (some (.int r2)) μ2) noX) ∧ (¬ x1 = nI 7 → ((x1 = nI 8 → Con G mX0_guestsIn [.ref (zad G.1 2 0 0), .int (nI 2)] μ (fun v μ3 => ∃ r3 : Int32, v = some (.int r3) ∧ P (some (.int r3)) μ3) noX) ∧ (¬ x1 = nI 8 → ((x1 = nI 9 → Con G mX0_guestsIn [.ref (zad G.1 2 0 0), .int (nI 3)] μ (fun v μ4 => ∃ r4 : Int32, v = some (.int r4) ∧ P (some (.int r4)) μ4) noX) ∧ (¬ x1 = nI 9 → ((x1 = nI 10 → Con G mX0_guestsIn [.ref (zad G.1 2 0 0), .int (nI 4)] μ (fun v μ5 => ∃ r5 : Int32, v = some (.int r5) ∧ P (some (.int r5)) μ5) noX) ∧ (¬ x1 = nI 10 → ((x1 = nI 11 → Con G mX0_openPistes [.ref (zad G.1 2 0 0)] μ (fun v μ6 => ∃ r6 : Int32, v = some (.int r6) ∧ P (some (.int r6)) μ6) noX) ∧ (¬ x1 = nI 11 → X "java/lang/IllegalArgumentException" μ))))))))))))))))))))))))) :
    Con G mX7_count [.ref (zad G.1 9 0 0), .int x1] μ P X := by
  refine con_of pn_X7 rfl (Nat.le_of_ble_eq_true rfl) ?_
  show VL G mX7_count P X 0 [(0, .ref (zad G.1 9 0 0)), (1, .int x1)] [] μ
  refine v_iload_n (n := 1) dX7_count_0 rfl rfl ?_
  by_cases hs0 : x1 = nI 0
  · replace h := h.1 hs0
    have hx : (x1).toInt = 0 := by rw [hs0]; rfl
    refine v_tableIn (n := 64) (off := 63) dX7_count_1 (by rw [hx]; decide) (by rw [hx]; decide) (by rw [hx]; rfl) (by decide) ?_
    refine v_aload_n (n := 65) dX7_count_64 rfl rfl ?_
    refine v_getf (n := 68) dX7_count_65 rfl fl_X7_12 zokc_9 rfl ?_
    refine v_getf (n := 71) dX7_count_68 rfl fl_X7_83 (zok_2 (by decide)) (rfl) ?_
    exact v_iret dX7_count_71 rfl (Nat.le_of_ble_eq_true rfl) (Nat.le_of_ble_eq_true rfl) h
  replace h := h.2 hs0
  by_cases hs1 : x1 = nI 1
  · replace h := h.1 hs1
    have hx : (x1).toInt = 1 := by rw [hs1]; rfl
    refine v_tableIn (n := 72) (off := 71) dX7_count_1 (by rw [hx]; decide) (by rw [hx]; decide) (by rw [hx]; rfl) (by decide) ?_
    refine v_aload_n (n := 73) dX7_count_72 rfl rfl ?_
    refine v_getf (n := 76) dX7_count_73 rfl fl_X7_12 zokc_9 rfl ?_
    refine v_getf (n := 79) dX7_count_76 rfl fl_X7_107 (zok_2 (by decide)) (rfl) ?_
    exact v_iret dX7_count_79 rfl (Nat.le_of_ble_eq_true rfl) (Nat.le_of_ble_eq_true rfl) h
  replace h := h.2 hs1
  by_cases hs2 : x1 = nI 2
  · replace h := h.1 hs2
    have hx : (x1).toInt = 2 := by rw [hs2]; rfl
    refine v_tableIn (n := 80) (off := 79) dX7_count_1 (by rw [hx]; decide) (by rw [hx]; decide) (by rw [hx]; rfl) (by decide) ?_
    refine v_aload_n (n := 81) dX7_count_80 rfl rfl ?_
    refine v_getf (n := 84) dX7_count_81 rfl fl_X7_12 zokc_9 rfl ?_
    refine v_getf (n := 87) dX7_count_84 rfl fl_X7_54 (zok_2 (by decide)) (rfl) ?_
    exact v_iret dX7_count_87 rfl (Nat.le_of_ble_eq_true rfl) (Nat.le_of_ble_eq_true rfl) h
  replace h := h.2 hs2
  by_cases hs3 : x1 = nI 3
  · replace h := h.1 hs3
    have hx : (x1).toInt = 3 := by rw [hs3]; rfl
    refine v_tableIn (n := 88) (off := 87) dX7_count_1 (by rw [hx]; decide) (by rw [hx]; decide) (by rw [hx]; rfl) (by decide) ?_
    refine v_aload_n (n := 89) dX7_count_88 rfl rfl ?_
    refine v_getf (n := 92) dX7_count_89 rfl fl_X7_12 zokc_9 rfl ?_
    refine v_getf (n := 95) dX7_count_92 rfl fl_X7_123 (zok_2 (by decide)) (rfl) ?_
    exact v_iret dX7_count_95 rfl (Nat.le_of_ble_eq_true rfl) (Nat.le_of_ble_eq_true rfl) h
  replace h := h.2 hs3
  by_cases hs4 : x1 = nI 4
  · replace h := h.1 hs4
    have hx : (x1).toInt = 4 := by rw [hs4]; rfl
    refine v_tableIn (n := 96) (off := 95) dX7_count_1 (by rw [hx]; decide) (by rw [hx]; decide) (by rw [hx]; rfl) (by decide) ?_
    refine v_aload_n (n := 97) dX7_count_96 rfl rfl ?_
    refine v_getf (n := 100) dX7_count_97 rfl fl_X7_12 zokc_9 rfl ?_
    refine v_getf (n := 103) dX7_count_100 rfl fl_X7_203 (zok_2 (by decide)) (rfl) ?_
    exact v_iret dX7_count_103 rfl (Nat.le_of_ble_eq_true rfl) (Nat.le_of_ble_eq_true rfl) h
  replace h := h.2 hs4
  by_cases hs5 : x1 = nI 5
  · replace h := h.1 hs5
    have hx : (x1).toInt = 5 := by rw [hs5]; rfl
    refine v_tableIn (n := 104) (off := 103) dX7_count_1 (by rw [hx]; decide) (by rw [hx]; decide) (by rw [hx]; rfl) (by decide) ?_
    refine v_aload_n (n := 105) dX7_count_104 rfl rfl ?_
    refine v_getf (n := 108) dX7_count_105 rfl fl_X7_12 zokc_9 rfl ?_
    refine v_getf (n := 111) dX7_count_108 rfl fl_X7_206 (zok_2 (by decide)) (rfl) ?_
    exact v_iret dX7_count_111 rfl (Nat.le_of_ble_eq_true rfl) (Nat.le_of_ble_eq_true rfl) h
  replace h := h.2 hs5
  by_cases hs6 : x1 = nI 6
  · replace h := h.1 hs6
    have hx : (x1).toInt = 6 := by rw [hs6]; rfl
    refine v_tableIn (n := 112) (off := 111) dX7_count_1 (by rw [hx]; decide) (by rw [hx]; decide) (by rw [hx]; rfl) (by decide) ?_
    refine v_aload_n (n := 113) dX7_count_112 rfl rfl ?_
    refine v_getf (n := 116) dX7_count_113 rfl fl_X7_12 zokc_9 rfl ?_
    refine v_iconst (n := 117) (x := nI 0) dX7_count_116 rfl (by decide) ?_
    refine v_callV (n := 120) (k := 2) (b := 0) (i := 0) (As := [.int (nI 0)]) (rest := []) dX7_count_117 rfl lk_X7_209 rfl rfl (Nat.le_of_ble_eq_true rfl) ⟨Nat.le_of_ble_eq_true rfl, Nat.le_of_ble_eq_true rfl, Nat.le_of_ble_eq_true rfl, Nat.le_of_ble_eq_true rfl⟩ (zok_2 (by decide)) h (fun v μ1 h => ?_) (fun _ _ hp => False.elim hp)
    obtain ⟨r1, rfl, h⟩ := h
    refine v_norm (st' := [.int r1]) (cells' := 0) (slots' := 0) rfl rfl rfl ?_
    exact v_iret dX7_count_120 rfl (Nat.le_of_ble_eq_true rfl) (Nat.le_of_ble_eq_true rfl) h
  replace h := h.2 hs6
  by_cases hs7 : x1 = nI 7
  · replace h := h.1 hs7
    have hx : (x1).toInt = 7 := by rw [hs7]; rfl
    refine v_tableIn (n := 121) (off := 120) dX7_count_1 (by rw [hx]; decide) (by rw [hx]; decide) (by rw [hx]; rfl) (by decide) ?_
    refine v_aload_n (n := 122) dX7_count_121 rfl rfl ?_
    refine v_getf (n := 125) dX7_count_122 rfl fl_X7_12 zokc_9 rfl ?_
    refine v_iconst (n := 126) (x := nI 1) dX7_count_125 rfl (by decide) ?_
    refine v_callV (n := 129) (k := 2) (b := 0) (i := 0) (As := [.int (nI 1)]) (rest := []) dX7_count_126 rfl lk_X7_209 rfl rfl (Nat.le_of_ble_eq_true rfl) ⟨Nat.le_of_ble_eq_true rfl, Nat.le_of_ble_eq_true rfl, Nat.le_of_ble_eq_true rfl, Nat.le_of_ble_eq_true rfl⟩ (zok_2 (by decide)) h (fun v μ2 h => ?_) (fun _ _ hp => False.elim hp)
    obtain ⟨r2, rfl, h⟩ := h
    refine v_norm (st' := [.int r2]) (cells' := 0) (slots' := 0) rfl rfl rfl ?_
    exact v_iret dX7_count_129 rfl (Nat.le_of_ble_eq_true rfl) (Nat.le_of_ble_eq_true rfl) h
  replace h := h.2 hs7
  by_cases hs8 : x1 = nI 8
  · replace h := h.1 hs8
    have hx : (x1).toInt = 8 := by rw [hs8]; rfl
    refine v_tableIn (n := 130) (off := 129) dX7_count_1 (by rw [hx]; decide) (by rw [hx]; decide) (by rw [hx]; rfl) (by decide) ?_
    refine v_aload_n (n := 131) dX7_count_130 rfl rfl ?_
    refine v_getf (n := 134) dX7_count_131 rfl fl_X7_12 zokc_9 rfl ?_
    refine v_iconst (n := 135) (x := nI 2) dX7_count_134 rfl (by decide) ?_
    refine v_callV (n := 138) (k := 2) (b := 0) (i := 0) (As := [.int (nI 2)]) (rest := []) dX7_count_135 rfl lk_X7_209 rfl rfl (Nat.le_of_ble_eq_true rfl) ⟨Nat.le_of_ble_eq_true rfl, Nat.le_of_ble_eq_true rfl, Nat.le_of_ble_eq_true rfl, Nat.le_of_ble_eq_true rfl⟩ (zok_2 (by decide)) h (fun v μ3 h => ?_) (fun _ _ hp => False.elim hp)
    obtain ⟨r3, rfl, h⟩ := h
    refine v_norm (st' := [.int r3]) (cells' := 0) (slots' := 0) rfl rfl rfl ?_
    exact v_iret dX7_count_138 rfl (Nat.le_of_ble_eq_true rfl) (Nat.le_of_ble_eq_true rfl) h
  replace h := h.2 hs8
  by_cases hs9 : x1 = nI 9
  · replace h := h.1 hs9
    have hx : (x1).toInt = 9 := by rw [hs9]; rfl
    refine v_tableIn (n := 139) (off := 138) dX7_count_1 (by rw [hx]; decide) (by rw [hx]; decide) (by rw [hx]; rfl) (by decide) ?_
    refine v_aload_n (n := 140) dX7_count_139 rfl rfl ?_
    refine v_getf (n := 143) dX7_count_140 rfl fl_X7_12 zokc_9 rfl ?_
    refine v_iconst (n := 144) (x := nI 3) dX7_count_143 rfl (by decide) ?_
    refine v_callV (n := 147) (k := 2) (b := 0) (i := 0) (As := [.int (nI 3)]) (rest := []) dX7_count_144 rfl lk_X7_209 rfl rfl (Nat.le_of_ble_eq_true rfl) ⟨Nat.le_of_ble_eq_true rfl, Nat.le_of_ble_eq_true rfl, Nat.le_of_ble_eq_true rfl, Nat.le_of_ble_eq_true rfl⟩ (zok_2 (by decide)) h (fun v μ4 h => ?_) (fun _ _ hp => False.elim hp)
    obtain ⟨r4, rfl, h⟩ := h
    refine v_norm (st' := [.int r4]) (cells' := 0) (slots' := 0) rfl rfl rfl ?_
    exact v_iret dX7_count_147 rfl (Nat.le_of_ble_eq_true rfl) (Nat.le_of_ble_eq_true rfl) h
  replace h := h.2 hs9
  by_cases hs10 : x1 = nI 10
  · replace h := h.1 hs10
    have hx : (x1).toInt = 10 := by rw [hs10]; rfl
    refine v_tableIn (n := 148) (off := 147) dX7_count_1 (by rw [hx]; decide) (by rw [hx]; decide) (by rw [hx]; rfl) (by decide) ?_
    refine v_aload_n (n := 149) dX7_count_148 rfl rfl ?_
    refine v_getf (n := 152) dX7_count_149 rfl fl_X7_12 zokc_9 rfl ?_
    refine v_iconst (n := 153) (x := nI 4) dX7_count_152 rfl (by decide) ?_
    refine v_callV (n := 156) (k := 2) (b := 0) (i := 0) (As := [.int (nI 4)]) (rest := []) dX7_count_153 rfl lk_X7_209 rfl rfl (Nat.le_of_ble_eq_true rfl) ⟨Nat.le_of_ble_eq_true rfl, Nat.le_of_ble_eq_true rfl, Nat.le_of_ble_eq_true rfl, Nat.le_of_ble_eq_true rfl⟩ (zok_2 (by decide)) h (fun v μ5 h => ?_) (fun _ _ hp => False.elim hp)
    obtain ⟨r5, rfl, h⟩ := h
    refine v_norm (st' := [.int r5]) (cells' := 0) (slots' := 0) rfl rfl rfl ?_
    exact v_iret dX7_count_156 rfl (Nat.le_of_ble_eq_true rfl) (Nat.le_of_ble_eq_true rfl) h
  replace h := h.2 hs10
  by_cases hs11 : x1 = nI 11
  · replace h := h.1 hs11
    have hx : (x1).toInt = 11 := by rw [hs11]; rfl
    refine v_tableIn (n := 157) (off := 156) dX7_count_1 (by rw [hx]; decide) (by rw [hx]; decide) (by rw [hx]; rfl) (by decide) ?_
    refine v_aload_n (n := 158) dX7_count_157 rfl rfl ?_
    refine v_getf (n := 161) dX7_count_158 rfl fl_X7_12 zokc_9 rfl ?_
    refine v_callV (n := 164) (k := 2) (b := 0) (i := 0) (As := []) (rest := []) dX7_count_161 rfl lk_X7_213 rfl rfl (Nat.le_of_ble_eq_true rfl) ⟨Nat.le_of_ble_eq_true rfl, Nat.le_of_ble_eq_true rfl, Nat.le_of_ble_eq_true rfl, Nat.le_of_ble_eq_true rfl⟩ (zok_2 (by decide)) h (fun v μ6 h => ?_) (fun _ _ hp => False.elim hp)
    obtain ⟨r6, rfl, h⟩ := h
    refine v_norm (st' := [.int r6]) (cells' := 0) (slots' := 0) rfl rfl rfl ?_
    exact v_iret dX7_count_164 rfl (Nat.le_of_ble_eq_true rfl) (Nat.le_of_ble_eq_true rfl) h
  replace h := h.2 hs11
  refine v_tableOut (n := 165) dX7_count_1 (tsw_out 12 (fun k hk => by rcases (show k = 0 ∨ k = 1 ∨ k = 2 ∨ k = 3 ∨ k = 4 ∨ k = 5 ∨ k = 6 ∨ k = 7 ∨ k = 8 ∨ k = 9 ∨ k = 10 ∨ k = 11 by omega) with rfl | rfl | rfl | rfl | rfl | rfl | rfl | rfl | rfl | rfl | rfl | rfl <;> assumption)) (by decide) ?_
  exact v_throw lt_IllegalArgumentException_216 rfl dX7_count_165 dX7_count_168 dX7_count_169 dX7_count_171 dX7_count_174 ⟨Nat.le_of_ble_eq_true rfl, Nat.le_of_ble_eq_true rfl, Nat.le_of_ble_eq_true rfl, Nat.le_of_ble_eq_true rfl⟩ (Nat.le_of_ble_eq_true rfl) (Nat.le_of_ble_eq_true rfl) h

set_option maxRecDepth 20000 in
set_option maxHeartbeats 4000000 in
theorem wX7_addGuest (G : Gl) {P : Option Value → St → Prop} {X : String → St → Prop} (x1 : Int32) (x2 : Int32) (x3 : Int32) (x4 : Int32) (x5 : Int32) (μ : St)
    (h : ((isSt x1 = true → ((btw x2 (nI 1) (nI 3) = false → X "java/lang/IllegalArgumentException" μ) ∧ (btw x2 (nI 1) (nI 3) = true → ((btw x3 (nI 0) (nI 15) = false → X "java/lang/IllegalArgumentException" μ) ∧ (btw x3 (nI 0) (nI 15) = true → ((btw x4 (nI 0) (nI 1000) = false → X "java/lang/IllegalArgumentException" μ) ∧ (btw x4 (nI 0) (nI 1000) = true → ((btw x5 (nI 0) (nI 1000) = true → ((μ 2 0 0 5 < nI 16 → Con G mX2_remember [.ref (zad G.1 4 0 0), .ref (zad G.1 2 0 0)] μ (fun v μ1 => v = none ∧ Con G mX0_welcome [.ref (zad G.1 2 0 0), .int x1, .int x2, .int x3, .int x4, .int x5] μ1 (fun v μ2 => ∃ r1 : Int32, v = some (.int r1) ∧ P (some (.int r1)) μ2) noX) noX) ∧ (¬ μ 2 0 0 5 < nI 16 → X "java/lang/IllegalStateException" μ))) ∧ (btw x5 (nI 0) (nI 1000) = false → X "java/lang/IllegalArgumentException" μ))))))))) ∧ (isSt x1 = false → X "java/lang/IndexOutOfBoundsException" μ))) :
    Con G mX7_addGuest [.ref (zad G.1 9 0 0), .int x1, .int x2, .int x3, .int x4, .int x5] μ P X := by
  refine con_of pn_X7 rfl (Nat.le_of_ble_eq_true rfl) ?_
  show VL G mX7_addGuest P X 0 [(0, .ref (zad G.1 9 0 0)), (1, .int x1), (2, .int x2), (3, .int x3), (4, .int x4), (5, .int x5)] [] μ
  refine v_iload_n (n := 1) dX7_addGuest_0 rfl rfl ?_
  refine v_callS (n := 4) (As := [.int x1]) (rest := []) dX7_addGuest_1 rfl lk_X7_63 rfl rfl (Nat.le_of_ble_eq_true rfl) ⟨Nat.le_of_ble_eq_true rfl, Nat.le_of_ble_eq_true rfl, Nat.le_of_ble_eq_true rfl, Nat.le_of_ble_eq_true rfl⟩ (s_X7_isStation G x1 μ) (fun v μ9 hp => ?_) (fun _ _ hp => False.elim hp)
  rw [hp.1, hp.2]
  refine v_norm (st' := [.int (bI (isSt x1))]) (cells' := 0) (slots' := 0) rfl rfl rfl ?_
  refine v_if_ne (n := 7) (t := 17) dX7_addGuest_4 rfl (by decide) (fun hq => ?_) (fun hq => ?_)
  · replace h := h.1 (bI_nf hq)
    refine v_iload_n (n := 18) dX7_addGuest_17 rfl rfl ?_
    refine v_iconst (n := 19) (x := nI 1) dX7_addGuest_18 rfl (by decide) ?_
    refine v_iconst (n := 20) (x := nI 3) dX7_addGuest_19 rfl (by decide) ?_
    refine v_callS (n := 23) (As := [.int x2, .int (nI 1), .int (nI 3)]) (rest := []) dX7_addGuest_20 rfl lk_X7_74 rfl rfl (Nat.le_of_ble_eq_true rfl) ⟨Nat.le_of_ble_eq_true rfl, Nat.le_of_ble_eq_true rfl, Nat.le_of_ble_eq_true rfl, Nat.le_of_ble_eq_true rfl⟩ (s_X7_isBetween G x2 (nI 1) (nI 3) μ) (fun v μ9 hp => ?_) (fun _ _ hp => False.elim hp)
    rw [hp.1, hp.2]
    refine v_norm (st' := [.int (bI (btw x2 (nI 1) (nI 3)))]) (cells' := 0) (slots' := 0) rfl rfl rfl ?_
    refine v_if_eq (n := 26) (t := 60) dX7_addGuest_23 rfl (by decide) (fun hq => ?_) (fun hq => ?_)
    · replace h := h.1 (bI_f hq)
      exact v_throw lt_IllegalArgumentException_218 rfl dX7_addGuest_60 dX7_addGuest_63 dX7_addGuest_64 dX7_addGuest_66 dX7_addGuest_69 ⟨Nat.le_of_ble_eq_true rfl, Nat.le_of_ble_eq_true rfl, Nat.le_of_ble_eq_true rfl, Nat.le_of_ble_eq_true rfl⟩ (Nat.le_of_ble_eq_true rfl) (Nat.le_of_ble_eq_true rfl) h
    · replace h := h.2 (bI_nf hq)
      refine v_iload_n (n := 27) dX7_addGuest_26 rfl rfl ?_
      refine v_iconst (n := 28) (x := nI 0) dX7_addGuest_27 rfl (by decide) ?_
      refine v_bipush (n := 30) (x := nI 15) dX7_addGuest_28 rfl (by decide) ?_
      refine v_callS (n := 33) (As := [.int x3, .int (nI 0), .int (nI 15)]) (rest := []) dX7_addGuest_30 rfl lk_X7_74 rfl rfl (Nat.le_of_ble_eq_true rfl) ⟨Nat.le_of_ble_eq_true rfl, Nat.le_of_ble_eq_true rfl, Nat.le_of_ble_eq_true rfl, Nat.le_of_ble_eq_true rfl⟩ (s_X7_isBetween G x3 (nI 0) (nI 15) μ) (fun v μ9 hp => ?_) (fun _ _ hp => False.elim hp)
      rw [hp.1, hp.2]
      refine v_norm (st' := [.int (bI (btw x3 (nI 0) (nI 15)))]) (cells' := 0) (slots' := 0) rfl rfl rfl ?_
      refine v_if_eq (n := 36) (t := 60) dX7_addGuest_33 rfl (by decide) (fun hq => ?_) (fun hq => ?_)
      · replace h := h.1 (bI_f hq)
        exact v_throw lt_IllegalArgumentException_218 rfl dX7_addGuest_60 dX7_addGuest_63 dX7_addGuest_64 dX7_addGuest_66 dX7_addGuest_69 ⟨Nat.le_of_ble_eq_true rfl, Nat.le_of_ble_eq_true rfl, Nat.le_of_ble_eq_true rfl, Nat.le_of_ble_eq_true rfl⟩ (Nat.le_of_ble_eq_true rfl) (Nat.le_of_ble_eq_true rfl) h
      · replace h := h.2 (bI_nf hq)
        refine v_iload (n := 38) dX7_addGuest_36 rfl rfl ?_
        refine v_iconst (n := 39) (x := nI 0) dX7_addGuest_38 rfl (by decide) ?_
        refine v_sipush (n := 42) (x := nI 1000) dX7_addGuest_39 rfl (by decide) ?_
        refine v_callS (n := 45) (As := [.int x4, .int (nI 0), .int (nI 1000)]) (rest := []) dX7_addGuest_42 rfl lk_X7_74 rfl rfl (Nat.le_of_ble_eq_true rfl) ⟨Nat.le_of_ble_eq_true rfl, Nat.le_of_ble_eq_true rfl, Nat.le_of_ble_eq_true rfl, Nat.le_of_ble_eq_true rfl⟩ (s_X7_isBetween G x4 (nI 0) (nI 1000) μ) (fun v μ9 hp => ?_) (fun _ _ hp => False.elim hp)
        rw [hp.1, hp.2]
        refine v_norm (st' := [.int (bI (btw x4 (nI 0) (nI 1000)))]) (cells' := 0) (slots' := 0) rfl rfl rfl ?_
        refine v_if_eq (n := 48) (t := 60) dX7_addGuest_45 rfl (by decide) (fun hq => ?_) (fun hq => ?_)
        · replace h := h.1 (bI_f hq)
          exact v_throw lt_IllegalArgumentException_218 rfl dX7_addGuest_60 dX7_addGuest_63 dX7_addGuest_64 dX7_addGuest_66 dX7_addGuest_69 ⟨Nat.le_of_ble_eq_true rfl, Nat.le_of_ble_eq_true rfl, Nat.le_of_ble_eq_true rfl, Nat.le_of_ble_eq_true rfl⟩ (Nat.le_of_ble_eq_true rfl) (Nat.le_of_ble_eq_true rfl) h
        · replace h := h.2 (bI_nf hq)
          refine v_iload (n := 50) dX7_addGuest_48 rfl rfl ?_
          refine v_iconst (n := 51) (x := nI 0) dX7_addGuest_50 rfl (by decide) ?_
          refine v_sipush (n := 54) (x := nI 1000) dX7_addGuest_51 rfl (by decide) ?_
          refine v_callS (n := 57) (As := [.int x5, .int (nI 0), .int (nI 1000)]) (rest := []) dX7_addGuest_54 rfl lk_X7_74 rfl rfl (Nat.le_of_ble_eq_true rfl) ⟨Nat.le_of_ble_eq_true rfl, Nat.le_of_ble_eq_true rfl, Nat.le_of_ble_eq_true rfl, Nat.le_of_ble_eq_true rfl⟩ (s_X7_isBetween G x5 (nI 0) (nI 1000) μ) (fun v μ9 hp => ?_) (fun _ _ hp => False.elim hp)
          rw [hp.1, hp.2]
          refine v_norm (st' := [.int (bI (btw x5 (nI 0) (nI 1000)))]) (cells' := 0) (slots' := 0) rfl rfl rfl ?_
          refine v_if_ne (n := 60) (t := 70) dX7_addGuest_57 rfl (by decide) (fun hq => ?_) (fun hq => ?_)
          · replace h := h.1 (bI_nf hq)
            refine v_aload_n (n := 71) dX7_addGuest_70 rfl rfl ?_
            refine v_getf (n := 74) dX7_addGuest_71 rfl fl_X7_12 zokc_9 rfl ?_
            refine v_getf (n := 77) dX7_addGuest_74 rfl fl_X7_54 (zok_2 (by decide)) (rfl) ?_
            refine v_bipush (n := 79) (x := nI 16) dX7_addGuest_77 rfl (by decide) ?_
            refine v_icmp_lt (n := 82) (t := 92) dX7_addGuest_79 rfl (by decide) (fun hq => ?_) (fun hq => ?_)
            · replace h := h.1 hq
              refine v_aload_n (n := 93) dX7_addGuest_92 rfl rfl ?_
              refine v_getf (n := 96) dX7_addGuest_93 rfl fl_X7_25 zokc_9 rfl ?_
              refine v_aload_n (n := 97) dX7_addGuest_96 rfl rfl ?_
              refine v_getf (n := 100) dX7_addGuest_97 rfl fl_X7_12 zokc_9 rfl ?_
              refine v_callV (n := 103) (k := 4) (b := 0) (i := 0) (As := [.ref (zad G.1 2 0 0)]) (rest := []) dX7_addGuest_100 rfl lk_X7_91 rfl rfl (Nat.le_of_ble_eq_true rfl) ⟨Nat.le_of_ble_eq_true rfl, Nat.le_of_ble_eq_true rfl, Nat.le_of_ble_eq_true rfl, Nat.le_of_ble_eq_true rfl⟩ zokc_4 h (fun v μ1 h => ?_) (fun _ _ hp => False.elim hp)
              obtain ⟨rfl, h⟩ := h
              refine v_norm (st' := []) (cells' := 0) (slots' := 0) rfl rfl rfl ?_
              refine v_aload_n (n := 104) dX7_addGuest_103 rfl rfl ?_
              refine v_getf (n := 107) dX7_addGuest_104 rfl fl_X7_12 zokc_9 rfl ?_
              refine v_iload_n (n := 108) dX7_addGuest_107 rfl rfl ?_
              refine v_iload_n (n := 109) dX7_addGuest_108 rfl rfl ?_
              refine v_iload_n (n := 110) dX7_addGuest_109 rfl rfl ?_
              refine v_iload (n := 112) dX7_addGuest_110 rfl rfl ?_
              refine v_iload (n := 114) dX7_addGuest_112 rfl rfl ?_
              refine v_callV (n := 117) (k := 2) (b := 0) (i := 0) (As := [.int x1, .int x2, .int x3, .int x4, .int x5]) (rest := []) dX7_addGuest_114 rfl lk_X7_222 rfl rfl (Nat.le_of_ble_eq_true rfl) ⟨Nat.le_of_ble_eq_true rfl, Nat.le_of_ble_eq_true rfl, Nat.le_of_ble_eq_true rfl, Nat.le_of_ble_eq_true rfl⟩ (zok_2 (by decide)) h (fun v μ2 h => ?_) (fun _ _ hp => False.elim hp)
              obtain ⟨r1, rfl, h⟩ := h
              refine v_norm (st' := [.int r1]) (cells' := 0) (slots' := 0) rfl rfl rfl ?_
              exact v_iret dX7_addGuest_117 rfl (Nat.le_of_ble_eq_true rfl) (Nat.le_of_ble_eq_true rfl) h
            · replace h := h.2 hq
              exact v_throw lt_IllegalStateException_220 rfl dX7_addGuest_82 dX7_addGuest_85 dX7_addGuest_86 dX7_addGuest_88 dX7_addGuest_91 ⟨Nat.le_of_ble_eq_true rfl, Nat.le_of_ble_eq_true rfl, Nat.le_of_ble_eq_true rfl, Nat.le_of_ble_eq_true rfl⟩ (Nat.le_of_ble_eq_true rfl) (Nat.le_of_ble_eq_true rfl) h
          · replace h := h.2 (bI_f hq)
            exact v_throw lt_IllegalArgumentException_218 rfl dX7_addGuest_60 dX7_addGuest_63 dX7_addGuest_64 dX7_addGuest_66 dX7_addGuest_69 ⟨Nat.le_of_ble_eq_true rfl, Nat.le_of_ble_eq_true rfl, Nat.le_of_ble_eq_true rfl, Nat.le_of_ble_eq_true rfl⟩ (Nat.le_of_ble_eq_true rfl) (Nat.le_of_ble_eq_true rfl) h
  · replace h := h.2 (bI_f hq)
    exact v_throw lt_IndexOutOfBoundsException_69 rfl dX7_addGuest_7 dX7_addGuest_10 dX7_addGuest_11 dX7_addGuest_13 dX7_addGuest_16 ⟨Nat.le_of_ble_eq_true rfl, Nat.le_of_ble_eq_true rfl, Nat.le_of_ble_eq_true rfl, Nat.le_of_ble_eq_true rfl⟩ (Nat.le_of_ble_eq_true rfl) (Nat.le_of_ble_eq_true rfl) h

set_option maxRecDepth 20000 in
set_option maxHeartbeats 4000000 in
theorem wX7_guest (G : Gl) {P : Option Value → St → Prop} {X : String → St → Prop} (x1 : Int32) (x2 : Int32) (μ : St)
    (h : μ 2 0 0 5 ≤ nI 16 ∧ ((idx x1 (μ 2 0 0 5) = false → X "java/lang/IndexOutOfBoundsException" μ) ∧ (∀ i1 : Nat, i1 < 16 → x1 = nI i1 → idx x1 (μ 2 0 0 5) = true → ((x2 = nI 0 → P (some (.int (μ 3 0 i1 4))) μ) ∧ (¬ x2 = nI 0 → ((x2 = nI 1 → P (some (.int (μ 3 0 i1 5))) μ) ∧ (¬ x2 = nI 1 → ((x2 = nI 2 → ((¬ μ 3 0 i1 4 = nI 1 → P (some (.int (μ 3 0 i1 6))) μ) ∧ (μ 3 0 i1 4 = nI 1 → P (some (.int (μ 3 0 i1 7))) μ))) ∧ (¬ x2 = nI 2 → ((x2 = nI 3 → P (some (.int (μ 3 0 i1 0))) μ) ∧ (¬ x2 = nI 3 → ((x2 = nI 4 → P (some (.int (μ 3 0 i1 1))) μ) ∧ (¬ x2 = nI 4 → ((x2 = nI 5 → P (some (.int (μ 3 0 i1 2))) μ) ∧ (¬ x2 = nI 5 → ((x2 = nI 6 → P (some (.int (μ 3 0 i1 3))) μ) ∧ (¬ x2 = nI 6 → X "java/lang/IllegalArgumentException" μ))))))))))))))))) :
    Con G mX7_guest [.ref (zad G.1 9 0 0), .int x1, .int x2] μ P X := by
  refine con_of pn_X7 rfl (Nat.le_of_ble_eq_true rfl) ?_
  show VL G mX7_guest P X 0 [(0, .ref (zad G.1 9 0 0)), (1, .int x1), (2, .int x2)] [] μ
  refine v_aload_n (n := 1) dX7_guest_0 rfl rfl ?_
  refine v_getf (n := 4) dX7_guest_1 rfl fl_X7_12 zokc_9 rfl ?_
  refine v_iload_n (n := 5) dX7_guest_4 rfl rfl ?_
  obtain ⟨hf1, h⟩ := h
  refine v_callV (n := 8) (k := 2) (b := 0) (i := 0) (As := [.int x1]) (rest := []) dX7_guest_5 rfl lk_X7_226 rfl rfl (Nat.le_of_ble_eq_true rfl) ⟨Nat.le_of_ble_eq_true rfl, Nat.le_of_ble_eq_true rfl, Nat.le_of_ble_eq_true rfl, Nat.le_of_ble_eq_true rfl⟩ (zok_2 (by decide)) (s_X0_guestAt G 0 (by decide) x1 μ hf1) (fun v μ9 hp => ?_) (fun _ _ hp => False.elim hp)
  rcases hp with ⟨hq, hv, hm⟩ | ⟨i1, hi1, hq, hq2, hv, hm⟩
  · replace h := h.1 hq
    rw [hv, hm]
    refine v_norm (st' := [.null]) (cells' := 0) (slots' := 0) rfl rfl rfl ?_
    refine v_astore_nN (n := 9) (L' := [(0, .ref (zad G.1 9 0 0)), (1, .int x1), (2, .int x2), (3, .null)]) dX7_guest_8 rfl (by decide) rfl ?_
    refine v_aload_nN (n := 10) dX7_guest_9 rfl rfl ?_
    refine v_ifnonnullN (n := 13) dX7_guest_10 rfl ?_
    exact v_throw lt_IndexOutOfBoundsException_230 rfl dX7_guest_13 dX7_guest_16 dX7_guest_17 dX7_guest_19 dX7_guest_22 ⟨Nat.le_of_ble_eq_true rfl, Nat.le_of_ble_eq_true rfl, Nat.le_of_ble_eq_true rfl, Nat.le_of_ble_eq_true rfl⟩ (Nat.le_of_ble_eq_true rfl) (Nat.le_of_ble_eq_true rfl) h
  · replace h := h.2 i1 hi1 hq hq2
    rw [hv, hm]
    refine v_norm (st' := [.ref (zad G.1 3 0 i1)]) (cells' := 0) (slots' := 0) rfl rfl rfl ?_
    refine v_astore_n (n := 9) (L' := [(0, .ref (zad G.1 9 0 0)), (1, .int x1), (2, .int x2), (3, .ref (zad G.1 3 0 i1))]) dX7_guest_8 rfl (by decide) rfl ?_
    refine v_aload_n (n := 10) dX7_guest_9 rfl rfl ?_
    refine v_ifnonnull (n := 23) dX7_guest_10 (by decide) ?_
    refine v_iload_n (n := 24) dX7_guest_23 rfl rfl ?_
    by_cases hs0 : x2 = nI 0
    · replace h := h.1 hs0
      have hx : (x2).toInt = 0 := by rw [hs0]; rfl
      refine v_tableIn (n := 68) (off := 44) dX7_guest_24 (by rw [hx]; decide) (by rw [hx]; decide) (by rw [hx]; rfl) (by decide) ?_
      refine v_aload_n (n := 69) dX7_guest_68 rfl rfl ?_
      refine v_getf (n := 72) dX7_guest_69 rfl fl_X7_232 (zok_3 (by decide) hi1) (rfl) ?_
      exact v_iret dX7_guest_72 rfl (Nat.le_of_ble_eq_true rfl) (Nat.le_of_ble_eq_true rfl) h
    replace h := h.2 hs0
    by_cases hs1 : x2 = nI 1
    · replace h := h.1 hs1
      have hx : (x2).toInt = 1 := by rw [hs1]; rfl
      refine v_tableIn (n := 73) (off := 49) dX7_guest_24 (by rw [hx]; decide) (by rw [hx]; decide) (by rw [hx]; rfl) (by decide) ?_
      refine v_aload_n (n := 74) dX7_guest_73 rfl rfl ?_
      refine v_getf (n := 77) dX7_guest_74 rfl fl_X7_235 (zok_3 (by decide) hi1) (rfl) ?_
      exact v_iret dX7_guest_77 rfl (Nat.le_of_ble_eq_true rfl) (Nat.le_of_ble_eq_true rfl) h
    replace h := h.2 hs1
    by_cases hs2 : x2 = nI 2
    · replace h := h.1 hs2
      have hx : (x2).toInt = 2 := by rw [hs2]; rfl
      refine v_tableIn (n := 78) (off := 54) dX7_guest_24 (by rw [hx]; decide) (by rw [hx]; decide) (by rw [hx]; rfl) (by decide) ?_
      refine v_aload_n (n := 79) dX7_guest_78 rfl rfl ?_
      refine v_getf (n := 82) dX7_guest_79 rfl fl_X7_232 (zok_3 (by decide) hi1) (rfl) ?_
      refine v_iconst (n := 83) (x := nI 1) dX7_guest_82 rfl (by decide) ?_
      refine v_icmp_ne (n := 86) (t := 93) dX7_guest_83 rfl (by decide) (fun hq => ?_) (fun hq => ?_)
      · replace h := h.1 hq
        refine v_aload_n (n := 94) dX7_guest_93 rfl rfl ?_
        refine v_getf (n := 97) dX7_guest_94 rfl fl_X7_241 (zok_3 (by decide) hi1) (rfl) ?_
        exact v_iret dX7_guest_97 rfl (Nat.le_of_ble_eq_true rfl) (Nat.le_of_ble_eq_true rfl) h
      · replace h := h.2 hq
        refine v_aload_n (n := 87) dX7_guest_86 rfl rfl ?_
        refine v_getf (n := 90) dX7_guest_87 rfl fl_X7_238 (zok_3 (by decide) hi1) (rfl) ?_
        refine v_goto (n := 97) dX7_guest_90 (by decide) ?_
        exact v_iret dX7_guest_97 rfl (Nat.le_of_ble_eq_true rfl) (Nat.le_of_ble_eq_true rfl) h
    replace h := h.2 hs2
    by_cases hs3 : x2 = nI 3
    · replace h := h.1 hs3
      have hx : (x2).toInt = 3 := by rw [hs3]; rfl
      refine v_tableIn (n := 98) (off := 74) dX7_guest_24 (by rw [hx]; decide) (by rw [hx]; decide) (by rw [hx]; rfl) (by decide) ?_
      refine v_aload_n (n := 99) dX7_guest_98 rfl rfl ?_
      refine v_getf (n := 102) dX7_guest_99 rfl fl_X7_242 (zok_3 (by decide) hi1) (rfl) ?_
      exact v_iret dX7_guest_102 rfl (Nat.le_of_ble_eq_true rfl) (Nat.le_of_ble_eq_true rfl) h
    replace h := h.2 hs3
    by_cases hs4 : x2 = nI 4
    · replace h := h.1 hs4
      have hx : (x2).toInt = 4 := by rw [hs4]; rfl
      refine v_tableIn (n := 103) (off := 79) dX7_guest_24 (by rw [hx]; decide) (by rw [hx]; decide) (by rw [hx]; rfl) (by decide) ?_
      refine v_aload_n (n := 104) dX7_guest_103 rfl rfl ?_
      refine v_getf (n := 107) dX7_guest_104 rfl fl_X7_245 (zok_3 (by decide) hi1) (rfl) ?_
      exact v_iret dX7_guest_107 rfl (Nat.le_of_ble_eq_true rfl) (Nat.le_of_ble_eq_true rfl) h
    replace h := h.2 hs4
    by_cases hs5 : x2 = nI 5
    · replace h := h.1 hs5
      have hx : (x2).toInt = 5 := by rw [hs5]; rfl
      refine v_tableIn (n := 108) (off := 84) dX7_guest_24 (by rw [hx]; decide) (by rw [hx]; decide) (by rw [hx]; rfl) (by decide) ?_
      refine v_aload_n (n := 109) dX7_guest_108 rfl rfl ?_
      refine v_getf (n := 112) dX7_guest_109 rfl fl_X7_248 (zok_3 (by decide) hi1) (rfl) ?_
      exact v_iret dX7_guest_112 rfl (Nat.le_of_ble_eq_true rfl) (Nat.le_of_ble_eq_true rfl) h
    replace h := h.2 hs5
    by_cases hs6 : x2 = nI 6
    · replace h := h.1 hs6
      have hx : (x2).toInt = 6 := by rw [hs6]; rfl
      refine v_tableIn (n := 113) (off := 89) dX7_guest_24 (by rw [hx]; decide) (by rw [hx]; decide) (by rw [hx]; rfl) (by decide) ?_
      refine v_aload_n (n := 114) dX7_guest_113 rfl rfl ?_
      refine v_getf (n := 117) dX7_guest_114 rfl fl_X7_251 (zok_3 (by decide) hi1) (rfl) ?_
      exact v_iret dX7_guest_117 rfl (Nat.le_of_ble_eq_true rfl) (Nat.le_of_ble_eq_true rfl) h
    replace h := h.2 hs6
    refine v_tableOut (n := 118) dX7_guest_24 (tsw_out 7 (fun k hk => by rcases (show k = 0 ∨ k = 1 ∨ k = 2 ∨ k = 3 ∨ k = 4 ∨ k = 5 ∨ k = 6 by omega) with rfl | rfl | rfl | rfl | rfl | rfl | rfl <;> assumption)) (by decide) ?_
    exact v_throw lt_IllegalArgumentException_254 rfl dX7_guest_118 dX7_guest_121 dX7_guest_122 dX7_guest_124 dX7_guest_127 ⟨Nat.le_of_ble_eq_true rfl, Nat.le_of_ble_eq_true rfl, Nat.le_of_ble_eq_true rfl, Nat.le_of_ble_eq_true rfl⟩ (Nat.le_of_ble_eq_true rfl) (Nat.le_of_ble_eq_true rfl) h

set_option maxRecDepth 20000 in
set_option maxHeartbeats 4000000 in
theorem wX7_queue (G : Gl) {P : Option Value → St → Prop} {X : String → St → Prop} (x1 : Int32) (x2 : Int32) (μ : St)
    (h : μ 2 0 0 5 ≤ nI 16 ∧ ((idx x1 (μ 2 0 0 5) = false → μ 2 0 0 3 ≤ nI 6 ∧ ((idx x2 (μ 2 0 0 3) = false → X "java/lang/IndexOutOfBoundsException" μ) ∧ (∀ i2 : Nat, i2 < 6 → x2 = nI i2 → idx x2 (μ 2 0 0 3) = true → X "java/lang/IndexOutOfBoundsException" μ))) ∧ (∀ i1 : Nat, i1 < 16 → x1 = nI i1 → idx x1 (μ 2 0 0 5) = true → μ 2 0 0 3 ≤ nI 6 ∧ ((idx x2 (μ 2 0 0 3) = false → X "java/lang/IndexOutOfBoundsException" μ) ∧ (∀ i3 : Nat, i3 < 6 → x2 = nI i3 → idx x2 (μ 2 0 0 3) = true → Con G mX0_queueRefusal [.ref (zad G.1 2 0 0), .ref (zad G.1 3 0 i1), .ref (zad G.1 6 0 i3), .int x2] μ (fun v μ1 => ∃ r1 : Int32, v = some (.int r1) ∧ ((r1 = 0 → Con G mX2_remember [.ref (zad G.1 4 0 0), .ref (zad G.1 2 0 0)] μ1 (fun v μ2 => v = none ∧ Con G mX0_joinQueue [.ref (zad G.1 2 0 0), .ref (zad G.1 3 0 i1), .int x2] μ2 (fun v μ3 => ∃ r2 : Int32, v = some (.int r2) ∧ P (some (.int r2)) μ3) noX) noX) ∧ (¬ r1 = 0 → Con G mX7_keepRefusal [.ref (zad G.1 9 0 0), .ref (zad G.1 3 0 i1), .int r1] μ1 (fun v μ4 => v = none ∧ X "java/lang/UnsupportedOperationException" μ4) noX))) noX))))) :
    Con G mX7_queue [.ref (zad G.1 9 0 0), .int x1, .int x2] μ P X := by
  refine con_of pn_X7 rfl (Nat.le_of_ble_eq_true rfl) ?_
  show VL G mX7_queue P X 0 [(0, .ref (zad G.1 9 0 0)), (1, .int x1), (2, .int x2)] [] μ
  refine v_aload_n (n := 1) dX7_queue_0 rfl rfl ?_
  refine v_getf (n := 4) dX7_queue_1 rfl fl_X7_12 zokc_9 rfl ?_
  refine v_iload_n (n := 5) dX7_queue_4 rfl rfl ?_
  obtain ⟨hf1, h⟩ := h
  refine v_callV (n := 8) (k := 2) (b := 0) (i := 0) (As := [.int x1]) (rest := []) dX7_queue_5 rfl lk_X7_226 rfl rfl (Nat.le_of_ble_eq_true rfl) ⟨Nat.le_of_ble_eq_true rfl, Nat.le_of_ble_eq_true rfl, Nat.le_of_ble_eq_true rfl, Nat.le_of_ble_eq_true rfl⟩ (zok_2 (by decide)) (s_X0_guestAt G 0 (by decide) x1 μ hf1) (fun v μ9 hp => ?_) (fun _ _ hp => False.elim hp)
  rcases hp with ⟨hq, hv, hm⟩ | ⟨i1, hi1, hq, hq2, hv, hm⟩
  · replace h := h.1 hq
    rw [hv, hm]
    refine v_norm (st' := [.null]) (cells' := 0) (slots' := 0) rfl rfl rfl ?_
    refine v_astore_nN (n := 9) (L' := [(0, .ref (zad G.1 9 0 0)), (1, .int x1), (2, .int x2), (3, .null)]) dX7_queue_8 rfl (by decide) rfl ?_
    refine v_aload_n (n := 10) dX7_queue_9 rfl rfl ?_
    refine v_getf (n := 13) dX7_queue_10 rfl fl_X7_12 zokc_9 rfl ?_
    refine v_iload_n (n := 14) dX7_queue_13 rfl rfl ?_
    obtain ⟨hf2, h⟩ := h
    refine v_callV (n := 17) (k := 2) (b := 0) (i := 0) (As := [.int x2]) (rest := []) dX7_queue_14 rfl lk_X7_130 rfl rfl (Nat.le_of_ble_eq_true rfl) ⟨Nat.le_of_ble_eq_true rfl, Nat.le_of_ble_eq_true rfl, Nat.le_of_ble_eq_true rfl, Nat.le_of_ble_eq_true rfl⟩ (zok_2 (by decide)) (s_X0_liftAt G 0 (by decide) x2 μ hf2) (fun v μ9 hp => ?_) (fun _ _ hp => False.elim hp)
    rcases hp with ⟨hq, hv, hm⟩ | ⟨i2, hi2, hq, hq2, hv, hm⟩
    · replace h := h.1 hq
      rw [hv, hm]
      refine v_norm (st' := [.null]) (cells' := 0) (slots' := 0) rfl rfl rfl ?_
      refine v_astoreN (n := 19) (L' := [(0, .ref (zad G.1 9 0 0)), (1, .int x1), (2, .int x2), (3, .null), (4, .null)]) dX7_queue_17 rfl (by decide) rfl ?_
      refine v_aload_nN (n := 20) dX7_queue_19 rfl rfl ?_
      refine v_ifnullN (n := 28) dX7_queue_20 (by decide) ?_
      exact v_throwW lt_IndexOutOfBoundsException_256 rfl dX7_queue_28 dX7_queue_31 dX7_queue_32 dX7_queue_35 dX7_queue_38 ⟨Nat.le_of_ble_eq_true rfl, Nat.le_of_ble_eq_true rfl, Nat.le_of_ble_eq_true rfl, Nat.le_of_ble_eq_true rfl⟩ (Nat.le_of_ble_eq_true rfl) (Nat.le_of_ble_eq_true rfl) h
    · replace h := h.2 i2 hi2 hq hq2
      rw [hv, hm]
      refine v_norm (st' := [.ref (zad G.1 6 0 i2)]) (cells' := 0) (slots' := 0) rfl rfl rfl ?_
      refine v_astore (n := 19) (L' := [(0, .ref (zad G.1 9 0 0)), (1, .int x1), (2, .int x2), (3, .null), (4, .ref (zad G.1 6 0 i2))]) dX7_queue_17 rfl (by decide) rfl ?_
      refine v_aload_nN (n := 20) dX7_queue_19 rfl rfl ?_
      refine v_ifnullN (n := 28) dX7_queue_20 (by decide) ?_
      exact v_throwW lt_IndexOutOfBoundsException_256 rfl dX7_queue_28 dX7_queue_31 dX7_queue_32 dX7_queue_35 dX7_queue_38 ⟨Nat.le_of_ble_eq_true rfl, Nat.le_of_ble_eq_true rfl, Nat.le_of_ble_eq_true rfl, Nat.le_of_ble_eq_true rfl⟩ (Nat.le_of_ble_eq_true rfl) (Nat.le_of_ble_eq_true rfl) h
  · replace h := h.2 i1 hi1 hq hq2
    rw [hv, hm]
    refine v_norm (st' := [.ref (zad G.1 3 0 i1)]) (cells' := 0) (slots' := 0) rfl rfl rfl ?_
    refine v_astore_n (n := 9) (L' := [(0, .ref (zad G.1 9 0 0)), (1, .int x1), (2, .int x2), (3, .ref (zad G.1 3 0 i1))]) dX7_queue_8 rfl (by decide) rfl ?_
    refine v_aload_n (n := 10) dX7_queue_9 rfl rfl ?_
    refine v_getf (n := 13) dX7_queue_10 rfl fl_X7_12 zokc_9 rfl ?_
    refine v_iload_n (n := 14) dX7_queue_13 rfl rfl ?_
    obtain ⟨hf3, h⟩ := h
    refine v_callV (n := 17) (k := 2) (b := 0) (i := 0) (As := [.int x2]) (rest := []) dX7_queue_14 rfl lk_X7_130 rfl rfl (Nat.le_of_ble_eq_true rfl) ⟨Nat.le_of_ble_eq_true rfl, Nat.le_of_ble_eq_true rfl, Nat.le_of_ble_eq_true rfl, Nat.le_of_ble_eq_true rfl⟩ (zok_2 (by decide)) (s_X0_liftAt G 0 (by decide) x2 μ hf3) (fun v μ9 hp => ?_) (fun _ _ hp => False.elim hp)
    rcases hp with ⟨hq, hv, hm⟩ | ⟨i3, hi3, hq, hq2, hv, hm⟩
    · replace h := h.1 hq
      rw [hv, hm]
      refine v_norm (st' := [.null]) (cells' := 0) (slots' := 0) rfl rfl rfl ?_
      refine v_astoreN (n := 19) (L' := [(0, .ref (zad G.1 9 0 0)), (1, .int x1), (2, .int x2), (3, .ref (zad G.1 3 0 i1)), (4, .null)]) dX7_queue_17 rfl (by decide) rfl ?_
      refine v_aload_n (n := 20) dX7_queue_19 rfl rfl ?_
      refine v_ifnull (n := 23) dX7_queue_20 rfl ?_
      refine v_aloadN (n := 25) dX7_queue_23 rfl rfl ?_
      refine v_ifnonnullN (n := 28) dX7_queue_25 rfl ?_
      exact v_throwW lt_IndexOutOfBoundsException_256 rfl dX7_queue_28 dX7_queue_31 dX7_queue_32 dX7_queue_35 dX7_queue_38 ⟨Nat.le_of_ble_eq_true rfl, Nat.le_of_ble_eq_true rfl, Nat.le_of_ble_eq_true rfl, Nat.le_of_ble_eq_true rfl⟩ (Nat.le_of_ble_eq_true rfl) (Nat.le_of_ble_eq_true rfl) h
    · replace h := h.2 i3 hi3 hq hq2
      rw [hv, hm]
      refine v_norm (st' := [.ref (zad G.1 6 0 i3)]) (cells' := 0) (slots' := 0) rfl rfl rfl ?_
      refine v_astore (n := 19) (L' := [(0, .ref (zad G.1 9 0 0)), (1, .int x1), (2, .int x2), (3, .ref (zad G.1 3 0 i1)), (4, .ref (zad G.1 6 0 i3))]) dX7_queue_17 rfl (by decide) rfl ?_
      refine v_aload_n (n := 20) dX7_queue_19 rfl rfl ?_
      refine v_ifnull (n := 23) dX7_queue_20 rfl ?_
      refine v_aload (n := 25) dX7_queue_23 rfl rfl ?_
      refine v_ifnonnull (n := 39) dX7_queue_25 (by decide) ?_
      refine v_aload_n (n := 40) dX7_queue_39 rfl rfl ?_
      refine v_getf (n := 43) dX7_queue_40 rfl fl_X7_12 zokc_9 rfl ?_
      refine v_aload_n (n := 44) dX7_queue_43 rfl rfl ?_
      refine v_aload (n := 46) dX7_queue_44 rfl rfl ?_
      refine v_iload_n (n := 47) dX7_queue_46 rfl rfl ?_
      refine v_callV (n := 50) (k := 2) (b := 0) (i := 0) (As := [.ref (zad G.1 3 0 i1), .ref (zad G.1 6 0 i3), .int x2]) (rest := []) dX7_queue_47 rfl lk_X7_258 rfl rfl (Nat.le_of_ble_eq_true rfl) ⟨Nat.le_of_ble_eq_true rfl, Nat.le_of_ble_eq_true rfl, Nat.le_of_ble_eq_true rfl, Nat.le_of_ble_eq_true rfl⟩ (zok_2 (by decide)) h (fun v μ1 h => ?_) (fun _ _ hp => False.elim hp)
      obtain ⟨r1, rfl, h⟩ := h
      refine v_norm (st' := [.int r1]) (cells' := 0) (slots' := 0) rfl rfl rfl ?_
      refine v_istore (n := 52) (L' := [(0, .ref (zad G.1 9 0 0)), (1, .int x1), (2, .int x2), (3, .ref (zad G.1 3 0 i1)), (4, .ref (zad G.1 6 0 i3)), (5, .int r1)]) dX7_queue_50 rfl (by decide) rfl ?_
      refine v_iload (n := 54) dX7_queue_52 rfl rfl ?_
      refine v_if_eq (n := 57) (t := 75) dX7_queue_54 rfl (by decide) (fun hq => ?_) (fun hq => ?_)
      · replace h := h.1 hq
        refine v_aload_n (n := 76) dX7_queue_75 rfl rfl ?_
        refine v_getf (n := 79) dX7_queue_76 rfl fl_X7_25 zokc_9 rfl ?_
        refine v_aload_n (n := 80) dX7_queue_79 rfl rfl ?_
        refine v_getf (n := 83) dX7_queue_80 rfl fl_X7_12 zokc_9 rfl ?_
        refine v_callV (n := 86) (k := 4) (b := 0) (i := 0) (As := [.ref (zad G.1 2 0 0)]) (rest := []) dX7_queue_83 rfl lk_X7_91 rfl rfl (Nat.le_of_ble_eq_true rfl) ⟨Nat.le_of_ble_eq_true rfl, Nat.le_of_ble_eq_true rfl, Nat.le_of_ble_eq_true rfl, Nat.le_of_ble_eq_true rfl⟩ zokc_4 h (fun v μ2 h => ?_) (fun _ _ hp => False.elim hp)
        obtain ⟨rfl, h⟩ := h
        refine v_norm (st' := []) (cells' := 0) (slots' := 0) rfl rfl rfl ?_
        refine v_aload_n (n := 87) dX7_queue_86 rfl rfl ?_
        refine v_getf (n := 90) dX7_queue_87 rfl fl_X7_12 zokc_9 rfl ?_
        refine v_aload_n (n := 91) dX7_queue_90 rfl rfl ?_
        refine v_iload_n (n := 92) dX7_queue_91 rfl rfl ?_
        refine v_callV (n := 95) (k := 2) (b := 0) (i := 0) (As := [.ref (zad G.1 3 0 i1), .int x2]) (rest := []) dX7_queue_92 rfl lk_X7_271 rfl rfl (Nat.le_of_ble_eq_true rfl) ⟨Nat.le_of_ble_eq_true rfl, Nat.le_of_ble_eq_true rfl, Nat.le_of_ble_eq_true rfl, Nat.le_of_ble_eq_true rfl⟩ (zok_2 (by decide)) h (fun v μ3 h => ?_) (fun _ _ hp => False.elim hp)
        obtain ⟨r2, rfl, h⟩ := h
        refine v_norm (st' := [.int r2]) (cells' := 0) (slots' := 0) rfl rfl rfl ?_
        exact v_iret dX7_queue_95 rfl (Nat.le_of_ble_eq_true rfl) (Nat.le_of_ble_eq_true rfl) h
      · replace h := h.2 hq
        refine v_aload_n (n := 58) dX7_queue_57 rfl rfl ?_
        refine v_aload_n (n := 59) dX7_queue_58 rfl rfl ?_
        refine v_iload (n := 61) dX7_queue_59 rfl rfl ?_
        refine v_callV (n := 64) (k := 9) (b := 0) (i := 0) (As := [.ref (zad G.1 3 0 i1), .int r1]) (rest := []) dX7_queue_61 rfl lk_X7_262 rfl rfl (Nat.le_of_ble_eq_true rfl) ⟨Nat.le_of_ble_eq_true rfl, Nat.le_of_ble_eq_true rfl, Nat.le_of_ble_eq_true rfl, Nat.le_of_ble_eq_true rfl⟩ zokc_9 h (fun v μ4 h => ?_) (fun _ _ hp => False.elim hp)
        obtain ⟨rfl, h⟩ := h
        refine v_norm (st' := []) (cells' := 0) (slots' := 0) rfl rfl rfl ?_
        exact v_throwW lt_UnsupportedOperationException_268 rfl dX7_queue_64 dX7_queue_67 dX7_queue_68 dX7_queue_71 dX7_queue_74 ⟨Nat.le_of_ble_eq_true rfl, Nat.le_of_ble_eq_true rfl, Nat.le_of_ble_eq_true rfl, Nat.le_of_ble_eq_true rfl⟩ (Nat.le_of_ble_eq_true rfl) (Nat.le_of_ble_eq_true rfl) h

set_option maxRecDepth 20000 in
set_option maxHeartbeats 4000000 in
theorem wX7_ski (G : Gl) {P : Option Value → St → Prop} {X : String → St → Prop} (x1 : Int32) (x2 : Int32) (μ : St)
    (h : μ 2 0 0 5 ≤ nI 16 ∧ ((idx x1 (μ 2 0 0 5) = false → μ 2 0 0 4 ≤ nI 10 ∧ ((idx x2 (μ 2 0 0 4) = false → X "java/lang/IndexOutOfBoundsException" μ) ∧ (∀ i2 : Nat, i2 < 10 → x2 = nI i2 → idx x2 (μ 2 0 0 4) = true → X "java/lang/IndexOutOfBoundsException" μ))) ∧ (∀ i1 : Nat, i1 < 16 → x1 = nI i1 → idx x1 (μ 2 0 0 5) = true → μ 2 0 0 4 ≤ nI 10 ∧ ((idx x2 (μ 2 0 0 4) = false → X "java/lang/IndexOutOfBoundsException" μ) ∧ (∀ i3 : Nat, i3 < 10 → x2 = nI i3 → idx x2 (μ 2 0 0 4) = true → Con G mX0_skiRefusal [.ref (zad G.1 2 0 0), .ref (zad G.1 3 0 i1), .ref (zad G.1 7 0 i3)] μ (fun v μ1 => ∃ r1 : Int32, v = some (.int r1) ∧ ((r1 = 0 → Con G mX2_remember [.ref (zad G.1 4 0 0), .ref (zad G.1 2 0 0)] μ1 (fun v μ2 => v = none ∧ Con G mX0_startPiste [.ref (zad G.1 2 0 0), .ref (zad G.1 3 0 i1), .ref (zad G.1 7 0 i3), .int x2] μ2 (fun v μ3 => ∃ r2 : Int32, v = some (.int r2) ∧ P (some (.int r2)) μ3) noX) noX) ∧ (¬ r1 = 0 → Con G mX7_keepRefusal [.ref (zad G.1 9 0 0), .ref (zad G.1 3 0 i1), .int r1] μ1 (fun v μ4 => v = none ∧ X "java/lang/UnsupportedOperationException" μ4) noX))) noX))))) :
    Con G mX7_ski [.ref (zad G.1 9 0 0), .int x1, .int x2] μ P X := by
  refine con_of pn_X7 rfl (Nat.le_of_ble_eq_true rfl) ?_
  show VL G mX7_ski P X 0 [(0, .ref (zad G.1 9 0 0)), (1, .int x1), (2, .int x2)] [] μ
  refine v_aload_n (n := 1) dX7_ski_0 rfl rfl ?_
  refine v_getf (n := 4) dX7_ski_1 rfl fl_X7_12 zokc_9 rfl ?_
  refine v_iload_n (n := 5) dX7_ski_4 rfl rfl ?_
  obtain ⟨hf1, h⟩ := h
  refine v_callV (n := 8) (k := 2) (b := 0) (i := 0) (As := [.int x1]) (rest := []) dX7_ski_5 rfl lk_X7_226 rfl rfl (Nat.le_of_ble_eq_true rfl) ⟨Nat.le_of_ble_eq_true rfl, Nat.le_of_ble_eq_true rfl, Nat.le_of_ble_eq_true rfl, Nat.le_of_ble_eq_true rfl⟩ (zok_2 (by decide)) (s_X0_guestAt G 0 (by decide) x1 μ hf1) (fun v μ9 hp => ?_) (fun _ _ hp => False.elim hp)
  rcases hp with ⟨hq, hv, hm⟩ | ⟨i1, hi1, hq, hq2, hv, hm⟩
  · replace h := h.1 hq
    rw [hv, hm]
    refine v_norm (st' := [.null]) (cells' := 0) (slots' := 0) rfl rfl rfl ?_
    refine v_astore_nN (n := 9) (L' := [(0, .ref (zad G.1 9 0 0)), (1, .int x1), (2, .int x2), (3, .null)]) dX7_ski_8 rfl (by decide) rfl ?_
    refine v_aload_n (n := 10) dX7_ski_9 rfl rfl ?_
    refine v_getf (n := 13) dX7_ski_10 rfl fl_X7_12 zokc_9 rfl ?_
    refine v_iload_n (n := 14) dX7_ski_13 rfl rfl ?_
    obtain ⟨hf2, h⟩ := h
    refine v_callV (n := 17) (k := 2) (b := 0) (i := 0) (As := [.int x2]) (rest := []) dX7_ski_14 rfl lk_X7_170 rfl rfl (Nat.le_of_ble_eq_true rfl) ⟨Nat.le_of_ble_eq_true rfl, Nat.le_of_ble_eq_true rfl, Nat.le_of_ble_eq_true rfl, Nat.le_of_ble_eq_true rfl⟩ (zok_2 (by decide)) (s_X0_pisteAt G 0 (by decide) x2 μ hf2) (fun v μ9 hp => ?_) (fun _ _ hp => False.elim hp)
    rcases hp with ⟨hq, hv, hm⟩ | ⟨i2, hi2, hq, hq2, hv, hm⟩
    · replace h := h.1 hq
      rw [hv, hm]
      refine v_norm (st' := [.null]) (cells' := 0) (slots' := 0) rfl rfl rfl ?_
      refine v_astoreN (n := 19) (L' := [(0, .ref (zad G.1 9 0 0)), (1, .int x1), (2, .int x2), (3, .null), (4, .null)]) dX7_ski_17 rfl (by decide) rfl ?_
      refine v_aload_nN (n := 20) dX7_ski_19 rfl rfl ?_
      refine v_ifnullN (n := 28) dX7_ski_20 (by decide) ?_
      exact v_throwW lt_IndexOutOfBoundsException_275 rfl dX7_ski_28 dX7_ski_31 dX7_ski_32 dX7_ski_35 dX7_ski_38 ⟨Nat.le_of_ble_eq_true rfl, Nat.le_of_ble_eq_true rfl, Nat.le_of_ble_eq_true rfl, Nat.le_of_ble_eq_true rfl⟩ (Nat.le_of_ble_eq_true rfl) (Nat.le_of_ble_eq_true rfl) h
    · replace h := h.2 i2 hi2 hq hq2
      rw [hv, hm]
      refine v_norm (st' := [.ref (zad G.1 7 0 i2)]) (cells' := 0) (slots' := 0) rfl rfl rfl ?_
      refine v_astore (n := 19) (L' := [(0, .ref (zad G.1 9 0 0)), (1, .int x1), (2, .int x2), (3, .null), (4, .ref (zad G.1 7 0 i2))]) dX7_ski_17 rfl (by decide) rfl ?_
      refine v_aload_nN (n := 20) dX7_ski_19 rfl rfl ?_
      refine v_ifnullN (n := 28) dX7_ski_20 (by decide) ?_
      exact v_throwW lt_IndexOutOfBoundsException_275 rfl dX7_ski_28 dX7_ski_31 dX7_ski_32 dX7_ski_35 dX7_ski_38 ⟨Nat.le_of_ble_eq_true rfl, Nat.le_of_ble_eq_true rfl, Nat.le_of_ble_eq_true rfl, Nat.le_of_ble_eq_true rfl⟩ (Nat.le_of_ble_eq_true rfl) (Nat.le_of_ble_eq_true rfl) h
  · replace h := h.2 i1 hi1 hq hq2
    rw [hv, hm]
    refine v_norm (st' := [.ref (zad G.1 3 0 i1)]) (cells' := 0) (slots' := 0) rfl rfl rfl ?_
    refine v_astore_n (n := 9) (L' := [(0, .ref (zad G.1 9 0 0)), (1, .int x1), (2, .int x2), (3, .ref (zad G.1 3 0 i1))]) dX7_ski_8 rfl (by decide) rfl ?_
    refine v_aload_n (n := 10) dX7_ski_9 rfl rfl ?_
    refine v_getf (n := 13) dX7_ski_10 rfl fl_X7_12 zokc_9 rfl ?_
    refine v_iload_n (n := 14) dX7_ski_13 rfl rfl ?_
    obtain ⟨hf3, h⟩ := h
    refine v_callV (n := 17) (k := 2) (b := 0) (i := 0) (As := [.int x2]) (rest := []) dX7_ski_14 rfl lk_X7_170 rfl rfl (Nat.le_of_ble_eq_true rfl) ⟨Nat.le_of_ble_eq_true rfl, Nat.le_of_ble_eq_true rfl, Nat.le_of_ble_eq_true rfl, Nat.le_of_ble_eq_true rfl⟩ (zok_2 (by decide)) (s_X0_pisteAt G 0 (by decide) x2 μ hf3) (fun v μ9 hp => ?_) (fun _ _ hp => False.elim hp)
    rcases hp with ⟨hq, hv, hm⟩ | ⟨i3, hi3, hq, hq2, hv, hm⟩
    · replace h := h.1 hq
      rw [hv, hm]
      refine v_norm (st' := [.null]) (cells' := 0) (slots' := 0) rfl rfl rfl ?_
      refine v_astoreN (n := 19) (L' := [(0, .ref (zad G.1 9 0 0)), (1, .int x1), (2, .int x2), (3, .ref (zad G.1 3 0 i1)), (4, .null)]) dX7_ski_17 rfl (by decide) rfl ?_
      refine v_aload_n (n := 20) dX7_ski_19 rfl rfl ?_
      refine v_ifnull (n := 23) dX7_ski_20 rfl ?_
      refine v_aloadN (n := 25) dX7_ski_23 rfl rfl ?_
      refine v_ifnonnullN (n := 28) dX7_ski_25 rfl ?_
      exact v_throwW lt_IndexOutOfBoundsException_275 rfl dX7_ski_28 dX7_ski_31 dX7_ski_32 dX7_ski_35 dX7_ski_38 ⟨Nat.le_of_ble_eq_true rfl, Nat.le_of_ble_eq_true rfl, Nat.le_of_ble_eq_true rfl, Nat.le_of_ble_eq_true rfl⟩ (Nat.le_of_ble_eq_true rfl) (Nat.le_of_ble_eq_true rfl) h
    · replace h := h.2 i3 hi3 hq hq2
      rw [hv, hm]
      refine v_norm (st' := [.ref (zad G.1 7 0 i3)]) (cells' := 0) (slots' := 0) rfl rfl rfl ?_
      refine v_astore (n := 19) (L' := [(0, .ref (zad G.1 9 0 0)), (1, .int x1), (2, .int x2), (3, .ref (zad G.1 3 0 i1)), (4, .ref (zad G.1 7 0 i3))]) dX7_ski_17 rfl (by decide) rfl ?_
      refine v_aload_n (n := 20) dX7_ski_19 rfl rfl ?_
      refine v_ifnull (n := 23) dX7_ski_20 rfl ?_
      refine v_aload (n := 25) dX7_ski_23 rfl rfl ?_
      refine v_ifnonnull (n := 39) dX7_ski_25 (by decide) ?_
      refine v_aload_n (n := 40) dX7_ski_39 rfl rfl ?_
      refine v_getf (n := 43) dX7_ski_40 rfl fl_X7_12 zokc_9 rfl ?_
      refine v_aload_n (n := 44) dX7_ski_43 rfl rfl ?_
      refine v_aload (n := 46) dX7_ski_44 rfl rfl ?_
      refine v_callV (n := 49) (k := 2) (b := 0) (i := 0) (As := [.ref (zad G.1 3 0 i1), .ref (zad G.1 7 0 i3)]) (rest := []) dX7_ski_46 rfl lk_X7_277 rfl rfl (Nat.le_of_ble_eq_true rfl) ⟨Nat.le_of_ble_eq_true rfl, Nat.le_of_ble_eq_true rfl, Nat.le_of_ble_eq_true rfl, Nat.le_of_ble_eq_true rfl⟩ (zok_2 (by decide)) h (fun v μ1 h => ?_) (fun _ _ hp => False.elim hp)
      obtain ⟨r1, rfl, h⟩ := h
      refine v_norm (st' := [.int r1]) (cells' := 0) (slots' := 0) rfl rfl rfl ?_
      refine v_istore (n := 51) (L' := [(0, .ref (zad G.1 9 0 0)), (1, .int x1), (2, .int x2), (3, .ref (zad G.1 3 0 i1)), (4, .ref (zad G.1 7 0 i3)), (5, .int r1)]) dX7_ski_49 rfl (by decide) rfl ?_
      refine v_iload (n := 53) dX7_ski_51 rfl rfl ?_
      refine v_if_eq (n := 56) (t := 74) dX7_ski_53 rfl (by decide) (fun hq => ?_) (fun hq => ?_)
      · replace h := h.1 hq
        refine v_aload_n (n := 75) dX7_ski_74 rfl rfl ?_
        refine v_getf (n := 78) dX7_ski_75 rfl fl_X7_25 zokc_9 rfl ?_
        refine v_aload_n (n := 79) dX7_ski_78 rfl rfl ?_
        refine v_getf (n := 82) dX7_ski_79 rfl fl_X7_12 zokc_9 rfl ?_
        refine v_callV (n := 85) (k := 4) (b := 0) (i := 0) (As := [.ref (zad G.1 2 0 0)]) (rest := []) dX7_ski_82 rfl lk_X7_91 rfl rfl (Nat.le_of_ble_eq_true rfl) ⟨Nat.le_of_ble_eq_true rfl, Nat.le_of_ble_eq_true rfl, Nat.le_of_ble_eq_true rfl, Nat.le_of_ble_eq_true rfl⟩ zokc_4 h (fun v μ2 h => ?_) (fun _ _ hp => False.elim hp)
        obtain ⟨rfl, h⟩ := h
        refine v_norm (st' := []) (cells' := 0) (slots' := 0) rfl rfl rfl ?_
        refine v_aload_n (n := 86) dX7_ski_85 rfl rfl ?_
        refine v_getf (n := 89) dX7_ski_86 rfl fl_X7_12 zokc_9 rfl ?_
        refine v_aload_n (n := 90) dX7_ski_89 rfl rfl ?_
        refine v_aload (n := 92) dX7_ski_90 rfl rfl ?_
        refine v_iload_n (n := 93) dX7_ski_92 rfl rfl ?_
        refine v_callV (n := 96) (k := 2) (b := 0) (i := 0) (As := [.ref (zad G.1 3 0 i1), .ref (zad G.1 7 0 i3), .int x2]) (rest := []) dX7_ski_93 rfl lk_X7_281 rfl rfl (Nat.le_of_ble_eq_true rfl) ⟨Nat.le_of_ble_eq_true rfl, Nat.le_of_ble_eq_true rfl, Nat.le_of_ble_eq_true rfl, Nat.le_of_ble_eq_true rfl⟩ (zok_2 (by decide)) h (fun v μ3 h => ?_) (fun _ _ hp => False.elim hp)
        obtain ⟨r2, rfl, h⟩ := h
        refine v_norm (st' := [.int r2]) (cells' := 0) (slots' := 0) rfl rfl rfl ?_
        exact v_iret dX7_ski_96 rfl (Nat.le_of_ble_eq_true rfl) (Nat.le_of_ble_eq_true rfl) h
      · replace h := h.2 hq
        refine v_aload_n (n := 57) dX7_ski_56 rfl rfl ?_
        refine v_aload_n (n := 58) dX7_ski_57 rfl rfl ?_
        refine v_iload (n := 60) dX7_ski_58 rfl rfl ?_
        refine v_callV (n := 63) (k := 9) (b := 0) (i := 0) (As := [.ref (zad G.1 3 0 i1), .int r1]) (rest := []) dX7_ski_60 rfl lk_X7_262 rfl rfl (Nat.le_of_ble_eq_true rfl) ⟨Nat.le_of_ble_eq_true rfl, Nat.le_of_ble_eq_true rfl, Nat.le_of_ble_eq_true rfl, Nat.le_of_ble_eq_true rfl⟩ zokc_9 h (fun v μ4 h => ?_) (fun _ _ hp => False.elim hp)
        obtain ⟨rfl, h⟩ := h
        refine v_norm (st' := []) (cells' := 0) (slots' := 0) rfl rfl rfl ?_
        exact v_throwW lt_UnsupportedOperationException_268 rfl dX7_ski_63 dX7_ski_66 dX7_ski_67 dX7_ski_70 dX7_ski_73 ⟨Nat.le_of_ble_eq_true rfl, Nat.le_of_ble_eq_true rfl, Nat.le_of_ble_eq_true rfl, Nat.le_of_ble_eq_true rfl⟩ (Nat.le_of_ble_eq_true rfl) (Nat.le_of_ble_eq_true rfl) h

set_option maxRecDepth 20000 in
set_option maxHeartbeats 4000000 in
theorem wX7_leave (G : Gl) {P : Option Value → St → Prop} {X : String → St → Prop} (x1 : Int32) (μ : St)
    (h : μ 2 0 0 5 ≤ nI 16 ∧ ((idx x1 (μ 2 0 0 5) = false → X "java/lang/IndexOutOfBoundsException" μ) ∧ (∀ i1 : Nat, i1 < 16 → x1 = nI i1 → idx x1 (μ 2 0 0 5) = true → ((μ 3 0 i1 4 = 0 → Con G mX2_remember [.ref (zad G.1 4 0 0), .ref (zad G.1 2 0 0)] μ (fun v μ1 => v = none ∧ ((¬ μ1 3 0 i1 4 = 0 → Con G mX0_leaveQueue [.ref (zad G.1 2 0 0), .ref (zad G.1 3 0 i1)] μ1 (fun v μ2 => v = none ∧ P (some (.int (μ2 3 0 i1 4))) μ2) noX) ∧ (μ1 3 0 i1 4 = 0 → P (some (.int ((gbc μ1 0 i1 (nI 4) (-1) (nI 0) (nI 0)) 3 0 i1 4))) (gbc μ1 0 i1 (nI 4) (-1) (nI 0) (nI 0))))) noX) ∧ (¬ μ 3 0 i1 4 = 0 → ((μ 3 0 i1 4 = nI 1 → Con G mX2_remember [.ref (zad G.1 4 0 0), .ref (zad G.1 2 0 0)] μ (fun v μ3 => v = none ∧ ((¬ μ3 3 0 i1 4 = 0 → Con G mX0_leaveQueue [.ref (zad G.1 2 0 0), .ref (zad G.1 3 0 i1)] μ3 (fun v μ4 => v = none ∧ P (some (.int (μ4 3 0 i1 4))) μ4) noX) ∧ (μ3 3 0 i1 4 = 0 → P (some (.int ((gbc μ3 0 i1 (nI 4) (-1) (nI 0) (nI 0)) 3 0 i1 4))) (gbc μ3 0 i1 (nI 4) (-1) (nI 0) (nI 0))))) noX) ∧ (¬ μ 3 0 i1 4 = nI 1 → X "java/lang/IllegalStateException" μ))))))) :
    Con G mX7_leave [.ref (zad G.1 9 0 0), .int x1] μ P X := by
  refine con_of pn_X7 rfl (Nat.le_of_ble_eq_true rfl) ?_
  show VL G mX7_leave P X 0 [(0, .ref (zad G.1 9 0 0)), (1, .int x1)] [] μ
  refine v_aload_n (n := 1) dX7_leave_0 rfl rfl ?_
  refine v_getf (n := 4) dX7_leave_1 rfl fl_X7_12 zokc_9 rfl ?_
  refine v_iload_n (n := 5) dX7_leave_4 rfl rfl ?_
  obtain ⟨hf1, h⟩ := h
  refine v_callV (n := 8) (k := 2) (b := 0) (i := 0) (As := [.int x1]) (rest := []) dX7_leave_5 rfl lk_X7_226 rfl rfl (Nat.le_of_ble_eq_true rfl) ⟨Nat.le_of_ble_eq_true rfl, Nat.le_of_ble_eq_true rfl, Nat.le_of_ble_eq_true rfl, Nat.le_of_ble_eq_true rfl⟩ (zok_2 (by decide)) (s_X0_guestAt G 0 (by decide) x1 μ hf1) (fun v μ9 hp => ?_) (fun _ _ hp => False.elim hp)
  rcases hp with ⟨hq, hv, hm⟩ | ⟨i1, hi1, hq, hq2, hv, hm⟩
  · replace h := h.1 hq
    rw [hv, hm]
    refine v_norm (st' := [.null]) (cells' := 0) (slots' := 0) rfl rfl rfl ?_
    refine v_astore_nN (n := 9) (L' := [(0, .ref (zad G.1 9 0 0)), (1, .int x1), (2, .null)]) dX7_leave_8 rfl (by decide) rfl ?_
    refine v_aload_nN (n := 10) dX7_leave_9 rfl rfl ?_
    refine v_ifnonnullN (n := 13) dX7_leave_10 rfl ?_
    exact v_throw lt_IndexOutOfBoundsException_230 rfl dX7_leave_13 dX7_leave_16 dX7_leave_17 dX7_leave_19 dX7_leave_22 ⟨Nat.le_of_ble_eq_true rfl, Nat.le_of_ble_eq_true rfl, Nat.le_of_ble_eq_true rfl, Nat.le_of_ble_eq_true rfl⟩ (Nat.le_of_ble_eq_true rfl) (Nat.le_of_ble_eq_true rfl) h
  · replace h := h.2 i1 hi1 hq hq2
    rw [hv, hm]
    refine v_norm (st' := [.ref (zad G.1 3 0 i1)]) (cells' := 0) (slots' := 0) rfl rfl rfl ?_
    refine v_astore_n (n := 9) (L' := [(0, .ref (zad G.1 9 0 0)), (1, .int x1), (2, .ref (zad G.1 3 0 i1))]) dX7_leave_8 rfl (by decide) rfl ?_
    refine v_aload_n (n := 10) dX7_leave_9 rfl rfl ?_
    refine v_ifnonnull (n := 23) dX7_leave_10 (by decide) ?_
    refine v_aload_n (n := 24) dX7_leave_23 rfl rfl ?_
    refine v_getf (n := 27) dX7_leave_24 rfl fl_X7_232 (zok_3 (by decide) hi1) (rfl) ?_
    refine v_if_eq (n := 30) (t := 49) dX7_leave_27 rfl (by decide) (fun hq => ?_) (fun hq => ?_)
    · replace h := h.1 hq
      refine v_aload_n (n := 50) dX7_leave_49 rfl rfl ?_
      refine v_getf (n := 53) dX7_leave_50 rfl fl_X7_25 zokc_9 rfl ?_
      refine v_aload_n (n := 54) dX7_leave_53 rfl rfl ?_
      refine v_getf (n := 57) dX7_leave_54 rfl fl_X7_12 zokc_9 rfl ?_
      refine v_callV (n := 60) (k := 4) (b := 0) (i := 0) (As := [.ref (zad G.1 2 0 0)]) (rest := []) dX7_leave_57 rfl lk_X7_91 rfl rfl (Nat.le_of_ble_eq_true rfl) ⟨Nat.le_of_ble_eq_true rfl, Nat.le_of_ble_eq_true rfl, Nat.le_of_ble_eq_true rfl, Nat.le_of_ble_eq_true rfl⟩ zokc_4 h (fun v μ1 h => ?_) (fun _ _ hp => False.elim hp)
      obtain ⟨rfl, h⟩ := h
      refine v_norm (st' := []) (cells' := 0) (slots' := 0) rfl rfl rfl ?_
      refine v_aload_n (n := 61) dX7_leave_60 rfl rfl ?_
      refine v_getf (n := 64) dX7_leave_61 rfl fl_X7_232 (zok_3 (by decide) hi1) (rfl) ?_
      refine v_if_ne (n := 67) (t := 74) dX7_leave_64 rfl (by decide) (fun hq => ?_) (fun hq => ?_)
      · replace h := h.1 hq
        refine v_aload_n (n := 75) dX7_leave_74 rfl rfl ?_
        refine v_getf (n := 78) dX7_leave_75 rfl fl_X7_12 zokc_9 rfl ?_
        refine v_aload_n (n := 79) dX7_leave_78 rfl rfl ?_
        refine v_callV (n := 82) (k := 2) (b := 0) (i := 0) (As := [.ref (zad G.1 3 0 i1)]) (rest := []) dX7_leave_79 rfl lk_X7_290 rfl rfl (Nat.le_of_ble_eq_true rfl) ⟨Nat.le_of_ble_eq_true rfl, Nat.le_of_ble_eq_true rfl, Nat.le_of_ble_eq_true rfl, Nat.le_of_ble_eq_true rfl⟩ (zok_2 (by decide)) h (fun v μ2 h => ?_) (fun _ _ hp => False.elim hp)
        obtain ⟨rfl, h⟩ := h
        refine v_norm (st' := []) (cells' := 0) (slots' := 0) rfl rfl rfl ?_
        refine v_aload_n (n := 83) dX7_leave_82 rfl rfl ?_
        refine v_getf (n := 86) dX7_leave_83 rfl fl_X7_232 (zok_3 (by decide) hi1) (rfl) ?_
        exact v_iret dX7_leave_86 rfl (Nat.le_of_ble_eq_true rfl) (Nat.le_of_ble_eq_true rfl) h
      · replace h := h.2 hq
        refine v_aload_n (n := 68) dX7_leave_67 rfl rfl ?_
        refine v_callV (n := 71) (k := 3) (b := 0) (i := i1) (As := []) (rest := []) dX7_leave_68 rfl lk_X7_287 rfl rfl (Nat.le_of_ble_eq_true rfl) ⟨Nat.le_of_ble_eq_true rfl, Nat.le_of_ble_eq_true rfl, Nat.le_of_ble_eq_true rfl, Nat.le_of_ble_eq_true rfl⟩ (zok_3 (by decide) hi1) (s_X1_goAway G 0 (by decide) i1 hi1 μ1) (fun v μ9 hp => ?_) (fun _ _ hp => False.elim hp)
        rw [hp.1, hp.2]
        refine v_norm (st' := []) (cells' := 0) (slots' := 0) rfl rfl rfl ?_
        refine v_goto (n := 82) dX7_leave_71 (by decide) ?_
        refine v_aload_n (n := 83) dX7_leave_82 rfl rfl ?_
        refine v_getf (n := 86) dX7_leave_83 rfl fl_X7_232 (zok_3 (by decide) hi1) (rfl) ?_
        exact v_iret dX7_leave_86 rfl (Nat.le_of_ble_eq_true rfl) (Nat.le_of_ble_eq_true rfl) h
    · replace h := h.2 hq
      refine v_aload_n (n := 31) dX7_leave_30 rfl rfl ?_
      refine v_getf (n := 34) dX7_leave_31 rfl fl_X7_232 (zok_3 (by decide) hi1) (rfl) ?_
      refine v_iconst (n := 35) (x := nI 1) dX7_leave_34 rfl (by decide) ?_
      refine v_icmp_eq (n := 38) (t := 49) dX7_leave_35 rfl (by decide) (fun hq => ?_) (fun hq => ?_)
      · replace h := h.1 hq
        refine v_aload_n (n := 50) dX7_leave_49 rfl rfl ?_
        refine v_getf (n := 53) dX7_leave_50 rfl fl_X7_25 zokc_9 rfl ?_
        refine v_aload_n (n := 54) dX7_leave_53 rfl rfl ?_
        refine v_getf (n := 57) dX7_leave_54 rfl fl_X7_12 zokc_9 rfl ?_
        refine v_callV (n := 60) (k := 4) (b := 0) (i := 0) (As := [.ref (zad G.1 2 0 0)]) (rest := []) dX7_leave_57 rfl lk_X7_91 rfl rfl (Nat.le_of_ble_eq_true rfl) ⟨Nat.le_of_ble_eq_true rfl, Nat.le_of_ble_eq_true rfl, Nat.le_of_ble_eq_true rfl, Nat.le_of_ble_eq_true rfl⟩ zokc_4 h (fun v μ3 h => ?_) (fun _ _ hp => False.elim hp)
        obtain ⟨rfl, h⟩ := h
        refine v_norm (st' := []) (cells' := 0) (slots' := 0) rfl rfl rfl ?_
        refine v_aload_n (n := 61) dX7_leave_60 rfl rfl ?_
        refine v_getf (n := 64) dX7_leave_61 rfl fl_X7_232 (zok_3 (by decide) hi1) (rfl) ?_
        refine v_if_ne (n := 67) (t := 74) dX7_leave_64 rfl (by decide) (fun hq => ?_) (fun hq => ?_)
        · replace h := h.1 hq
          refine v_aload_n (n := 75) dX7_leave_74 rfl rfl ?_
          refine v_getf (n := 78) dX7_leave_75 rfl fl_X7_12 zokc_9 rfl ?_
          refine v_aload_n (n := 79) dX7_leave_78 rfl rfl ?_
          refine v_callV (n := 82) (k := 2) (b := 0) (i := 0) (As := [.ref (zad G.1 3 0 i1)]) (rest := []) dX7_leave_79 rfl lk_X7_290 rfl rfl (Nat.le_of_ble_eq_true rfl) ⟨Nat.le_of_ble_eq_true rfl, Nat.le_of_ble_eq_true rfl, Nat.le_of_ble_eq_true rfl, Nat.le_of_ble_eq_true rfl⟩ (zok_2 (by decide)) h (fun v μ4 h => ?_) (fun _ _ hp => False.elim hp)
          obtain ⟨rfl, h⟩ := h
          refine v_norm (st' := []) (cells' := 0) (slots' := 0) rfl rfl rfl ?_
          refine v_aload_n (n := 83) dX7_leave_82 rfl rfl ?_
          refine v_getf (n := 86) dX7_leave_83 rfl fl_X7_232 (zok_3 (by decide) hi1) (rfl) ?_
          exact v_iret dX7_leave_86 rfl (Nat.le_of_ble_eq_true rfl) (Nat.le_of_ble_eq_true rfl) h
        · replace h := h.2 hq
          refine v_aload_n (n := 68) dX7_leave_67 rfl rfl ?_
          refine v_callV (n := 71) (k := 3) (b := 0) (i := i1) (As := []) (rest := []) dX7_leave_68 rfl lk_X7_287 rfl rfl (Nat.le_of_ble_eq_true rfl) ⟨Nat.le_of_ble_eq_true rfl, Nat.le_of_ble_eq_true rfl, Nat.le_of_ble_eq_true rfl, Nat.le_of_ble_eq_true rfl⟩ (zok_3 (by decide) hi1) (s_X1_goAway G 0 (by decide) i1 hi1 μ3) (fun v μ9 hp => ?_) (fun _ _ hp => False.elim hp)
          rw [hp.1, hp.2]
          refine v_norm (st' := []) (cells' := 0) (slots' := 0) rfl rfl rfl ?_
          refine v_goto (n := 82) dX7_leave_71 (by decide) ?_
          refine v_aload_n (n := 83) dX7_leave_82 rfl rfl ?_
          refine v_getf (n := 86) dX7_leave_83 rfl fl_X7_232 (zok_3 (by decide) hi1) (rfl) ?_
          exact v_iret dX7_leave_86 rfl (Nat.le_of_ble_eq_true rfl) (Nat.le_of_ble_eq_true rfl) h
      · replace h := h.2 hq
        exact v_throwW lt_IllegalStateException_285 rfl dX7_leave_38 dX7_leave_41 dX7_leave_42 dX7_leave_45 dX7_leave_48 ⟨Nat.le_of_ble_eq_true rfl, Nat.le_of_ble_eq_true rfl, Nat.le_of_ble_eq_true rfl, Nat.le_of_ble_eq_true rfl⟩ (Nat.le_of_ble_eq_true rfl) (Nat.le_of_ble_eq_true rfl) h

set_option maxRecDepth 20000 in
set_option maxHeartbeats 4000000 in
theorem wX7_whyNotQueue (G : Gl) {P : Option Value → St → Prop} {X : String → St → Prop} (x1 : Int32) (x2 : Int32) (μ : St)
    (h : μ 2 0 0 5 ≤ nI 16 ∧ ((idx x1 (μ 2 0 0 5) = false → μ 2 0 0 3 ≤ nI 6 ∧ ((idx x2 (μ 2 0 0 3) = false → X "java/lang/IndexOutOfBoundsException" μ) ∧ (∀ i2 : Nat, i2 < 6 → x2 = nI i2 → idx x2 (μ 2 0 0 3) = true → X "java/lang/IndexOutOfBoundsException" μ))) ∧ (∀ i1 : Nat, i1 < 16 → x1 = nI i1 → idx x1 (μ 2 0 0 5) = true → μ 2 0 0 3 ≤ nI 6 ∧ ((idx x2 (μ 2 0 0 3) = false → X "java/lang/IndexOutOfBoundsException" μ) ∧ (∀ i3 : Nat, i3 < 6 → x2 = nI i3 → idx x2 (μ 2 0 0 3) = true → Con G mX0_queueRefusal [.ref (zad G.1 2 0 0), .ref (zad G.1 3 0 i1), .ref (zad G.1 6 0 i3), .int x2] μ (fun v μ1 => ∃ r1 : Int32, v = some (.int r1) ∧ P (some (.int r1)) μ1) noX))))) :
    Con G mX7_whyNotQueue [.ref (zad G.1 9 0 0), .int x1, .int x2] μ P X := by
  refine con_of pn_X7 rfl (Nat.le_of_ble_eq_true rfl) ?_
  show VL G mX7_whyNotQueue P X 0 [(0, .ref (zad G.1 9 0 0)), (1, .int x1), (2, .int x2)] [] μ
  refine v_aload_n (n := 1) dX7_whyNotQueue_0 rfl rfl ?_
  refine v_getf (n := 4) dX7_whyNotQueue_1 rfl fl_X7_12 zokc_9 rfl ?_
  refine v_iload_n (n := 5) dX7_whyNotQueue_4 rfl rfl ?_
  obtain ⟨hf1, h⟩ := h
  refine v_callV (n := 8) (k := 2) (b := 0) (i := 0) (As := [.int x1]) (rest := []) dX7_whyNotQueue_5 rfl lk_X7_226 rfl rfl (Nat.le_of_ble_eq_true rfl) ⟨Nat.le_of_ble_eq_true rfl, Nat.le_of_ble_eq_true rfl, Nat.le_of_ble_eq_true rfl, Nat.le_of_ble_eq_true rfl⟩ (zok_2 (by decide)) (s_X0_guestAt G 0 (by decide) x1 μ hf1) (fun v μ9 hp => ?_) (fun _ _ hp => False.elim hp)
  rcases hp with ⟨hq, hv, hm⟩ | ⟨i1, hi1, hq, hq2, hv, hm⟩
  · replace h := h.1 hq
    rw [hv, hm]
    refine v_norm (st' := [.null]) (cells' := 0) (slots' := 0) rfl rfl rfl ?_
    refine v_astore_nN (n := 9) (L' := [(0, .ref (zad G.1 9 0 0)), (1, .int x1), (2, .int x2), (3, .null)]) dX7_whyNotQueue_8 rfl (by decide) rfl ?_
    refine v_aload_n (n := 10) dX7_whyNotQueue_9 rfl rfl ?_
    refine v_getf (n := 13) dX7_whyNotQueue_10 rfl fl_X7_12 zokc_9 rfl ?_
    refine v_iload_n (n := 14) dX7_whyNotQueue_13 rfl rfl ?_
    obtain ⟨hf2, h⟩ := h
    refine v_callV (n := 17) (k := 2) (b := 0) (i := 0) (As := [.int x2]) (rest := []) dX7_whyNotQueue_14 rfl lk_X7_130 rfl rfl (Nat.le_of_ble_eq_true rfl) ⟨Nat.le_of_ble_eq_true rfl, Nat.le_of_ble_eq_true rfl, Nat.le_of_ble_eq_true rfl, Nat.le_of_ble_eq_true rfl⟩ (zok_2 (by decide)) (s_X0_liftAt G 0 (by decide) x2 μ hf2) (fun v μ9 hp => ?_) (fun _ _ hp => False.elim hp)
    rcases hp with ⟨hq, hv, hm⟩ | ⟨i2, hi2, hq, hq2, hv, hm⟩
    · replace h := h.1 hq
      rw [hv, hm]
      refine v_norm (st' := [.null]) (cells' := 0) (slots' := 0) rfl rfl rfl ?_
      refine v_astoreN (n := 19) (L' := [(0, .ref (zad G.1 9 0 0)), (1, .int x1), (2, .int x2), (3, .null), (4, .null)]) dX7_whyNotQueue_17 rfl (by decide) rfl ?_
      refine v_aload_nN (n := 20) dX7_whyNotQueue_19 rfl rfl ?_
      refine v_ifnullN (n := 28) dX7_whyNotQueue_20 (by decide) ?_
      exact v_throwW lt_IndexOutOfBoundsException_256 rfl dX7_whyNotQueue_28 dX7_whyNotQueue_31 dX7_whyNotQueue_32 dX7_whyNotQueue_35 dX7_whyNotQueue_38 ⟨Nat.le_of_ble_eq_true rfl, Nat.le_of_ble_eq_true rfl, Nat.le_of_ble_eq_true rfl, Nat.le_of_ble_eq_true rfl⟩ (Nat.le_of_ble_eq_true rfl) (Nat.le_of_ble_eq_true rfl) h
    · replace h := h.2 i2 hi2 hq hq2
      rw [hv, hm]
      refine v_norm (st' := [.ref (zad G.1 6 0 i2)]) (cells' := 0) (slots' := 0) rfl rfl rfl ?_
      refine v_astore (n := 19) (L' := [(0, .ref (zad G.1 9 0 0)), (1, .int x1), (2, .int x2), (3, .null), (4, .ref (zad G.1 6 0 i2))]) dX7_whyNotQueue_17 rfl (by decide) rfl ?_
      refine v_aload_nN (n := 20) dX7_whyNotQueue_19 rfl rfl ?_
      refine v_ifnullN (n := 28) dX7_whyNotQueue_20 (by decide) ?_
      exact v_throwW lt_IndexOutOfBoundsException_256 rfl dX7_whyNotQueue_28 dX7_whyNotQueue_31 dX7_whyNotQueue_32 dX7_whyNotQueue_35 dX7_whyNotQueue_38 ⟨Nat.le_of_ble_eq_true rfl, Nat.le_of_ble_eq_true rfl, Nat.le_of_ble_eq_true rfl, Nat.le_of_ble_eq_true rfl⟩ (Nat.le_of_ble_eq_true rfl) (Nat.le_of_ble_eq_true rfl) h
  · replace h := h.2 i1 hi1 hq hq2
    rw [hv, hm]
    refine v_norm (st' := [.ref (zad G.1 3 0 i1)]) (cells' := 0) (slots' := 0) rfl rfl rfl ?_
    refine v_astore_n (n := 9) (L' := [(0, .ref (zad G.1 9 0 0)), (1, .int x1), (2, .int x2), (3, .ref (zad G.1 3 0 i1))]) dX7_whyNotQueue_8 rfl (by decide) rfl ?_
    refine v_aload_n (n := 10) dX7_whyNotQueue_9 rfl rfl ?_
    refine v_getf (n := 13) dX7_whyNotQueue_10 rfl fl_X7_12 zokc_9 rfl ?_
    refine v_iload_n (n := 14) dX7_whyNotQueue_13 rfl rfl ?_
    obtain ⟨hf3, h⟩ := h
    refine v_callV (n := 17) (k := 2) (b := 0) (i := 0) (As := [.int x2]) (rest := []) dX7_whyNotQueue_14 rfl lk_X7_130 rfl rfl (Nat.le_of_ble_eq_true rfl) ⟨Nat.le_of_ble_eq_true rfl, Nat.le_of_ble_eq_true rfl, Nat.le_of_ble_eq_true rfl, Nat.le_of_ble_eq_true rfl⟩ (zok_2 (by decide)) (s_X0_liftAt G 0 (by decide) x2 μ hf3) (fun v μ9 hp => ?_) (fun _ _ hp => False.elim hp)
    rcases hp with ⟨hq, hv, hm⟩ | ⟨i3, hi3, hq, hq2, hv, hm⟩
    · replace h := h.1 hq
      rw [hv, hm]
      refine v_norm (st' := [.null]) (cells' := 0) (slots' := 0) rfl rfl rfl ?_
      refine v_astoreN (n := 19) (L' := [(0, .ref (zad G.1 9 0 0)), (1, .int x1), (2, .int x2), (3, .ref (zad G.1 3 0 i1)), (4, .null)]) dX7_whyNotQueue_17 rfl (by decide) rfl ?_
      refine v_aload_n (n := 20) dX7_whyNotQueue_19 rfl rfl ?_
      refine v_ifnull (n := 23) dX7_whyNotQueue_20 rfl ?_
      refine v_aloadN (n := 25) dX7_whyNotQueue_23 rfl rfl ?_
      refine v_ifnonnullN (n := 28) dX7_whyNotQueue_25 rfl ?_
      exact v_throwW lt_IndexOutOfBoundsException_256 rfl dX7_whyNotQueue_28 dX7_whyNotQueue_31 dX7_whyNotQueue_32 dX7_whyNotQueue_35 dX7_whyNotQueue_38 ⟨Nat.le_of_ble_eq_true rfl, Nat.le_of_ble_eq_true rfl, Nat.le_of_ble_eq_true rfl, Nat.le_of_ble_eq_true rfl⟩ (Nat.le_of_ble_eq_true rfl) (Nat.le_of_ble_eq_true rfl) h
    · replace h := h.2 i3 hi3 hq hq2
      rw [hv, hm]
      refine v_norm (st' := [.ref (zad G.1 6 0 i3)]) (cells' := 0) (slots' := 0) rfl rfl rfl ?_
      refine v_astore (n := 19) (L' := [(0, .ref (zad G.1 9 0 0)), (1, .int x1), (2, .int x2), (3, .ref (zad G.1 3 0 i1)), (4, .ref (zad G.1 6 0 i3))]) dX7_whyNotQueue_17 rfl (by decide) rfl ?_
      refine v_aload_n (n := 20) dX7_whyNotQueue_19 rfl rfl ?_
      refine v_ifnull (n := 23) dX7_whyNotQueue_20 rfl ?_
      refine v_aload (n := 25) dX7_whyNotQueue_23 rfl rfl ?_
      refine v_ifnonnull (n := 39) dX7_whyNotQueue_25 (by decide) ?_
      refine v_aload_n (n := 40) dX7_whyNotQueue_39 rfl rfl ?_
      refine v_getf (n := 43) dX7_whyNotQueue_40 rfl fl_X7_12 zokc_9 rfl ?_
      refine v_aload_n (n := 44) dX7_whyNotQueue_43 rfl rfl ?_
      refine v_aload (n := 46) dX7_whyNotQueue_44 rfl rfl ?_
      refine v_iload_n (n := 47) dX7_whyNotQueue_46 rfl rfl ?_
      refine v_callV (n := 50) (k := 2) (b := 0) (i := 0) (As := [.ref (zad G.1 3 0 i1), .ref (zad G.1 6 0 i3), .int x2]) (rest := []) dX7_whyNotQueue_47 rfl lk_X7_258 rfl rfl (Nat.le_of_ble_eq_true rfl) ⟨Nat.le_of_ble_eq_true rfl, Nat.le_of_ble_eq_true rfl, Nat.le_of_ble_eq_true rfl, Nat.le_of_ble_eq_true rfl⟩ (zok_2 (by decide)) h (fun v μ1 h => ?_) (fun _ _ hp => False.elim hp)
      obtain ⟨r1, rfl, h⟩ := h
      refine v_norm (st' := [.int r1]) (cells' := 0) (slots' := 0) rfl rfl rfl ?_
      exact v_iret dX7_whyNotQueue_50 rfl (Nat.le_of_ble_eq_true rfl) (Nat.le_of_ble_eq_true rfl) h

set_option maxRecDepth 20000 in
set_option maxHeartbeats 4000000 in
theorem wX7_whyNotSki (G : Gl) {P : Option Value → St → Prop} {X : String → St → Prop} (x1 : Int32) (x2 : Int32) (μ : St)
    (h : μ 2 0 0 5 ≤ nI 16 ∧ ((idx x1 (μ 2 0 0 5) = false → μ 2 0 0 4 ≤ nI 10 ∧ ((idx x2 (μ 2 0 0 4) = false → X "java/lang/IndexOutOfBoundsException" μ) ∧ (∀ i2 : Nat, i2 < 10 → x2 = nI i2 → idx x2 (μ 2 0 0 4) = true → X "java/lang/IndexOutOfBoundsException" μ))) ∧ (∀ i1 : Nat, i1 < 16 → x1 = nI i1 → idx x1 (μ 2 0 0 5) = true → μ 2 0 0 4 ≤ nI 10 ∧ ((idx x2 (μ 2 0 0 4) = false → X "java/lang/IndexOutOfBoundsException" μ) ∧ (∀ i3 : Nat, i3 < 10 → x2 = nI i3 → idx x2 (μ 2 0 0 4) = true → Con G mX0_skiRefusal [.ref (zad G.1 2 0 0), .ref (zad G.1 3 0 i1), .ref (zad G.1 7 0 i3)] μ (fun v μ1 => ∃ r1 : Int32, v = some (.int r1) ∧ P (some (.int r1)) μ1) noX))))) :
    Con G mX7_whyNotSki [.ref (zad G.1 9 0 0), .int x1, .int x2] μ P X := by
  refine con_of pn_X7 rfl (Nat.le_of_ble_eq_true rfl) ?_
  show VL G mX7_whyNotSki P X 0 [(0, .ref (zad G.1 9 0 0)), (1, .int x1), (2, .int x2)] [] μ
  refine v_aload_n (n := 1) dX7_whyNotSki_0 rfl rfl ?_
  refine v_getf (n := 4) dX7_whyNotSki_1 rfl fl_X7_12 zokc_9 rfl ?_
  refine v_iload_n (n := 5) dX7_whyNotSki_4 rfl rfl ?_
  obtain ⟨hf1, h⟩ := h
  refine v_callV (n := 8) (k := 2) (b := 0) (i := 0) (As := [.int x1]) (rest := []) dX7_whyNotSki_5 rfl lk_X7_226 rfl rfl (Nat.le_of_ble_eq_true rfl) ⟨Nat.le_of_ble_eq_true rfl, Nat.le_of_ble_eq_true rfl, Nat.le_of_ble_eq_true rfl, Nat.le_of_ble_eq_true rfl⟩ (zok_2 (by decide)) (s_X0_guestAt G 0 (by decide) x1 μ hf1) (fun v μ9 hp => ?_) (fun _ _ hp => False.elim hp)
  rcases hp with ⟨hq, hv, hm⟩ | ⟨i1, hi1, hq, hq2, hv, hm⟩
  · replace h := h.1 hq
    rw [hv, hm]
    refine v_norm (st' := [.null]) (cells' := 0) (slots' := 0) rfl rfl rfl ?_
    refine v_astore_nN (n := 9) (L' := [(0, .ref (zad G.1 9 0 0)), (1, .int x1), (2, .int x2), (3, .null)]) dX7_whyNotSki_8 rfl (by decide) rfl ?_
    refine v_aload_n (n := 10) dX7_whyNotSki_9 rfl rfl ?_
    refine v_getf (n := 13) dX7_whyNotSki_10 rfl fl_X7_12 zokc_9 rfl ?_
    refine v_iload_n (n := 14) dX7_whyNotSki_13 rfl rfl ?_
    obtain ⟨hf2, h⟩ := h
    refine v_callV (n := 17) (k := 2) (b := 0) (i := 0) (As := [.int x2]) (rest := []) dX7_whyNotSki_14 rfl lk_X7_170 rfl rfl (Nat.le_of_ble_eq_true rfl) ⟨Nat.le_of_ble_eq_true rfl, Nat.le_of_ble_eq_true rfl, Nat.le_of_ble_eq_true rfl, Nat.le_of_ble_eq_true rfl⟩ (zok_2 (by decide)) (s_X0_pisteAt G 0 (by decide) x2 μ hf2) (fun v μ9 hp => ?_) (fun _ _ hp => False.elim hp)
    rcases hp with ⟨hq, hv, hm⟩ | ⟨i2, hi2, hq, hq2, hv, hm⟩
    · replace h := h.1 hq
      rw [hv, hm]
      refine v_norm (st' := [.null]) (cells' := 0) (slots' := 0) rfl rfl rfl ?_
      refine v_astoreN (n := 19) (L' := [(0, .ref (zad G.1 9 0 0)), (1, .int x1), (2, .int x2), (3, .null), (4, .null)]) dX7_whyNotSki_17 rfl (by decide) rfl ?_
      refine v_aload_nN (n := 20) dX7_whyNotSki_19 rfl rfl ?_
      refine v_ifnullN (n := 28) dX7_whyNotSki_20 (by decide) ?_
      exact v_throwW lt_IndexOutOfBoundsException_275 rfl dX7_whyNotSki_28 dX7_whyNotSki_31 dX7_whyNotSki_32 dX7_whyNotSki_35 dX7_whyNotSki_38 ⟨Nat.le_of_ble_eq_true rfl, Nat.le_of_ble_eq_true rfl, Nat.le_of_ble_eq_true rfl, Nat.le_of_ble_eq_true rfl⟩ (Nat.le_of_ble_eq_true rfl) (Nat.le_of_ble_eq_true rfl) h
    · replace h := h.2 i2 hi2 hq hq2
      rw [hv, hm]
      refine v_norm (st' := [.ref (zad G.1 7 0 i2)]) (cells' := 0) (slots' := 0) rfl rfl rfl ?_
      refine v_astore (n := 19) (L' := [(0, .ref (zad G.1 9 0 0)), (1, .int x1), (2, .int x2), (3, .null), (4, .ref (zad G.1 7 0 i2))]) dX7_whyNotSki_17 rfl (by decide) rfl ?_
      refine v_aload_nN (n := 20) dX7_whyNotSki_19 rfl rfl ?_
      refine v_ifnullN (n := 28) dX7_whyNotSki_20 (by decide) ?_
      exact v_throwW lt_IndexOutOfBoundsException_275 rfl dX7_whyNotSki_28 dX7_whyNotSki_31 dX7_whyNotSki_32 dX7_whyNotSki_35 dX7_whyNotSki_38 ⟨Nat.le_of_ble_eq_true rfl, Nat.le_of_ble_eq_true rfl, Nat.le_of_ble_eq_true rfl, Nat.le_of_ble_eq_true rfl⟩ (Nat.le_of_ble_eq_true rfl) (Nat.le_of_ble_eq_true rfl) h
  · replace h := h.2 i1 hi1 hq hq2
    rw [hv, hm]
    refine v_norm (st' := [.ref (zad G.1 3 0 i1)]) (cells' := 0) (slots' := 0) rfl rfl rfl ?_
    refine v_astore_n (n := 9) (L' := [(0, .ref (zad G.1 9 0 0)), (1, .int x1), (2, .int x2), (3, .ref (zad G.1 3 0 i1))]) dX7_whyNotSki_8 rfl (by decide) rfl ?_
    refine v_aload_n (n := 10) dX7_whyNotSki_9 rfl rfl ?_
    refine v_getf (n := 13) dX7_whyNotSki_10 rfl fl_X7_12 zokc_9 rfl ?_
    refine v_iload_n (n := 14) dX7_whyNotSki_13 rfl rfl ?_
    obtain ⟨hf3, h⟩ := h
    refine v_callV (n := 17) (k := 2) (b := 0) (i := 0) (As := [.int x2]) (rest := []) dX7_whyNotSki_14 rfl lk_X7_170 rfl rfl (Nat.le_of_ble_eq_true rfl) ⟨Nat.le_of_ble_eq_true rfl, Nat.le_of_ble_eq_true rfl, Nat.le_of_ble_eq_true rfl, Nat.le_of_ble_eq_true rfl⟩ (zok_2 (by decide)) (s_X0_pisteAt G 0 (by decide) x2 μ hf3) (fun v μ9 hp => ?_) (fun _ _ hp => False.elim hp)
    rcases hp with ⟨hq, hv, hm⟩ | ⟨i3, hi3, hq, hq2, hv, hm⟩
    · replace h := h.1 hq
      rw [hv, hm]
      refine v_norm (st' := [.null]) (cells' := 0) (slots' := 0) rfl rfl rfl ?_
      refine v_astoreN (n := 19) (L' := [(0, .ref (zad G.1 9 0 0)), (1, .int x1), (2, .int x2), (3, .ref (zad G.1 3 0 i1)), (4, .null)]) dX7_whyNotSki_17 rfl (by decide) rfl ?_
      refine v_aload_n (n := 20) dX7_whyNotSki_19 rfl rfl ?_
      refine v_ifnull (n := 23) dX7_whyNotSki_20 rfl ?_
      refine v_aloadN (n := 25) dX7_whyNotSki_23 rfl rfl ?_
      refine v_ifnonnullN (n := 28) dX7_whyNotSki_25 rfl ?_
      exact v_throwW lt_IndexOutOfBoundsException_275 rfl dX7_whyNotSki_28 dX7_whyNotSki_31 dX7_whyNotSki_32 dX7_whyNotSki_35 dX7_whyNotSki_38 ⟨Nat.le_of_ble_eq_true rfl, Nat.le_of_ble_eq_true rfl, Nat.le_of_ble_eq_true rfl, Nat.le_of_ble_eq_true rfl⟩ (Nat.le_of_ble_eq_true rfl) (Nat.le_of_ble_eq_true rfl) h
    · replace h := h.2 i3 hi3 hq hq2
      rw [hv, hm]
      refine v_norm (st' := [.ref (zad G.1 7 0 i3)]) (cells' := 0) (slots' := 0) rfl rfl rfl ?_
      refine v_astore (n := 19) (L' := [(0, .ref (zad G.1 9 0 0)), (1, .int x1), (2, .int x2), (3, .ref (zad G.1 3 0 i1)), (4, .ref (zad G.1 7 0 i3))]) dX7_whyNotSki_17 rfl (by decide) rfl ?_
      refine v_aload_n (n := 20) dX7_whyNotSki_19 rfl rfl ?_
      refine v_ifnull (n := 23) dX7_whyNotSki_20 rfl ?_
      refine v_aload (n := 25) dX7_whyNotSki_23 rfl rfl ?_
      refine v_ifnonnull (n := 39) dX7_whyNotSki_25 (by decide) ?_
      refine v_aload_n (n := 40) dX7_whyNotSki_39 rfl rfl ?_
      refine v_getf (n := 43) dX7_whyNotSki_40 rfl fl_X7_12 zokc_9 rfl ?_
      refine v_aload_n (n := 44) dX7_whyNotSki_43 rfl rfl ?_
      refine v_aload (n := 46) dX7_whyNotSki_44 rfl rfl ?_
      refine v_callV (n := 49) (k := 2) (b := 0) (i := 0) (As := [.ref (zad G.1 3 0 i1), .ref (zad G.1 7 0 i3)]) (rest := []) dX7_whyNotSki_46 rfl lk_X7_277 rfl rfl (Nat.le_of_ble_eq_true rfl) ⟨Nat.le_of_ble_eq_true rfl, Nat.le_of_ble_eq_true rfl, Nat.le_of_ble_eq_true rfl, Nat.le_of_ble_eq_true rfl⟩ (zok_2 (by decide)) h (fun v μ1 h => ?_) (fun _ _ hp => False.elim hp)
      obtain ⟨r1, rfl, h⟩ := h
      refine v_norm (st' := [.int r1]) (cells' := 0) (slots' := 0) rfl rfl rfl ?_
      exact v_iret dX7_whyNotSki_49 rfl (Nat.le_of_ble_eq_true rfl) (Nat.le_of_ble_eq_true rfl) h

set_option maxRecDepth 20000 in
set_option maxHeartbeats 4000000 in
theorem wX7_reason (G : Gl) {P : Option Value → St → Prop} {X : String → St → Prop}  (μ : St)
    (h : ((¬ μ 9 0 0 7 = 0 → P (some (.int (μ 9 0 0 7))) μ) ∧ (μ 9 0 0 7 = 0 → X "java/util/NoSuchElementException" μ))) :
    Con G mX7_reason [.ref (zad G.1 9 0 0)] μ P X := by
  refine con_of pn_X7 rfl (Nat.le_of_ble_eq_true rfl) ?_
  show VL G mX7_reason P X 0 [(0, .ref (zad G.1 9 0 0))] [] μ
  refine v_aload_n (n := 1) dX7_reason_0 rfl rfl ?_
  refine v_getf (n := 4) dX7_reason_1 rfl fl_X7_47 zokc_9 (rfl) ?_
  refine v_if_ne (n := 7) (t := 18) dX7_reason_4 rfl (by decide) (fun hq => ?_) (fun hq => ?_)
  · replace h := h.1 hq
    refine v_aload_n (n := 19) dX7_reason_18 rfl rfl ?_
    refine v_getf (n := 22) dX7_reason_19 rfl fl_X7_47 zokc_9 (rfl) ?_
    exact v_iret dX7_reason_22 rfl (Nat.le_of_ble_eq_true rfl) (Nat.le_of_ble_eq_true rfl) h
  · replace h := h.2 hq
    exact v_throwNW lt_NoSuchElementException_296 rfl dX7_reason_7 dX7_reason_10 dX7_reason_11 dX7_reason_14 dX7_reason_17 ⟨Nat.le_of_ble_eq_true rfl, Nat.le_of_ble_eq_true rfl, Nat.le_of_ble_eq_true rfl, Nat.le_of_ble_eq_true rfl⟩ (Nat.le_of_ble_eq_true rfl) (Nat.le_of_ble_eq_true rfl) h

set_option maxRecDepth 20000 in
set_option maxHeartbeats 4000000 in
theorem wX7_opened (G : Gl) {P : Option Value → St → Prop} {X : String → St → Prop} (x1 : Int32) (μ : St)
    (h : μ 2 0 0 5 ≤ nI 16 ∧ ((idx x1 (μ 2 0 0 5) = false → X "java/lang/IndexOutOfBoundsException" μ) ∧ (∀ i1 : Nat, i1 < 16 → x1 = nI i1 → idx x1 (μ 2 0 0 5) = true → Con G mX0_liftsOpenedFor [.ref (zad G.1 2 0 0), .ref (zad G.1 3 0 i1)] μ (fun v μ1 => ∃ r1 : Int32, v = some (.int r1) ∧ P (some (.int r1)) μ1) noX))) :
    Con G mX7_opened [.ref (zad G.1 9 0 0), .int x1] μ P X := by
  refine con_of pn_X7 rfl (Nat.le_of_ble_eq_true rfl) ?_
  show VL G mX7_opened P X 0 [(0, .ref (zad G.1 9 0 0)), (1, .int x1)] [] μ
  refine v_aload_n (n := 1) dX7_opened_0 rfl rfl ?_
  refine v_getf (n := 4) dX7_opened_1 rfl fl_X7_12 zokc_9 rfl ?_
  refine v_iload_n (n := 5) dX7_opened_4 rfl rfl ?_
  obtain ⟨hf1, h⟩ := h
  refine v_callV (n := 8) (k := 2) (b := 0) (i := 0) (As := [.int x1]) (rest := []) dX7_opened_5 rfl lk_X7_226 rfl rfl (Nat.le_of_ble_eq_true rfl) ⟨Nat.le_of_ble_eq_true rfl, Nat.le_of_ble_eq_true rfl, Nat.le_of_ble_eq_true rfl, Nat.le_of_ble_eq_true rfl⟩ (zok_2 (by decide)) (s_X0_guestAt G 0 (by decide) x1 μ hf1) (fun v μ9 hp => ?_) (fun _ _ hp => False.elim hp)
  rcases hp with ⟨hq, hv, hm⟩ | ⟨i1, hi1, hq, hq2, hv, hm⟩
  · replace h := h.1 hq
    rw [hv, hm]
    refine v_norm (st' := [.null]) (cells' := 0) (slots' := 0) rfl rfl rfl ?_
    refine v_astore_nN (n := 9) (L' := [(0, .ref (zad G.1 9 0 0)), (1, .int x1), (2, .null)]) dX7_opened_8 rfl (by decide) rfl ?_
    refine v_aload_nN (n := 10) dX7_opened_9 rfl rfl ?_
    refine v_ifnonnullN (n := 13) dX7_opened_10 rfl ?_
    exact v_throw lt_IndexOutOfBoundsException_230 rfl dX7_opened_13 dX7_opened_16 dX7_opened_17 dX7_opened_19 dX7_opened_22 ⟨Nat.le_of_ble_eq_true rfl, Nat.le_of_ble_eq_true rfl, Nat.le_of_ble_eq_true rfl, Nat.le_of_ble_eq_true rfl⟩ (Nat.le_of_ble_eq_true rfl) (Nat.le_of_ble_eq_true rfl) h
  · replace h := h.2 i1 hi1 hq hq2
    rw [hv, hm]
    refine v_norm (st' := [.ref (zad G.1 3 0 i1)]) (cells' := 0) (slots' := 0) rfl rfl rfl ?_
    refine v_astore_n (n := 9) (L' := [(0, .ref (zad G.1 9 0 0)), (1, .int x1), (2, .ref (zad G.1 3 0 i1))]) dX7_opened_8 rfl (by decide) rfl ?_
    refine v_aload_n (n := 10) dX7_opened_9 rfl rfl ?_
    refine v_ifnonnull (n := 23) dX7_opened_10 (by decide) ?_
    refine v_aload_n (n := 24) dX7_opened_23 rfl rfl ?_
    refine v_getf (n := 27) dX7_opened_24 rfl fl_X7_12 zokc_9 rfl ?_
    refine v_aload_n (n := 28) dX7_opened_27 rfl rfl ?_
    refine v_callV (n := 31) (k := 2) (b := 0) (i := 0) (As := [.ref (zad G.1 3 0 i1)]) (rest := []) dX7_opened_28 rfl lk_X7_299 rfl rfl (Nat.le_of_ble_eq_true rfl) ⟨Nat.le_of_ble_eq_true rfl, Nat.le_of_ble_eq_true rfl, Nat.le_of_ble_eq_true rfl, Nat.le_of_ble_eq_true rfl⟩ (zok_2 (by decide)) h (fun v μ1 h => ?_) (fun _ _ hp => False.elim hp)
    obtain ⟨r1, rfl, h⟩ := h
    refine v_norm (st' := [.int r1]) (cells' := 0) (slots' := 0) rfl rfl rfl ?_
    exact v_iret dX7_opened_31 rfl (Nat.le_of_ble_eq_true rfl) (Nat.le_of_ble_eq_true rfl) h

set_option maxRecDepth 20000 in
set_option maxHeartbeats 4000000 in
theorem wX7_queued (G : Gl) {P : Option Value → St → Prop} {X : String → St → Prop} (x1 : Int32) (x2 : Int32) (μ : St)
    (h : μ 2 0 0 3 ≤ nI 6 ∧ ((idx x1 (μ 2 0 0 3) = false → X "java/lang/IndexOutOfBoundsException" μ) ∧ (∀ i1 : Nat, i1 < 6 → x1 = nI i1 → idx x1 (μ 2 0 0 3) = true → Con G mX0_guestInQueue [.ref (zad G.1 2 0 0), .int x1, .int x2] μ (fun v μ1 => ∃ r1 : Int32, v = some (.int r1) ∧ ((¬ r1 = (-1 : Int32) → P (some (.int r1)) μ1) ∧ (r1 = (-1 : Int32) → X "java/util/NoSuchElementException" μ1))) noX))) :
    Con G mX7_queued [.ref (zad G.1 9 0 0), .int x1, .int x2] μ P X := by
  refine con_of pn_X7 rfl (Nat.le_of_ble_eq_true rfl) ?_
  show VL G mX7_queued P X 0 [(0, .ref (zad G.1 9 0 0)), (1, .int x1), (2, .int x2)] [] μ
  refine v_aload_n (n := 1) dX7_queued_0 rfl rfl ?_
  refine v_getf (n := 4) dX7_queued_1 rfl fl_X7_12 zokc_9 rfl ?_
  refine v_iload_n (n := 5) dX7_queued_4 rfl rfl ?_
  obtain ⟨hf1, h⟩ := h
  refine v_callV (n := 8) (k := 2) (b := 0) (i := 0) (As := [.int x1]) (rest := []) dX7_queued_5 rfl lk_X7_130 rfl rfl (Nat.le_of_ble_eq_true rfl) ⟨Nat.le_of_ble_eq_true rfl, Nat.le_of_ble_eq_true rfl, Nat.le_of_ble_eq_true rfl, Nat.le_of_ble_eq_true rfl⟩ (zok_2 (by decide)) (s_X0_liftAt G 0 (by decide) x1 μ hf1) (fun v μ9 hp => ?_) (fun _ _ hp => False.elim hp)
  rcases hp with ⟨hq, hv, hm⟩ | ⟨i1, hi1, hq, hq2, hv, hm⟩
  · replace h := h.1 hq
    rw [hv, hm]
    refine v_norm (st' := [.null]) (cells' := 0) (slots' := 0) rfl rfl rfl ?_
    refine v_ifnonnullN (n := 11) dX7_queued_8 rfl ?_
    exact v_throw lt_IndexOutOfBoundsException_134 rfl dX7_queued_11 dX7_queued_14 dX7_queued_15 dX7_queued_17 dX7_queued_20 ⟨Nat.le_of_ble_eq_true rfl, Nat.le_of_ble_eq_true rfl, Nat.le_of_ble_eq_true rfl, Nat.le_of_ble_eq_true rfl⟩ (Nat.le_of_ble_eq_true rfl) (Nat.le_of_ble_eq_true rfl) h
  · replace h := h.2 i1 hi1 hq hq2
    rw [hv, hm]
    refine v_norm (st' := [.ref (zad G.1 6 0 i1)]) (cells' := 0) (slots' := 0) rfl rfl rfl ?_
    refine v_ifnonnull (n := 21) dX7_queued_8 (by decide) ?_
    refine v_aload_n (n := 22) dX7_queued_21 rfl rfl ?_
    refine v_getf (n := 25) dX7_queued_22 rfl fl_X7_12 zokc_9 rfl ?_
    refine v_iload_n (n := 26) dX7_queued_25 rfl rfl ?_
    refine v_iload_n (n := 27) dX7_queued_26 rfl rfl ?_
    refine v_callV (n := 30) (k := 2) (b := 0) (i := 0) (As := [.int x1, .int x2]) (rest := []) dX7_queued_27 rfl lk_X7_303 rfl rfl (Nat.le_of_ble_eq_true rfl) ⟨Nat.le_of_ble_eq_true rfl, Nat.le_of_ble_eq_true rfl, Nat.le_of_ble_eq_true rfl, Nat.le_of_ble_eq_true rfl⟩ (zok_2 (by decide)) h (fun v μ1 h => ?_) (fun _ _ hp => False.elim hp)
    obtain ⟨r1, rfl, h⟩ := h
    refine v_norm (st' := [.int r1]) (cells' := 0) (slots' := 0) rfl rfl rfl ?_
    refine v_istore_n (n := 31) (L' := [(0, .ref (zad G.1 9 0 0)), (1, .int x1), (2, .int x2), (3, .int r1)]) dX7_queued_30 rfl (by decide) rfl ?_
    refine v_iload_n (n := 32) dX7_queued_31 rfl rfl ?_
    refine v_iconst (n := 33) (x := (-1 : Int32)) dX7_queued_32 rfl (by decide) ?_
    refine v_icmp_ne (n := 36) (t := 47) dX7_queued_33 rfl (by decide) (fun hq => ?_) (fun hq => ?_)
    · replace h := h.1 hq
      refine v_iload_n (n := 48) dX7_queued_47 rfl rfl ?_
      exact v_iret dX7_queued_48 rfl (Nat.le_of_ble_eq_true rfl) (Nat.le_of_ble_eq_true rfl) h
    · replace h := h.2 hq
      exact v_throwNW lt_NoSuchElementException_306 rfl dX7_queued_36 dX7_queued_39 dX7_queued_40 dX7_queued_43 dX7_queued_46 ⟨Nat.le_of_ble_eq_true rfl, Nat.le_of_ble_eq_true rfl, Nat.le_of_ble_eq_true rfl, Nat.le_of_ble_eq_true rfl⟩ (Nat.le_of_ble_eq_true rfl) (Nat.le_of_ble_eq_true rfl) h

set_option maxRecDepth 20000 in
set_option maxHeartbeats 4000000 in
theorem wX7_advance (G : Gl) {P : Option Value → St → Prop} {X : String → St → Prop} (x1 : Int32) (μ : St)
    (h : ((btw x1 (nI 1) (nI 50) = true → (((μ 2 0 0 7) + x1 ≤ nI 1000 → Con G mX2_remember [.ref (zad G.1 4 0 0), .ref (zad G.1 2 0 0)] μ (fun v μ1 => v = none ∧ Con G mX0_passTicks [.ref (zad G.1 2 0 0), .int x1] μ1 (fun v μ2 => ∃ r1 : Int32, v = some (.int r1) ∧ P (some (.int r1)) μ2) noX) noX) ∧ (¬ (μ 2 0 0 7) + x1 ≤ nI 1000 → X "java/lang/IllegalStateException" μ))) ∧ (btw x1 (nI 1) (nI 50) = false → X "java/lang/IllegalArgumentException" μ))) :
    Con G mX7_advance [.ref (zad G.1 9 0 0), .int x1] μ P X := by
  refine con_of pn_X7 rfl (Nat.le_of_ble_eq_true rfl) ?_
  show VL G mX7_advance P X 0 [(0, .ref (zad G.1 9 0 0)), (1, .int x1)] [] μ
  refine v_iload_n (n := 1) dX7_advance_0 rfl rfl ?_
  refine v_iconst (n := 2) (x := nI 1) dX7_advance_1 rfl (by decide) ?_
  refine v_bipush (n := 4) (x := nI 50) dX7_advance_2 rfl (by decide) ?_
  refine v_callS (n := 7) (As := [.int x1, .int (nI 1), .int (nI 50)]) (rest := []) dX7_advance_4 rfl lk_X7_74 rfl rfl (Nat.le_of_ble_eq_true rfl) ⟨Nat.le_of_ble_eq_true rfl, Nat.le_of_ble_eq_true rfl, Nat.le_of_ble_eq_true rfl, Nat.le_of_ble_eq_true rfl⟩ (s_X7_isBetween G x1 (nI 1) (nI 50) μ) (fun v μ9 hp => ?_) (fun _ _ hp => False.elim hp)
  rw [hp.1, hp.2]
  refine v_norm (st' := [.int (bI (btw x1 (nI 1) (nI 50)))]) (cells' := 0) (slots' := 0) rfl rfl rfl ?_
  refine v_if_ne (n := 10) (t := 21) dX7_advance_7 rfl (by decide) (fun hq => ?_) (fun hq => ?_)
  · replace h := h.1 (bI_nf hq)
    refine v_aload_n (n := 22) dX7_advance_21 rfl rfl ?_
    refine v_getf (n := 25) dX7_advance_22 rfl fl_X7_12 zokc_9 rfl ?_
    refine v_getf (n := 28) dX7_advance_25 rfl fl_X7_203 (zok_2 (by decide)) (rfl) ?_
    refine v_iload_n (n := 29) dX7_advance_28 rfl rfl ?_
    refine v_iadd (n := 30) dX7_advance_29 rfl ?_
    refine v_sipush (n := 33) (x := nI 1000) dX7_advance_30 rfl (by decide) ?_
    refine v_icmp_le (n := 36) (t := 47) dX7_advance_33 rfl (by decide) (fun hq => ?_) (fun hq => ?_)
    · replace h := h.1 hq
      refine v_aload_n (n := 48) dX7_advance_47 rfl rfl ?_
      refine v_getf (n := 51) dX7_advance_48 rfl fl_X7_25 zokc_9 rfl ?_
      refine v_aload_n (n := 52) dX7_advance_51 rfl rfl ?_
      refine v_getf (n := 55) dX7_advance_52 rfl fl_X7_12 zokc_9 rfl ?_
      refine v_callV (n := 58) (k := 4) (b := 0) (i := 0) (As := [.ref (zad G.1 2 0 0)]) (rest := []) dX7_advance_55 rfl lk_X7_91 rfl rfl (Nat.le_of_ble_eq_true rfl) ⟨Nat.le_of_ble_eq_true rfl, Nat.le_of_ble_eq_true rfl, Nat.le_of_ble_eq_true rfl, Nat.le_of_ble_eq_true rfl⟩ zokc_4 h (fun v μ1 h => ?_) (fun _ _ hp => False.elim hp)
      obtain ⟨rfl, h⟩ := h
      refine v_norm (st' := []) (cells' := 0) (slots' := 0) rfl rfl rfl ?_
      refine v_aload_n (n := 59) dX7_advance_58 rfl rfl ?_
      refine v_getf (n := 62) dX7_advance_59 rfl fl_X7_12 zokc_9 rfl ?_
      refine v_iload_n (n := 63) dX7_advance_62 rfl rfl ?_
      refine v_callV (n := 66) (k := 2) (b := 0) (i := 0) (As := [.int x1]) (rest := []) dX7_advance_63 rfl lk_X7_312 rfl rfl (Nat.le_of_ble_eq_true rfl) ⟨Nat.le_of_ble_eq_true rfl, Nat.le_of_ble_eq_true rfl, Nat.le_of_ble_eq_true rfl, Nat.le_of_ble_eq_true rfl⟩ (zok_2 (by decide)) h (fun v μ2 h => ?_) (fun _ _ hp => False.elim hp)
      obtain ⟨r1, rfl, h⟩ := h
      refine v_norm (st' := [.int r1]) (cells' := 0) (slots' := 0) rfl rfl rfl ?_
      exact v_iret dX7_advance_66 rfl (Nat.le_of_ble_eq_true rfl) (Nat.le_of_ble_eq_true rfl) h
    · replace h := h.2 hq
      exact v_throwW lt_IllegalStateException_310 rfl dX7_advance_36 dX7_advance_39 dX7_advance_40 dX7_advance_43 dX7_advance_46 ⟨Nat.le_of_ble_eq_true rfl, Nat.le_of_ble_eq_true rfl, Nat.le_of_ble_eq_true rfl, Nat.le_of_ble_eq_true rfl⟩ (Nat.le_of_ble_eq_true rfl) (Nat.le_of_ble_eq_true rfl) h
  · replace h := h.2 (bI_f hq)
    exact v_throwW lt_IllegalArgumentException_308 rfl dX7_advance_10 dX7_advance_13 dX7_advance_14 dX7_advance_17 dX7_advance_20 ⟨Nat.le_of_ble_eq_true rfl, Nat.le_of_ble_eq_true rfl, Nat.le_of_ble_eq_true rfl, Nat.le_of_ble_eq_true rfl⟩ (Nat.le_of_ble_eq_true rfl) (Nat.le_of_ble_eq_true rfl) h

set_option maxRecDepth 20000 in
set_option maxHeartbeats 4000000 in
theorem wX7_endDay (G : Gl) {P : Option Value → St → Prop} {X : String → St → Prop}  (μ : St)
    (h : ((μ 2 0 0 8 < nI 1000 → Con G mX2_remember [.ref (zad G.1 4 0 0), .ref (zad G.1 2 0 0)] μ (fun v μ1 => v = none ∧ Con G mX0_closeDay [.ref (zad G.1 2 0 0)] μ1 (fun v μ2 => ∃ r1 : Int32, v = some (.int r1) ∧ P (some (.int r1)) μ2) noX) noX) ∧ (¬ μ 2 0 0 8 < nI 1000 → X "java/lang/IllegalStateException" μ))) :
    Con G mX7_endDay [.ref (zad G.1 9 0 0)] μ P X := by
  refine con_of pn_X7 rfl (Nat.le_of_ble_eq_true rfl) ?_
  show VL G mX7_endDay P X 0 [(0, .ref (zad G.1 9 0 0))] [] μ
  refine v_aload_n (n := 1) dX7_endDay_0 rfl rfl ?_
  refine v_getf (n := 4) dX7_endDay_1 rfl fl_X7_12 zokc_9 rfl ?_
  refine v_getf (n := 7) dX7_endDay_4 rfl fl_X7_206 (zok_2 (by decide)) (rfl) ?_
  refine v_sipush (n := 10) (x := nI 1000) dX7_endDay_7 rfl (by decide) ?_
  refine v_icmp_lt (n := 13) (t := 24) dX7_endDay_10 rfl (by decide) (fun hq => ?_) (fun hq => ?_)
  · replace h := h.1 hq
    refine v_aload_n (n := 25) dX7_endDay_24 rfl rfl ?_
    refine v_getf (n := 28) dX7_endDay_25 rfl fl_X7_25 zokc_9 rfl ?_
    refine v_aload_n (n := 29) dX7_endDay_28 rfl rfl ?_
    refine v_getf (n := 32) dX7_endDay_29 rfl fl_X7_12 zokc_9 rfl ?_
    refine v_callV (n := 35) (k := 4) (b := 0) (i := 0) (As := [.ref (zad G.1 2 0 0)]) (rest := []) dX7_endDay_32 rfl lk_X7_91 rfl rfl (Nat.le_of_ble_eq_true rfl) ⟨Nat.le_of_ble_eq_true rfl, Nat.le_of_ble_eq_true rfl, Nat.le_of_ble_eq_true rfl, Nat.le_of_ble_eq_true rfl⟩ zokc_4 h (fun v μ1 h => ?_) (fun _ _ hp => False.elim hp)
    obtain ⟨rfl, h⟩ := h
    refine v_norm (st' := []) (cells' := 0) (slots' := 0) rfl rfl rfl ?_
    refine v_aload_n (n := 36) dX7_endDay_35 rfl rfl ?_
    refine v_getf (n := 39) dX7_endDay_36 rfl fl_X7_12 zokc_9 rfl ?_
    refine v_callV (n := 42) (k := 2) (b := 0) (i := 0) (As := []) (rest := []) dX7_endDay_39 rfl lk_X7_317 rfl rfl (Nat.le_of_ble_eq_true rfl) ⟨Nat.le_of_ble_eq_true rfl, Nat.le_of_ble_eq_true rfl, Nat.le_of_ble_eq_true rfl, Nat.le_of_ble_eq_true rfl⟩ (zok_2 (by decide)) h (fun v μ2 h => ?_) (fun _ _ hp => False.elim hp)
    obtain ⟨r1, rfl, h⟩ := h
    refine v_norm (st' := [.int r1]) (cells' := 0) (slots' := 0) rfl rfl rfl ?_
    exact v_iret dX7_endDay_42 rfl (Nat.le_of_ble_eq_true rfl) (Nat.le_of_ble_eq_true rfl) h
  · replace h := h.2 hq
    exact v_throwW lt_IllegalStateException_315 rfl dX7_endDay_13 dX7_endDay_16 dX7_endDay_17 dX7_endDay_20 dX7_endDay_23 ⟨Nat.le_of_ble_eq_true rfl, Nat.le_of_ble_eq_true rfl, Nat.le_of_ble_eq_true rfl, Nat.le_of_ble_eq_true rfl⟩ (Nat.le_of_ble_eq_true rfl) (Nat.le_of_ble_eq_true rfl) h

set_option maxRecDepth 20000 in
set_option maxHeartbeats 4000000 in
theorem wX7_arrival (G : Gl) {P : Option Value → St → Prop} {X : String → St → Prop} (x1 : Int32) (μ : St)
    (h : μ 2 0 0 5 ≤ nI 16 ∧ ((idx x1 (μ 2 0 0 5) = false → X "java/lang/IndexOutOfBoundsException" μ) ∧ (∀ i1 : Nat, i1 < 16 → x1 = nI i1 → idx x1 (μ 2 0 0 5) = true → Con G mX0_ticksToStation [.ref (zad G.1 2 0 0), .ref (zad G.1 3 0 i1)] μ (fun v μ1 => ∃ r1 : Int32, v = some (.int r1) ∧ ((r1 = (-1 : Int32) → X "java/util/NoSuchElementException" μ1) ∧ (¬ r1 = (-1 : Int32) → ((r1 ≤ nI 60 → P (some (.int r1)) μ1) ∧ (¬ r1 ≤ nI 60 → X "java/util/NoSuchElementException" μ1))))) noX))) :
    Con G mX7_arrival [.ref (zad G.1 9 0 0), .int x1] μ P X := by
  refine con_of pn_X7 rfl (Nat.le_of_ble_eq_true rfl) ?_
  show VL G mX7_arrival P X 0 [(0, .ref (zad G.1 9 0 0)), (1, .int x1)] [] μ
  refine v_aload_n (n := 1) dX7_arrival_0 rfl rfl ?_
  refine v_getf (n := 4) dX7_arrival_1 rfl fl_X7_12 zokc_9 rfl ?_
  refine v_iload_n (n := 5) dX7_arrival_4 rfl rfl ?_
  obtain ⟨hf1, h⟩ := h
  refine v_callV (n := 8) (k := 2) (b := 0) (i := 0) (As := [.int x1]) (rest := []) dX7_arrival_5 rfl lk_X7_226 rfl rfl (Nat.le_of_ble_eq_true rfl) ⟨Nat.le_of_ble_eq_true rfl, Nat.le_of_ble_eq_true rfl, Nat.le_of_ble_eq_true rfl, Nat.le_of_ble_eq_true rfl⟩ (zok_2 (by decide)) (s_X0_guestAt G 0 (by decide) x1 μ hf1) (fun v μ9 hp => ?_) (fun _ _ hp => False.elim hp)
  rcases hp with ⟨hq, hv, hm⟩ | ⟨i1, hi1, hq, hq2, hv, hm⟩
  · replace h := h.1 hq
    rw [hv, hm]
    refine v_norm (st' := [.null]) (cells' := 0) (slots' := 0) rfl rfl rfl ?_
    refine v_astore_nN (n := 9) (L' := [(0, .ref (zad G.1 9 0 0)), (1, .int x1), (2, .null)]) dX7_arrival_8 rfl (by decide) rfl ?_
    refine v_aload_nN (n := 10) dX7_arrival_9 rfl rfl ?_
    refine v_ifnonnullN (n := 13) dX7_arrival_10 rfl ?_
    exact v_throw lt_IndexOutOfBoundsException_230 rfl dX7_arrival_13 dX7_arrival_16 dX7_arrival_17 dX7_arrival_19 dX7_arrival_22 ⟨Nat.le_of_ble_eq_true rfl, Nat.le_of_ble_eq_true rfl, Nat.le_of_ble_eq_true rfl, Nat.le_of_ble_eq_true rfl⟩ (Nat.le_of_ble_eq_true rfl) (Nat.le_of_ble_eq_true rfl) h
  · replace h := h.2 i1 hi1 hq hq2
    rw [hv, hm]
    refine v_norm (st' := [.ref (zad G.1 3 0 i1)]) (cells' := 0) (slots' := 0) rfl rfl rfl ?_
    refine v_astore_n (n := 9) (L' := [(0, .ref (zad G.1 9 0 0)), (1, .int x1), (2, .ref (zad G.1 3 0 i1))]) dX7_arrival_8 rfl (by decide) rfl ?_
    refine v_aload_n (n := 10) dX7_arrival_9 rfl rfl ?_
    refine v_ifnonnull (n := 23) dX7_arrival_10 (by decide) ?_
    refine v_aload_n (n := 24) dX7_arrival_23 rfl rfl ?_
    refine v_getf (n := 27) dX7_arrival_24 rfl fl_X7_12 zokc_9 rfl ?_
    refine v_aload_n (n := 28) dX7_arrival_27 rfl rfl ?_
    refine v_callV (n := 31) (k := 2) (b := 0) (i := 0) (As := [.ref (zad G.1 3 0 i1)]) (rest := []) dX7_arrival_28 rfl lk_X7_320 rfl rfl (Nat.le_of_ble_eq_true rfl) ⟨Nat.le_of_ble_eq_true rfl, Nat.le_of_ble_eq_true rfl, Nat.le_of_ble_eq_true rfl, Nat.le_of_ble_eq_true rfl⟩ (zok_2 (by decide)) h (fun v μ1 h => ?_) (fun _ _ hp => False.elim hp)
    obtain ⟨r1, rfl, h⟩ := h
    refine v_norm (st' := [.int r1]) (cells' := 0) (slots' := 0) rfl rfl rfl ?_
    refine v_istore_n (n := 32) (L' := [(0, .ref (zad G.1 9 0 0)), (1, .int x1), (2, .ref (zad G.1 3 0 i1)), (3, .int r1)]) dX7_arrival_31 rfl (by decide) rfl ?_
    refine v_iload_n (n := 33) dX7_arrival_32 rfl rfl ?_
    refine v_iconst (n := 34) (x := (-1 : Int32)) dX7_arrival_33 rfl (by decide) ?_
    refine v_icmp_eq (n := 37) (t := 43) dX7_arrival_34 rfl (by decide) (fun hq => ?_) (fun hq => ?_)
    · replace h := h.1 hq
      exact v_throwNW lt_NoSuchElementException_323 rfl dX7_arrival_43 dX7_arrival_46 dX7_arrival_47 dX7_arrival_50 dX7_arrival_53 ⟨Nat.le_of_ble_eq_true rfl, Nat.le_of_ble_eq_true rfl, Nat.le_of_ble_eq_true rfl, Nat.le_of_ble_eq_true rfl⟩ (Nat.le_of_ble_eq_true rfl) (Nat.le_of_ble_eq_true rfl) h
    · replace h := h.2 hq
      refine v_iload_n (n := 38) dX7_arrival_37 rfl rfl ?_
      refine v_bipush (n := 40) (x := nI 60) dX7_arrival_38 rfl (by decide) ?_
      refine v_icmp_le (n := 43) (t := 54) dX7_arrival_40 rfl (by decide) (fun hq => ?_) (fun hq => ?_)
      · replace h := h.1 hq
        refine v_iload_n (n := 55) dX7_arrival_54 rfl rfl ?_
        exact v_iret dX7_arrival_55 rfl (Nat.le_of_ble_eq_true rfl) (Nat.le_of_ble_eq_true rfl) h
      · replace h := h.2 hq
        exact v_throwNW lt_NoSuchElementException_323 rfl dX7_arrival_43 dX7_arrival_46 dX7_arrival_47 dX7_arrival_50 dX7_arrival_53 ⟨Nat.le_of_ble_eq_true rfl, Nat.le_of_ble_eq_true rfl, Nat.le_of_ble_eq_true rfl, Nat.le_of_ble_eq_true rfl⟩ (Nat.le_of_ble_eq_true rfl) (Nat.le_of_ble_eq_true rfl) h

set_option maxRecDepth 20000 in
set_option maxHeartbeats 4000000 in
theorem wX7_nextCabin (G : Gl) {P : Option Value → St → Prop} {X : String → St → Prop} (x1 : Int32) (μ : St)
    (h : μ 2 0 0 3 ≤ nI 6 ∧ ((idx x1 (μ 2 0 0 3) = false → X "java/lang/IndexOutOfBoundsException" μ) ∧ (∀ i1 : Nat, i1 < 6 → x1 = nI i1 → idx x1 (μ 2 0 0 3) = true → ((¬ spo μ 0 i1 = 0 → P (some (.int (tkf (stc μ 0 i1 (nI 1)) (spo μ 0 i1)))) μ) ∧ (spo μ 0 i1 = 0 → X "java/util/NoSuchElementException" μ))))) :
    Con G mX7_nextCabin [.ref (zad G.1 9 0 0), .int x1] μ P X := by
  refine con_of pn_X7 rfl (Nat.le_of_ble_eq_true rfl) ?_
  show VL G mX7_nextCabin P X 0 [(0, .ref (zad G.1 9 0 0)), (1, .int x1)] [] μ
  refine v_aload_n (n := 1) dX7_nextCabin_0 rfl rfl ?_
  refine v_getf (n := 4) dX7_nextCabin_1 rfl fl_X7_12 zokc_9 rfl ?_
  refine v_iload_n (n := 5) dX7_nextCabin_4 rfl rfl ?_
  obtain ⟨hf1, h⟩ := h
  refine v_callV (n := 8) (k := 2) (b := 0) (i := 0) (As := [.int x1]) (rest := []) dX7_nextCabin_5 rfl lk_X7_130 rfl rfl (Nat.le_of_ble_eq_true rfl) ⟨Nat.le_of_ble_eq_true rfl, Nat.le_of_ble_eq_true rfl, Nat.le_of_ble_eq_true rfl, Nat.le_of_ble_eq_true rfl⟩ (zok_2 (by decide)) (s_X0_liftAt G 0 (by decide) x1 μ hf1) (fun v μ9 hp => ?_) (fun _ _ hp => False.elim hp)
  rcases hp with ⟨hq, hv, hm⟩ | ⟨i1, hi1, hq, hq2, hv, hm⟩
  · replace h := h.1 hq
    rw [hv, hm]
    refine v_norm (st' := [.null]) (cells' := 0) (slots' := 0) rfl rfl rfl ?_
    refine v_astore_nN (n := 9) (L' := [(0, .ref (zad G.1 9 0 0)), (1, .int x1), (2, .null)]) dX7_nextCabin_8 rfl (by decide) rfl ?_
    refine v_aload_nN (n := 10) dX7_nextCabin_9 rfl rfl ?_
    refine v_ifnonnullN (n := 13) dX7_nextCabin_10 rfl ?_
    exact v_throw lt_IndexOutOfBoundsException_134 rfl dX7_nextCabin_13 dX7_nextCabin_16 dX7_nextCabin_17 dX7_nextCabin_19 dX7_nextCabin_22 ⟨Nat.le_of_ble_eq_true rfl, Nat.le_of_ble_eq_true rfl, Nat.le_of_ble_eq_true rfl, Nat.le_of_ble_eq_true rfl⟩ (Nat.le_of_ble_eq_true rfl) (Nat.le_of_ble_eq_true rfl) h
  · replace h := h.2 i1 hi1 hq hq2
    rw [hv, hm]
    refine v_norm (st' := [.ref (zad G.1 6 0 i1)]) (cells' := 0) (slots' := 0) rfl rfl rfl ?_
    refine v_astore_n (n := 9) (L' := [(0, .ref (zad G.1 9 0 0)), (1, .int x1), (2, .ref (zad G.1 6 0 i1))]) dX7_nextCabin_8 rfl (by decide) rfl ?_
    refine v_aload_n (n := 10) dX7_nextCabin_9 rfl rfl ?_
    refine v_ifnonnull (n := 23) dX7_nextCabin_10 (by decide) ?_
    refine v_aload_n (n := 24) dX7_nextCabin_23 rfl rfl ?_
    refine v_getf (n := 27) dX7_nextCabin_24 rfl fl_X7_12 zokc_9 rfl ?_
    refine v_aload_n (n := 28) dX7_nextCabin_27 rfl rfl ?_
    refine v_callV (n := 31) (k := 2) (b := 0) (i := 0) (As := [.ref (zad G.1 6 0 i1)]) (rest := []) dX7_nextCabin_28 rfl lk_X7_157 rfl rfl (Nat.le_of_ble_eq_true rfl) ⟨Nat.le_of_ble_eq_true rfl, Nat.le_of_ble_eq_true rfl, Nat.le_of_ble_eq_true rfl, Nat.le_of_ble_eq_true rfl⟩ (zok_2 (by decide)) (s_X0_speedOf G 0 (by decide) i1 hi1 μ) (fun v μ9 hp => ?_) (fun _ _ hp => False.elim hp)
    rw [hp.1, hp.2]
    refine v_norm (st' := [.int (spo μ 0 i1)]) (cells' := 0) (slots' := 0) rfl rfl rfl ?_
    refine v_istore_n (n := 32) (L' := [(0, .ref (zad G.1 9 0 0)), (1, .int x1), (2, .ref (zad G.1 6 0 i1)), (3, .int (spo μ 0 i1))]) dX7_nextCabin_31 rfl (by decide) rfl ?_
    refine v_iload_n (n := 33) dX7_nextCabin_32 rfl rfl ?_
    refine v_if_ne (n := 36) (t := 47) dX7_nextCabin_33 rfl (by decide) (fun hq => ?_) (fun hq => ?_)
    · replace h := h.1 hq
      refine v_aload_n (n := 48) dX7_nextCabin_47 rfl rfl ?_
      refine v_iconst (n := 49) (x := nI 1) dX7_nextCabin_48 rfl (by decide) ?_
      refine v_callV (n := 52) (k := 6) (b := 0) (i := i1) (As := [.int (nI 1)]) (rest := []) dX7_nextCabin_49 rfl lk_X7_327 rfl rfl (Nat.le_of_ble_eq_true rfl) ⟨Nat.le_of_ble_eq_true rfl, Nat.le_of_ble_eq_true rfl, Nat.le_of_ble_eq_true rfl, Nat.le_of_ble_eq_true rfl⟩ (zok_6 (by decide) hi1) (s_X4_stepsToCabin G 0 (by decide) i1 hi1 (nI 1) μ) (fun v μ9 hp => ?_) (fun _ _ hp => False.elim hp)
      rw [hp.1, hp.2]
      refine v_norm (st' := [.int (stc μ 0 i1 (nI 1))]) (cells' := 0) (slots' := 0) rfl rfl rfl ?_
      refine v_iload_n (n := 53) dX7_nextCabin_52 rfl rfl ?_
      refine v_callS (n := 56) (As := [.int (stc μ 0 i1 (nI 1)), .int (spo μ 0 i1)]) (rest := []) dX7_nextCabin_53 rfl lk_X7_330 rfl rfl (Nat.le_of_ble_eq_true rfl) ⟨Nat.le_of_ble_eq_true rfl, Nat.le_of_ble_eq_true rfl, Nat.le_of_ble_eq_true rfl, Nat.le_of_ble_eq_true rfl⟩ (s_X7_ticksFor G (stc μ 0 i1 (nI 1)) (spo μ 0 i1) μ) (fun v μ9 hp => ?_) (fun _ _ hp => False.elim hp)
      rw [hp.1, hp.2]
      refine v_norm (st' := [.int (tkf (stc μ 0 i1 (nI 1)) (spo μ 0 i1))]) (cells' := 0) (slots' := 0) rfl rfl rfl ?_
      exact v_iret dX7_nextCabin_56 rfl (Nat.le_of_ble_eq_true rfl) (Nat.le_of_ble_eq_true rfl) h
    · replace h := h.2 hq
      exact v_throwNW lt_NoSuchElementException_325 rfl dX7_nextCabin_36 dX7_nextCabin_39 dX7_nextCabin_40 dX7_nextCabin_43 dX7_nextCabin_46 ⟨Nat.le_of_ble_eq_true rfl, Nat.le_of_ble_eq_true rfl, Nat.le_of_ble_eq_true rfl, Nat.le_of_ble_eq_true rfl⟩ (Nat.le_of_ble_eq_true rfl) (Nat.le_of_ble_eq_true rfl) h

set_option maxRecDepth 20000 in
set_option maxHeartbeats 4000000 in
theorem wX7_duration (G : Gl) {P : Option Value → St → Prop} {X : String → St → Prop} (x1 : Int32) (x2 : Int32) (x3 : Int32) (μ : St)
    (h : μ 2 0 0 5 ≤ nI 16 ∧ ((idx x1 (μ 2 0 0 5) = false → X "java/lang/IndexOutOfBoundsException" μ) ∧ (∀ i1 : Nat, i1 < 16 → x1 = nI i1 → idx x1 (μ 2 0 0 5) = true → ((isSt x2 = false → X "java/lang/IndexOutOfBoundsException" μ) ∧ (isSt x2 = true → ((isSt x3 = true → Con G mX6_measure [.ref (zad G.1 8 0 0), .ref (zad G.1 2 0 0), .ref (zad G.1 3 0 i1), .int x3] μ (fun v μ1 => v = none ∧ Con G mX6_durationFrom [.ref (zad G.1 8 0 0), .int x2] μ1 (fun v μ2 => ∃ r1 : Int32, v = some (.int r1) ∧ ((r1 < nI 1000000 → P (some (.int r1)) μ2) ∧ (¬ r1 < nI 1000000 → X "java/util/NoSuchElementException" μ2))) noX) noX) ∧ (isSt x3 = false → X "java/lang/IndexOutOfBoundsException" μ))))))) :
    Con G mX7_duration [.ref (zad G.1 9 0 0), .int x1, .int x2, .int x3] μ P X := by
  refine con_of pn_X7 rfl (Nat.le_of_ble_eq_true rfl) ?_
  show VL G mX7_duration P X 0 [(0, .ref (zad G.1 9 0 0)), (1, .int x1), (2, .int x2), (3, .int x3)] [] μ
  refine v_aload_n (n := 1) dX7_duration_0 rfl rfl ?_
  refine v_getf (n := 4) dX7_duration_1 rfl fl_X7_12 zokc_9 rfl ?_
  refine v_iload_n (n := 5) dX7_duration_4 rfl rfl ?_
  obtain ⟨hf1, h⟩ := h
  refine v_callV (n := 8) (k := 2) (b := 0) (i := 0) (As := [.int x1]) (rest := []) dX7_duration_5 rfl lk_X7_226 rfl rfl (Nat.le_of_ble_eq_true rfl) ⟨Nat.le_of_ble_eq_true rfl, Nat.le_of_ble_eq_true rfl, Nat.le_of_ble_eq_true rfl, Nat.le_of_ble_eq_true rfl⟩ (zok_2 (by decide)) (s_X0_guestAt G 0 (by decide) x1 μ hf1) (fun v μ9 hp => ?_) (fun _ _ hp => False.elim hp)
  rcases hp with ⟨hq, hv, hm⟩ | ⟨i1, hi1, hq, hq2, hv, hm⟩
  · replace h := h.1 hq
    rw [hv, hm]
    refine v_norm (st' := [.null]) (cells' := 0) (slots' := 0) rfl rfl rfl ?_
    refine v_astoreN (n := 10) (L' := [(0, .ref (zad G.1 9 0 0)), (1, .int x1), (2, .int x2), (3, .int x3), (4, .null)]) dX7_duration_8 rfl (by decide) rfl ?_
    refine v_aloadN (n := 12) dX7_duration_10 rfl rfl ?_
    refine v_ifnullN (n := 29) dX7_duration_12 (by decide) ?_
    exact v_throwW lt_IndexOutOfBoundsException_333 rfl dX7_duration_29 dX7_duration_32 dX7_duration_33 dX7_duration_36 dX7_duration_39 ⟨Nat.le_of_ble_eq_true rfl, Nat.le_of_ble_eq_true rfl, Nat.le_of_ble_eq_true rfl, Nat.le_of_ble_eq_true rfl⟩ (Nat.le_of_ble_eq_true rfl) (Nat.le_of_ble_eq_true rfl) h
  · replace h := h.2 i1 hi1 hq hq2
    rw [hv, hm]
    refine v_norm (st' := [.ref (zad G.1 3 0 i1)]) (cells' := 0) (slots' := 0) rfl rfl rfl ?_
    refine v_astore (n := 10) (L' := [(0, .ref (zad G.1 9 0 0)), (1, .int x1), (2, .int x2), (3, .int x3), (4, .ref (zad G.1 3 0 i1))]) dX7_duration_8 rfl (by decide) rfl ?_
    refine v_aload (n := 12) dX7_duration_10 rfl rfl ?_
    refine v_ifnull (n := 15) dX7_duration_12 rfl ?_
    refine v_iload_n (n := 16) dX7_duration_15 rfl rfl ?_
    refine v_callS (n := 19) (As := [.int x2]) (rest := []) dX7_duration_16 rfl lk_X7_63 rfl rfl (Nat.le_of_ble_eq_true rfl) ⟨Nat.le_of_ble_eq_true rfl, Nat.le_of_ble_eq_true rfl, Nat.le_of_ble_eq_true rfl, Nat.le_of_ble_eq_true rfl⟩ (s_X7_isStation G x2 μ) (fun v μ9 hp => ?_) (fun _ _ hp => False.elim hp)
    rw [hp.1, hp.2]
    refine v_norm (st' := [.int (bI (isSt x2))]) (cells' := 0) (slots' := 0) rfl rfl rfl ?_
    refine v_if_eq (n := 22) (t := 29) dX7_duration_19 rfl (by decide) (fun hq => ?_) (fun hq => ?_)
    · replace h := h.1 (bI_f hq)
      exact v_throwW lt_IndexOutOfBoundsException_333 rfl dX7_duration_29 dX7_duration_32 dX7_duration_33 dX7_duration_36 dX7_duration_39 ⟨Nat.le_of_ble_eq_true rfl, Nat.le_of_ble_eq_true rfl, Nat.le_of_ble_eq_true rfl, Nat.le_of_ble_eq_true rfl⟩ (Nat.le_of_ble_eq_true rfl) (Nat.le_of_ble_eq_true rfl) h
    · replace h := h.2 (bI_nf hq)
      refine v_iload_n (n := 23) dX7_duration_22 rfl rfl ?_
      refine v_callS (n := 26) (As := [.int x3]) (rest := []) dX7_duration_23 rfl lk_X7_63 rfl rfl (Nat.le_of_ble_eq_true rfl) ⟨Nat.le_of_ble_eq_true rfl, Nat.le_of_ble_eq_true rfl, Nat.le_of_ble_eq_true rfl, Nat.le_of_ble_eq_true rfl⟩ (s_X7_isStation G x3 μ) (fun v μ9 hp => ?_) (fun _ _ hp => False.elim hp)
      rw [hp.1, hp.2]
      refine v_norm (st' := [.int (bI (isSt x3))]) (cells' := 0) (slots' := 0) rfl rfl rfl ?_
      refine v_if_ne (n := 29) (t := 40) dX7_duration_26 rfl (by decide) (fun hq => ?_) (fun hq => ?_)
      · replace h := h.1 (bI_nf hq)
        refine v_aload_n (n := 41) dX7_duration_40 rfl rfl ?_
        refine v_getf (n := 44) dX7_duration_41 rfl fl_X7_39 zokc_9 rfl ?_
        refine v_aload_n (n := 45) dX7_duration_44 rfl rfl ?_
        refine v_getf (n := 48) dX7_duration_45 rfl fl_X7_12 zokc_9 rfl ?_
        refine v_aload (n := 50) dX7_duration_48 rfl rfl ?_
        refine v_iload_n (n := 51) dX7_duration_50 rfl rfl ?_
        refine v_callV (n := 54) (k := 8) (b := 0) (i := 0) (As := [.ref (zad G.1 2 0 0), .ref (zad G.1 3 0 i1), .int x3]) (rest := []) dX7_duration_51 rfl lk_X7_335 rfl rfl (Nat.le_of_ble_eq_true rfl) ⟨Nat.le_of_ble_eq_true rfl, Nat.le_of_ble_eq_true rfl, Nat.le_of_ble_eq_true rfl, Nat.le_of_ble_eq_true rfl⟩ zokc_8 h (fun v μ1 h => ?_) (fun _ _ hp => False.elim hp)
        obtain ⟨rfl, h⟩ := h
        refine v_norm (st' := []) (cells' := 0) (slots' := 0) rfl rfl rfl ?_
        refine v_aload_n (n := 55) dX7_duration_54 rfl rfl ?_
        refine v_getf (n := 58) dX7_duration_55 rfl fl_X7_39 zokc_9 rfl ?_
        refine v_iload_n (n := 59) dX7_duration_58 rfl rfl ?_
        refine v_callV (n := 62) (k := 8) (b := 0) (i := 0) (As := [.int x2]) (rest := []) dX7_duration_59 rfl lk_X7_339 rfl rfl (Nat.le_of_ble_eq_true rfl) ⟨Nat.le_of_ble_eq_true rfl, Nat.le_of_ble_eq_true rfl, Nat.le_of_ble_eq_true rfl, Nat.le_of_ble_eq_true rfl⟩ zokc_8 h (fun v μ2 h => ?_) (fun _ _ hp => False.elim hp)
        obtain ⟨r1, rfl, h⟩ := h
        refine v_norm (st' := [.int r1]) (cells' := 0) (slots' := 0) rfl rfl rfl ?_
        refine v_istore (n := 64) (L' := [(0, .ref (zad G.1 9 0 0)), (1, .int x1), (2, .int x2), (3, .int x3), (4, .ref (zad G.1 3 0 i1)), (5, .int r1)]) dX7_duration_62 rfl (by decide) rfl ?_
        refine v_iload (n := 66) dX7_duration_64 rfl rfl ?_
        refine v_ldc_w (n := 69) (x := 1000000) dX7_duration_66 rfl lc_X7_342 ?_
        refine v_top (y := nI 1000000) (by decide) ?_
        refine v_icmp_lt (n := 72) (t := 83) dX7_duration_69 rfl (by decide) (fun hq => ?_) (fun hq => ?_)
        · replace h := h.1 hq
          refine v_iload (n := 85) dX7_duration_83 rfl rfl ?_
          exact v_iret dX7_duration_85 rfl (Nat.le_of_ble_eq_true rfl) (Nat.le_of_ble_eq_true rfl) h
        · replace h := h.2 hq
          exact v_throwNW lt_NoSuchElementException_343 rfl dX7_duration_72 dX7_duration_75 dX7_duration_76 dX7_duration_79 dX7_duration_82 ⟨Nat.le_of_ble_eq_true rfl, Nat.le_of_ble_eq_true rfl, Nat.le_of_ble_eq_true rfl, Nat.le_of_ble_eq_true rfl⟩ (Nat.le_of_ble_eq_true rfl) (Nat.le_of_ble_eq_true rfl) h
      · replace h := h.2 (bI_f hq)
        exact v_throwW lt_IndexOutOfBoundsException_333 rfl dX7_duration_29 dX7_duration_32 dX7_duration_33 dX7_duration_36 dX7_duration_39 ⟨Nat.le_of_ble_eq_true rfl, Nat.le_of_ble_eq_true rfl, Nat.le_of_ble_eq_true rfl, Nat.le_of_ble_eq_true rfl⟩ (Nat.le_of_ble_eq_true rfl) (Nat.le_of_ble_eq_true rfl) h

set_option maxRecDepth 20000 in
set_option maxHeartbeats 4000000 in
theorem wX7_firstPart (G : Gl) {P : Option Value → St → Prop} {X : String → St → Prop} (x1 : Int32) (x2 : Int32) (x3 : Int32) (μ : St)
    (h : μ 2 0 0 5 ≤ nI 16 ∧ ((idx x1 (μ 2 0 0 5) = false → X "java/lang/IndexOutOfBoundsException" μ) ∧ (∀ i1 : Nat, i1 < 16 → x1 = nI i1 → idx x1 (μ 2 0 0 5) = true → ((isSt x2 = false → X "java/lang/IndexOutOfBoundsException" μ) ∧ (isSt x2 = true → ((isSt x3 = true → Con G mX6_measure [.ref (zad G.1 8 0 0), .ref (zad G.1 2 0 0), .ref (zad G.1 3 0 i1), .int x3] μ (fun v μ1 => v = none ∧ ((¬ x2 = x3 → Con G mX6_bestPartFrom [.ref (zad G.1 8 0 0), .ref (zad G.1 2 0 0), .ref (zad G.1 3 0 i1), .int x2] μ1 (fun v μ2 => ∃ r1 : Int32, v = some (.int r1) ∧ ((¬ r1 = (-1 : Int32) → P (some (.int r1)) μ2) ∧ (r1 = (-1 : Int32) → X "java/util/NoSuchElementException" μ2))) noX) ∧ (x2 = x3 → ((¬ (-1 : Int32) = (-1 : Int32) → P (some (.int (-1 : Int32))) μ1) ∧ ((-1 : Int32) = (-1 : Int32) → X "java/util/NoSuchElementException" μ1))))) noX) ∧ (isSt x3 = false → X "java/lang/IndexOutOfBoundsException" μ))))))) :
    Con G mX7_firstPart [.ref (zad G.1 9 0 0), .int x1, .int x2, .int x3] μ P X := by
  refine con_of pn_X7 rfl (Nat.le_of_ble_eq_true rfl) ?_
  show VL G mX7_firstPart P X 0 [(0, .ref (zad G.1 9 0 0)), (1, .int x1), (2, .int x2), (3, .int x3)] [] μ
  refine v_aload_n (n := 1) dX7_firstPart_0 rfl rfl ?_
  refine v_getf (n := 4) dX7_firstPart_1 rfl fl_X7_12 zokc_9 rfl ?_
  refine v_iload_n (n := 5) dX7_firstPart_4 rfl rfl ?_
  obtain ⟨hf1, h⟩ := h
  refine v_callV (n := 8) (k := 2) (b := 0) (i := 0) (As := [.int x1]) (rest := []) dX7_firstPart_5 rfl lk_X7_226 rfl rfl (Nat.le_of_ble_eq_true rfl) ⟨Nat.le_of_ble_eq_true rfl, Nat.le_of_ble_eq_true rfl, Nat.le_of_ble_eq_true rfl, Nat.le_of_ble_eq_true rfl⟩ (zok_2 (by decide)) (s_X0_guestAt G 0 (by decide) x1 μ hf1) (fun v μ9 hp => ?_) (fun _ _ hp => False.elim hp)
  rcases hp with ⟨hq, hv, hm⟩ | ⟨i1, hi1, hq, hq2, hv, hm⟩
  · replace h := h.1 hq
    rw [hv, hm]
    refine v_norm (st' := [.null]) (cells' := 0) (slots' := 0) rfl rfl rfl ?_
    refine v_astoreN (n := 10) (L' := [(0, .ref (zad G.1 9 0 0)), (1, .int x1), (2, .int x2), (3, .int x3), (4, .null)]) dX7_firstPart_8 rfl (by decide) rfl ?_
    refine v_aloadN (n := 12) dX7_firstPart_10 rfl rfl ?_
    refine v_ifnullN (n := 29) dX7_firstPart_12 (by decide) ?_
    exact v_throwW lt_IndexOutOfBoundsException_333 rfl dX7_firstPart_29 dX7_firstPart_32 dX7_firstPart_33 dX7_firstPart_36 dX7_firstPart_39 ⟨Nat.le_of_ble_eq_true rfl, Nat.le_of_ble_eq_true rfl, Nat.le_of_ble_eq_true rfl, Nat.le_of_ble_eq_true rfl⟩ (Nat.le_of_ble_eq_true rfl) (Nat.le_of_ble_eq_true rfl) h
  · replace h := h.2 i1 hi1 hq hq2
    rw [hv, hm]
    refine v_norm (st' := [.ref (zad G.1 3 0 i1)]) (cells' := 0) (slots' := 0) rfl rfl rfl ?_
    refine v_astore (n := 10) (L' := [(0, .ref (zad G.1 9 0 0)), (1, .int x1), (2, .int x2), (3, .int x3), (4, .ref (zad G.1 3 0 i1))]) dX7_firstPart_8 rfl (by decide) rfl ?_
    refine v_aload (n := 12) dX7_firstPart_10 rfl rfl ?_
    refine v_ifnull (n := 15) dX7_firstPart_12 rfl ?_
    refine v_iload_n (n := 16) dX7_firstPart_15 rfl rfl ?_
    refine v_callS (n := 19) (As := [.int x2]) (rest := []) dX7_firstPart_16 rfl lk_X7_63 rfl rfl (Nat.le_of_ble_eq_true rfl) ⟨Nat.le_of_ble_eq_true rfl, Nat.le_of_ble_eq_true rfl, Nat.le_of_ble_eq_true rfl, Nat.le_of_ble_eq_true rfl⟩ (s_X7_isStation G x2 μ) (fun v μ9 hp => ?_) (fun _ _ hp => False.elim hp)
    rw [hp.1, hp.2]
    refine v_norm (st' := [.int (bI (isSt x2))]) (cells' := 0) (slots' := 0) rfl rfl rfl ?_
    refine v_if_eq (n := 22) (t := 29) dX7_firstPart_19 rfl (by decide) (fun hq => ?_) (fun hq => ?_)
    · replace h := h.1 (bI_f hq)
      exact v_throwW lt_IndexOutOfBoundsException_333 rfl dX7_firstPart_29 dX7_firstPart_32 dX7_firstPart_33 dX7_firstPart_36 dX7_firstPart_39 ⟨Nat.le_of_ble_eq_true rfl, Nat.le_of_ble_eq_true rfl, Nat.le_of_ble_eq_true rfl, Nat.le_of_ble_eq_true rfl⟩ (Nat.le_of_ble_eq_true rfl) (Nat.le_of_ble_eq_true rfl) h
    · replace h := h.2 (bI_nf hq)
      refine v_iload_n (n := 23) dX7_firstPart_22 rfl rfl ?_
      refine v_callS (n := 26) (As := [.int x3]) (rest := []) dX7_firstPart_23 rfl lk_X7_63 rfl rfl (Nat.le_of_ble_eq_true rfl) ⟨Nat.le_of_ble_eq_true rfl, Nat.le_of_ble_eq_true rfl, Nat.le_of_ble_eq_true rfl, Nat.le_of_ble_eq_true rfl⟩ (s_X7_isStation G x3 μ) (fun v μ9 hp => ?_) (fun _ _ hp => False.elim hp)
      rw [hp.1, hp.2]
      refine v_norm (st' := [.int (bI (isSt x3))]) (cells' := 0) (slots' := 0) rfl rfl rfl ?_
      refine v_if_ne (n := 29) (t := 40) dX7_firstPart_26 rfl (by decide) (fun hq => ?_) (fun hq => ?_)
      · replace h := h.1 (bI_nf hq)
        refine v_aload_n (n := 41) dX7_firstPart_40 rfl rfl ?_
        refine v_getf (n := 44) dX7_firstPart_41 rfl fl_X7_39 zokc_9 rfl ?_
        refine v_aload_n (n := 45) dX7_firstPart_44 rfl rfl ?_
        refine v_getf (n := 48) dX7_firstPart_45 rfl fl_X7_12 zokc_9 rfl ?_
        refine v_aload (n := 50) dX7_firstPart_48 rfl rfl ?_
        refine v_iload_n (n := 51) dX7_firstPart_50 rfl rfl ?_
        refine v_callV (n := 54) (k := 8) (b := 0) (i := 0) (As := [.ref (zad G.1 2 0 0), .ref (zad G.1 3 0 i1), .int x3]) (rest := []) dX7_firstPart_51 rfl lk_X7_335 rfl rfl (Nat.le_of_ble_eq_true rfl) ⟨Nat.le_of_ble_eq_true rfl, Nat.le_of_ble_eq_true rfl, Nat.le_of_ble_eq_true rfl, Nat.le_of_ble_eq_true rfl⟩ zokc_8 h (fun v μ1 h => ?_) (fun _ _ hp => False.elim hp)
        obtain ⟨rfl, h⟩ := h
        refine v_norm (st' := []) (cells' := 0) (slots' := 0) rfl rfl rfl ?_
        refine v_iload_n (n := 55) dX7_firstPart_54 rfl rfl ?_
        refine v_iload_n (n := 56) dX7_firstPart_55 rfl rfl ?_
        refine v_icmp_ne (n := 59) (t := 63) dX7_firstPart_56 rfl (by decide) (fun hq => ?_) (fun hq => ?_)
        · replace h := h.1 hq
          refine v_aload_n (n := 64) dX7_firstPart_63 rfl rfl ?_
          refine v_getf (n := 67) dX7_firstPart_64 rfl fl_X7_39 zokc_9 rfl ?_
          refine v_aload_n (n := 68) dX7_firstPart_67 rfl rfl ?_
          refine v_getf (n := 71) dX7_firstPart_68 rfl fl_X7_12 zokc_9 rfl ?_
          refine v_aload (n := 73) dX7_firstPart_71 rfl rfl ?_
          refine v_iload_n (n := 74) dX7_firstPart_73 rfl rfl ?_
          refine v_callV (n := 77) (k := 8) (b := 0) (i := 0) (As := [.ref (zad G.1 2 0 0), .ref (zad G.1 3 0 i1), .int x2]) (rest := []) dX7_firstPart_74 rfl lk_X7_345 rfl rfl (Nat.le_of_ble_eq_true rfl) ⟨Nat.le_of_ble_eq_true rfl, Nat.le_of_ble_eq_true rfl, Nat.le_of_ble_eq_true rfl, Nat.le_of_ble_eq_true rfl⟩ zokc_8 h (fun v μ2 h => ?_) (fun _ _ hp => False.elim hp)
          obtain ⟨r1, rfl, h⟩ := h
          refine v_norm (st' := [.int r1]) (cells' := 0) (slots' := 0) rfl rfl rfl ?_
          refine v_istore (n := 79) (L' := [(0, .ref (zad G.1 9 0 0)), (1, .int x1), (2, .int x2), (3, .int x3), (4, .ref (zad G.1 3 0 i1)), (5, .int r1)]) dX7_firstPart_77 rfl (by decide) rfl ?_
          refine v_iload (n := 81) dX7_firstPart_79 rfl rfl ?_
          refine v_iconst (n := 82) (x := (-1 : Int32)) dX7_firstPart_81 rfl (by decide) ?_
          refine v_icmp_ne (n := 85) (t := 96) dX7_firstPart_82 rfl (by decide) (fun hq => ?_) (fun hq => ?_)
          · replace h := h.1 hq
            refine v_iload (n := 98) dX7_firstPart_96 rfl rfl ?_
            exact v_iret dX7_firstPart_98 rfl (Nat.le_of_ble_eq_true rfl) (Nat.le_of_ble_eq_true rfl) h
          · replace h := h.2 hq
            exact v_throwNW lt_NoSuchElementException_343 rfl dX7_firstPart_85 dX7_firstPart_88 dX7_firstPart_89 dX7_firstPart_92 dX7_firstPart_95 ⟨Nat.le_of_ble_eq_true rfl, Nat.le_of_ble_eq_true rfl, Nat.le_of_ble_eq_true rfl, Nat.le_of_ble_eq_true rfl⟩ (Nat.le_of_ble_eq_true rfl) (Nat.le_of_ble_eq_true rfl) h
        · replace h := h.2 hq
          refine v_iconst (n := 60) (x := (-1 : Int32)) dX7_firstPart_59 rfl (by decide) ?_
          refine v_goto (n := 77) dX7_firstPart_60 (by decide) ?_
          refine v_istore (n := 79) (L' := [(0, .ref (zad G.1 9 0 0)), (1, .int x1), (2, .int x2), (3, .int x3), (4, .ref (zad G.1 3 0 i1)), (5, .int (-1 : Int32))]) dX7_firstPart_77 rfl (by decide) rfl ?_
          refine v_iload (n := 81) dX7_firstPart_79 rfl rfl ?_
          refine v_iconst (n := 82) (x := (-1 : Int32)) dX7_firstPart_81 rfl (by decide) ?_
          refine v_icmp_ne (n := 85) (t := 96) dX7_firstPart_82 rfl (by decide) (fun hq => ?_) (fun hq => ?_)
          · replace h := h.1 hq
            refine v_iload (n := 98) dX7_firstPart_96 rfl rfl ?_
            exact v_iret dX7_firstPart_98 rfl (Nat.le_of_ble_eq_true rfl) (Nat.le_of_ble_eq_true rfl) h
          · replace h := h.2 hq
            exact v_throwNW lt_NoSuchElementException_343 rfl dX7_firstPart_85 dX7_firstPart_88 dX7_firstPart_89 dX7_firstPart_92 dX7_firstPart_95 ⟨Nat.le_of_ble_eq_true rfl, Nat.le_of_ble_eq_true rfl, Nat.le_of_ble_eq_true rfl, Nat.le_of_ble_eq_true rfl⟩ (Nat.le_of_ble_eq_true rfl) (Nat.le_of_ble_eq_true rfl) h
      · replace h := h.2 (bI_f hq)
        exact v_throwW lt_IndexOutOfBoundsException_333 rfl dX7_firstPart_29 dX7_firstPart_32 dX7_firstPart_33 dX7_firstPart_36 dX7_firstPart_39 ⟨Nat.le_of_ble_eq_true rfl, Nat.le_of_ble_eq_true rfl, Nat.le_of_ble_eq_true rfl, Nat.le_of_ble_eq_true rfl⟩ (Nat.le_of_ble_eq_true rfl) (Nat.le_of_ble_eq_true rfl) h

set_option maxRecDepth 20000 in
set_option maxHeartbeats 4000000 in
theorem wX7_reachable (G : Gl) {P : Option Value → St → Prop} {X : String → St → Prop} (x1 : Int32) (x2 : Int32) (μ : St)
    (h : μ 2 0 0 5 ≤ nI 16 ∧ ((idx x1 (μ 2 0 0 5) = false → X "java/lang/IndexOutOfBoundsException" μ) ∧ (∀ i1 : Nat, i1 < 16 → x1 = nI i1 → idx x1 (μ 2 0 0 5) = true → ((isSt x2 = true → Con G mX6_stationsFrom [.ref (zad G.1 8 0 0), .ref (zad G.1 2 0 0), .ref (zad G.1 3 0 i1), .int x2] μ (fun v μ1 => ∃ r1 : Int32, v = some (.int r1) ∧ P (some (.int r1)) μ1) noX) ∧ (isSt x2 = false → X "java/lang/IndexOutOfBoundsException" μ))))) :
    Con G mX7_reachable [.ref (zad G.1 9 0 0), .int x1, .int x2] μ P X := by
  refine con_of pn_X7 rfl (Nat.le_of_ble_eq_true rfl) ?_
  show VL G mX7_reachable P X 0 [(0, .ref (zad G.1 9 0 0)), (1, .int x1), (2, .int x2)] [] μ
  refine v_aload_n (n := 1) dX7_reachable_0 rfl rfl ?_
  refine v_getf (n := 4) dX7_reachable_1 rfl fl_X7_12 zokc_9 rfl ?_
  refine v_iload_n (n := 5) dX7_reachable_4 rfl rfl ?_
  obtain ⟨hf1, h⟩ := h
  refine v_callV (n := 8) (k := 2) (b := 0) (i := 0) (As := [.int x1]) (rest := []) dX7_reachable_5 rfl lk_X7_226 rfl rfl (Nat.le_of_ble_eq_true rfl) ⟨Nat.le_of_ble_eq_true rfl, Nat.le_of_ble_eq_true rfl, Nat.le_of_ble_eq_true rfl, Nat.le_of_ble_eq_true rfl⟩ (zok_2 (by decide)) (s_X0_guestAt G 0 (by decide) x1 μ hf1) (fun v μ9 hp => ?_) (fun _ _ hp => False.elim hp)
  rcases hp with ⟨hq, hv, hm⟩ | ⟨i1, hi1, hq, hq2, hv, hm⟩
  · replace h := h.1 hq
    rw [hv, hm]
    refine v_norm (st' := [.null]) (cells' := 0) (slots' := 0) rfl rfl rfl ?_
    refine v_astore_nN (n := 9) (L' := [(0, .ref (zad G.1 9 0 0)), (1, .int x1), (2, .int x2), (3, .null)]) dX7_reachable_8 rfl (by decide) rfl ?_
    refine v_aload_nN (n := 10) dX7_reachable_9 rfl rfl ?_
    refine v_ifnullN (n := 20) dX7_reachable_10 (by decide) ?_
    exact v_throwW lt_IndexOutOfBoundsException_333 rfl dX7_reachable_20 dX7_reachable_23 dX7_reachable_24 dX7_reachable_27 dX7_reachable_30 ⟨Nat.le_of_ble_eq_true rfl, Nat.le_of_ble_eq_true rfl, Nat.le_of_ble_eq_true rfl, Nat.le_of_ble_eq_true rfl⟩ (Nat.le_of_ble_eq_true rfl) (Nat.le_of_ble_eq_true rfl) h
  · replace h := h.2 i1 hi1 hq hq2
    rw [hv, hm]
    refine v_norm (st' := [.ref (zad G.1 3 0 i1)]) (cells' := 0) (slots' := 0) rfl rfl rfl ?_
    refine v_astore_n (n := 9) (L' := [(0, .ref (zad G.1 9 0 0)), (1, .int x1), (2, .int x2), (3, .ref (zad G.1 3 0 i1))]) dX7_reachable_8 rfl (by decide) rfl ?_
    refine v_aload_n (n := 10) dX7_reachable_9 rfl rfl ?_
    refine v_ifnull (n := 13) dX7_reachable_10 rfl ?_
    refine v_iload_n (n := 14) dX7_reachable_13 rfl rfl ?_
    refine v_callS (n := 17) (As := [.int x2]) (rest := []) dX7_reachable_14 rfl lk_X7_63 rfl rfl (Nat.le_of_ble_eq_true rfl) ⟨Nat.le_of_ble_eq_true rfl, Nat.le_of_ble_eq_true rfl, Nat.le_of_ble_eq_true rfl, Nat.le_of_ble_eq_true rfl⟩ (s_X7_isStation G x2 μ) (fun v μ9 hp => ?_) (fun _ _ hp => False.elim hp)
    rw [hp.1, hp.2]
    refine v_norm (st' := [.int (bI (isSt x2))]) (cells' := 0) (slots' := 0) rfl rfl rfl ?_
    refine v_if_ne (n := 20) (t := 31) dX7_reachable_17 rfl (by decide) (fun hq => ?_) (fun hq => ?_)
    · replace h := h.1 (bI_nf hq)
      refine v_aload_n (n := 32) dX7_reachable_31 rfl rfl ?_
      refine v_getf (n := 35) dX7_reachable_32 rfl fl_X7_39 zokc_9 rfl ?_
      refine v_aload_n (n := 36) dX7_reachable_35 rfl rfl ?_
      refine v_getf (n := 39) dX7_reachable_36 rfl fl_X7_12 zokc_9 rfl ?_
      refine v_aload_n (n := 40) dX7_reachable_39 rfl rfl ?_
      refine v_iload_n (n := 41) dX7_reachable_40 rfl rfl ?_
      refine v_callV (n := 44) (k := 8) (b := 0) (i := 0) (As := [.ref (zad G.1 2 0 0), .ref (zad G.1 3 0 i1), .int x2]) (rest := []) dX7_reachable_41 rfl lk_X7_349 rfl rfl (Nat.le_of_ble_eq_true rfl) ⟨Nat.le_of_ble_eq_true rfl, Nat.le_of_ble_eq_true rfl, Nat.le_of_ble_eq_true rfl, Nat.le_of_ble_eq_true rfl⟩ zokc_8 h (fun v μ1 h => ?_) (fun _ _ hp => False.elim hp)
      obtain ⟨r1, rfl, h⟩ := h
      refine v_norm (st' := [.int r1]) (cells' := 0) (slots' := 0) rfl rfl rfl ?_
      exact v_iret dX7_reachable_44 rfl (Nat.le_of_ble_eq_true rfl) (Nat.le_of_ble_eq_true rfl) h
    · replace h := h.2 (bI_f hq)
      exact v_throwW lt_IndexOutOfBoundsException_333 rfl dX7_reachable_20 dX7_reachable_23 dX7_reachable_24 dX7_reachable_27 dX7_reachable_30 ⟨Nat.le_of_ble_eq_true rfl, Nat.le_of_ble_eq_true rfl, Nat.le_of_ble_eq_true rfl, Nat.le_of_ble_eq_true rfl⟩ (Nat.le_of_ble_eq_true rfl) (Nat.le_of_ble_eq_true rfl) h

set_option maxRecDepth 20000 in
set_option maxHeartbeats 4000000 in
theorem wX7_stranded (G : Gl) {P : Option Value → St → Prop} {X : String → St → Prop} (x1 : Int32) (x2 : Int32) (μ : St)
    (h : μ 2 0 0 5 ≤ nI 16 ∧ ((idx x1 (μ 2 0 0 5) = false → X "java/lang/IndexOutOfBoundsException" μ) ∧ (∀ i1 : Nat, i1 < 16 → x1 = nI i1 → idx x1 (μ 2 0 0 5) = true → ((isSt x2 = true → Con G mX6_measure [.ref (zad G.1 8 0 0), .ref (zad G.1 2 0 0), .ref (zad G.1 3 0 i1), .int x2] μ (fun v μ1 => v = none ∧ Con G mX6_stationsWithoutWay [.ref (zad G.1 8 0 0)] μ1 (fun v μ2 => ∃ r1 : Int32, v = some (.int r1) ∧ P (some (.int r1)) μ2) noX) noX) ∧ (isSt x2 = false → X "java/lang/IndexOutOfBoundsException" μ))))) :
    Con G mX7_stranded [.ref (zad G.1 9 0 0), .int x1, .int x2] μ P X := by
  refine con_of pn_X7 rfl (Nat.le_of_ble_eq_true rfl) ?_
  show VL G mX7_stranded P X 0 [(0, .ref (zad G.1 9 0 0)), (1, .int x1), (2, .int x2)] [] μ
  refine v_aload_n (n := 1) dX7_stranded_0 rfl rfl ?_
  refine v_getf (n := 4) dX7_stranded_1 rfl fl_X7_12 zokc_9 rfl ?_
  refine v_iload_n (n := 5) dX7_stranded_4 rfl rfl ?_
  obtain ⟨hf1, h⟩ := h
  refine v_callV (n := 8) (k := 2) (b := 0) (i := 0) (As := [.int x1]) (rest := []) dX7_stranded_5 rfl lk_X7_226 rfl rfl (Nat.le_of_ble_eq_true rfl) ⟨Nat.le_of_ble_eq_true rfl, Nat.le_of_ble_eq_true rfl, Nat.le_of_ble_eq_true rfl, Nat.le_of_ble_eq_true rfl⟩ (zok_2 (by decide)) (s_X0_guestAt G 0 (by decide) x1 μ hf1) (fun v μ9 hp => ?_) (fun _ _ hp => False.elim hp)
  rcases hp with ⟨hq, hv, hm⟩ | ⟨i1, hi1, hq, hq2, hv, hm⟩
  · replace h := h.1 hq
    rw [hv, hm]
    refine v_norm (st' := [.null]) (cells' := 0) (slots' := 0) rfl rfl rfl ?_
    refine v_astore_nN (n := 9) (L' := [(0, .ref (zad G.1 9 0 0)), (1, .int x1), (2, .int x2), (3, .null)]) dX7_stranded_8 rfl (by decide) rfl ?_
    refine v_aload_nN (n := 10) dX7_stranded_9 rfl rfl ?_
    refine v_ifnullN (n := 20) dX7_stranded_10 (by decide) ?_
    exact v_throwW lt_IndexOutOfBoundsException_333 rfl dX7_stranded_20 dX7_stranded_23 dX7_stranded_24 dX7_stranded_27 dX7_stranded_30 ⟨Nat.le_of_ble_eq_true rfl, Nat.le_of_ble_eq_true rfl, Nat.le_of_ble_eq_true rfl, Nat.le_of_ble_eq_true rfl⟩ (Nat.le_of_ble_eq_true rfl) (Nat.le_of_ble_eq_true rfl) h
  · replace h := h.2 i1 hi1 hq hq2
    rw [hv, hm]
    refine v_norm (st' := [.ref (zad G.1 3 0 i1)]) (cells' := 0) (slots' := 0) rfl rfl rfl ?_
    refine v_astore_n (n := 9) (L' := [(0, .ref (zad G.1 9 0 0)), (1, .int x1), (2, .int x2), (3, .ref (zad G.1 3 0 i1))]) dX7_stranded_8 rfl (by decide) rfl ?_
    refine v_aload_n (n := 10) dX7_stranded_9 rfl rfl ?_
    refine v_ifnull (n := 13) dX7_stranded_10 rfl ?_
    refine v_iload_n (n := 14) dX7_stranded_13 rfl rfl ?_
    refine v_callS (n := 17) (As := [.int x2]) (rest := []) dX7_stranded_14 rfl lk_X7_63 rfl rfl (Nat.le_of_ble_eq_true rfl) ⟨Nat.le_of_ble_eq_true rfl, Nat.le_of_ble_eq_true rfl, Nat.le_of_ble_eq_true rfl, Nat.le_of_ble_eq_true rfl⟩ (s_X7_isStation G x2 μ) (fun v μ9 hp => ?_) (fun _ _ hp => False.elim hp)
    rw [hp.1, hp.2]
    refine v_norm (st' := [.int (bI (isSt x2))]) (cells' := 0) (slots' := 0) rfl rfl rfl ?_
    refine v_if_ne (n := 20) (t := 31) dX7_stranded_17 rfl (by decide) (fun hq => ?_) (fun hq => ?_)
    · replace h := h.1 (bI_nf hq)
      refine v_aload_n (n := 32) dX7_stranded_31 rfl rfl ?_
      refine v_getf (n := 35) dX7_stranded_32 rfl fl_X7_39 zokc_9 rfl ?_
      refine v_aload_n (n := 36) dX7_stranded_35 rfl rfl ?_
      refine v_getf (n := 39) dX7_stranded_36 rfl fl_X7_12 zokc_9 rfl ?_
      refine v_aload_n (n := 40) dX7_stranded_39 rfl rfl ?_
      refine v_iload_n (n := 41) dX7_stranded_40 rfl rfl ?_
      refine v_callV (n := 44) (k := 8) (b := 0) (i := 0) (As := [.ref (zad G.1 2 0 0), .ref (zad G.1 3 0 i1), .int x2]) (rest := []) dX7_stranded_41 rfl lk_X7_335 rfl rfl (Nat.le_of_ble_eq_true rfl) ⟨Nat.le_of_ble_eq_true rfl, Nat.le_of_ble_eq_true rfl, Nat.le_of_ble_eq_true rfl, Nat.le_of_ble_eq_true rfl⟩ zokc_8 h (fun v μ1 h => ?_) (fun _ _ hp => False.elim hp)
      obtain ⟨rfl, h⟩ := h
      refine v_norm (st' := []) (cells' := 0) (slots' := 0) rfl rfl rfl ?_
      refine v_aload_n (n := 45) dX7_stranded_44 rfl rfl ?_
      refine v_getf (n := 48) dX7_stranded_45 rfl fl_X7_39 zokc_9 rfl ?_
      refine v_callV (n := 51) (k := 8) (b := 0) (i := 0) (As := []) (rest := []) dX7_stranded_48 rfl lk_X7_352 rfl rfl (Nat.le_of_ble_eq_true rfl) ⟨Nat.le_of_ble_eq_true rfl, Nat.le_of_ble_eq_true rfl, Nat.le_of_ble_eq_true rfl, Nat.le_of_ble_eq_true rfl⟩ zokc_8 h (fun v μ2 h => ?_) (fun _ _ hp => False.elim hp)
      obtain ⟨r1, rfl, h⟩ := h
      refine v_norm (st' := [.int r1]) (cells' := 0) (slots' := 0) rfl rfl rfl ?_
      exact v_iret dX7_stranded_51 rfl (Nat.le_of_ble_eq_true rfl) (Nat.le_of_ble_eq_true rfl) h
    · replace h := h.2 (bI_f hq)
      exact v_throwW lt_IndexOutOfBoundsException_333 rfl dX7_stranded_20 dX7_stranded_23 dX7_stranded_24 dX7_stranded_27 dX7_stranded_30 ⟨Nat.le_of_ble_eq_true rfl, Nat.le_of_ble_eq_true rfl, Nat.le_of_ble_eq_true rfl, Nat.le_of_ble_eq_true rfl⟩ (Nat.le_of_ble_eq_true rfl) (Nat.le_of_ble_eq_true rfl) h

set_option maxRecDepth 20000 in
set_option maxHeartbeats 4000000 in
theorem wX7_liftAccount (G : Gl) {P : Option Value → St → Prop} {X : String → St → Prop} (x1 : Int32) (x2 : Int32) (μ : St)
    (h : μ 2 0 0 3 ≤ nI 6 ∧ ((idx x1 (μ 2 0 0 3) = false → X "java/lang/IndexOutOfBoundsException" μ) ∧ (∀ i1 : Nat, i1 < 6 → x1 = nI i1 → idx x1 (μ 2 0 0 3) = true → ((x2 = nI 0 → P (some (.int (μ 6 0 i1 8))) μ) ∧ (¬ x2 = nI 0 → ((x2 = nI 1 → P (some (.int (μ 6 0 i1 9))) μ) ∧ (¬ x2 = nI 1 → X "java/lang/IllegalArgumentException" μ))))))) :
    Con G mX7_liftAccount [.ref (zad G.1 9 0 0), .int x1, .int x2] μ P X := by
  refine con_of pn_X7 rfl (Nat.le_of_ble_eq_true rfl) ?_
  show VL G mX7_liftAccount P X 0 [(0, .ref (zad G.1 9 0 0)), (1, .int x1), (2, .int x2)] [] μ
  refine v_aload_n (n := 1) dX7_liftAccount_0 rfl rfl ?_
  refine v_getf (n := 4) dX7_liftAccount_1 rfl fl_X7_12 zokc_9 rfl ?_
  refine v_iload_n (n := 5) dX7_liftAccount_4 rfl rfl ?_
  obtain ⟨hf1, h⟩ := h
  refine v_callV (n := 8) (k := 2) (b := 0) (i := 0) (As := [.int x1]) (rest := []) dX7_liftAccount_5 rfl lk_X7_130 rfl rfl (Nat.le_of_ble_eq_true rfl) ⟨Nat.le_of_ble_eq_true rfl, Nat.le_of_ble_eq_true rfl, Nat.le_of_ble_eq_true rfl, Nat.le_of_ble_eq_true rfl⟩ (zok_2 (by decide)) (s_X0_liftAt G 0 (by decide) x1 μ hf1) (fun v μ9 hp => ?_) (fun _ _ hp => False.elim hp)
  rcases hp with ⟨hq, hv, hm⟩ | ⟨i1, hi1, hq, hq2, hv, hm⟩
  · replace h := h.1 hq
    rw [hv, hm]
    refine v_norm (st' := [.null]) (cells' := 0) (slots' := 0) rfl rfl rfl ?_
    refine v_astore_nN (n := 9) (L' := [(0, .ref (zad G.1 9 0 0)), (1, .int x1), (2, .int x2), (3, .null)]) dX7_liftAccount_8 rfl (by decide) rfl ?_
    refine v_aload_nN (n := 10) dX7_liftAccount_9 rfl rfl ?_
    refine v_ifnonnullN (n := 13) dX7_liftAccount_10 rfl ?_
    exact v_throw lt_IndexOutOfBoundsException_134 rfl dX7_liftAccount_13 dX7_liftAccount_16 dX7_liftAccount_17 dX7_liftAccount_19 dX7_liftAccount_22 ⟨Nat.le_of_ble_eq_true rfl, Nat.le_of_ble_eq_true rfl, Nat.le_of_ble_eq_true rfl, Nat.le_of_ble_eq_true rfl⟩ (Nat.le_of_ble_eq_true rfl) (Nat.le_of_ble_eq_true rfl) h
  · replace h := h.2 i1 hi1 hq hq2
    rw [hv, hm]
    refine v_norm (st' := [.ref (zad G.1 6 0 i1)]) (cells' := 0) (slots' := 0) rfl rfl rfl ?_
    refine v_astore_n (n := 9) (L' := [(0, .ref (zad G.1 9 0 0)), (1, .int x1), (2, .int x2), (3, .ref (zad G.1 6 0 i1))]) dX7_liftAccount_8 rfl (by decide) rfl ?_
    refine v_aload_n (n := 10) dX7_liftAccount_9 rfl rfl ?_
    refine v_ifnonnull (n := 23) dX7_liftAccount_10 (by decide) ?_
    refine v_iload_n (n := 24) dX7_liftAccount_23 rfl rfl ?_
    by_cases hs0 : x2 = nI 0
    · replace h := h.1 hs0
      have hx : (x2).toInt = 0 := by rw [hs0]; rfl
      refine v_lookup (n := 52) (off := 28) dX7_liftAccount_24 (by decide) (by rw [hx]; rfl) (by decide) ?_
      refine v_aload_n (n := 53) dX7_liftAccount_52 rfl rfl ?_
      refine v_getf (n := 56) dX7_liftAccount_53 rfl fl_X7_355 (zok_6 (by decide) hi1) (rfl) ?_
      exact v_iret dX7_liftAccount_56 rfl (Nat.le_of_ble_eq_true rfl) (Nat.le_of_ble_eq_true rfl) h
    replace h := h.2 hs0
    by_cases hs1 : x2 = nI 1
    · replace h := h.1 hs1
      have hx : (x2).toInt = 1 := by rw [hs1]; rfl
      refine v_lookup (n := 57) (off := 33) dX7_liftAccount_24 (by decide) (by rw [hx]; rfl) (by decide) ?_
      refine v_aload_n (n := 58) dX7_liftAccount_57 rfl rfl ?_
      refine v_getf (n := 61) dX7_liftAccount_58 rfl fl_X7_358 (zok_6 (by decide) hi1) (rfl) ?_
      exact v_iret dX7_liftAccount_61 rfl (Nat.le_of_ble_eq_true rfl) (Nat.le_of_ble_eq_true rfl) h
    replace h := h.2 hs1
    refine v_lookup (n := 62) (off := 38) dX7_liftAccount_24 (by decide) (by show Op.lookupswitch.offset [(0, 28), (1, 33)] 38 _ = _; rw [Op.lookupswitch.offset_cons, if_neg (fun e => lsw_ne hs0 (by decide) e.symm), Op.lookupswitch.offset_cons, if_neg (fun e => lsw_ne hs1 (by decide) e.symm)]; rfl) (by decide) ?_
    exact v_throwW lt_IllegalArgumentException_361 rfl dX7_liftAccount_62 dX7_liftAccount_65 dX7_liftAccount_66 dX7_liftAccount_69 dX7_liftAccount_72 ⟨Nat.le_of_ble_eq_true rfl, Nat.le_of_ble_eq_true rfl, Nat.le_of_ble_eq_true rfl, Nat.le_of_ble_eq_true rfl⟩ (Nat.le_of_ble_eq_true rfl) (Nat.le_of_ble_eq_true rfl) h

set_option maxRecDepth 20000 in
set_option maxHeartbeats 4000000 in
theorem wX7_guestAccount (G : Gl) {P : Option Value → St → Prop} {X : String → St → Prop} (x1 : Int32) (x2 : Int32) (μ : St)
    (h : μ 2 0 0 5 ≤ nI 16 ∧ ((idx x1 (μ 2 0 0 5) = false → X "java/lang/IndexOutOfBoundsException" μ) ∧ (∀ i1 : Nat, i1 < 16 → x1 = nI i1 → idx x1 (μ 2 0 0 5) = true → ((x2 = nI 0 → P (some (.int (μ 3 0 i1 8))) μ) ∧ (¬ x2 = nI 0 → ((x2 = nI 1 → P (some (.int (μ 3 0 i1 9))) μ) ∧ (¬ x2 = nI 1 → ((x2 = nI 2 → P (some (.int (μ 3 0 i1 10))) μ) ∧ (¬ x2 = nI 2 → X "java/lang/IllegalArgumentException" μ))))))))) :
    Con G mX7_guestAccount [.ref (zad G.1 9 0 0), .int x1, .int x2] μ P X := by
  refine con_of pn_X7 rfl (Nat.le_of_ble_eq_true rfl) ?_
  show VL G mX7_guestAccount P X 0 [(0, .ref (zad G.1 9 0 0)), (1, .int x1), (2, .int x2)] [] μ
  refine v_aload_n (n := 1) dX7_guestAccount_0 rfl rfl ?_
  refine v_getf (n := 4) dX7_guestAccount_1 rfl fl_X7_12 zokc_9 rfl ?_
  refine v_iload_n (n := 5) dX7_guestAccount_4 rfl rfl ?_
  obtain ⟨hf1, h⟩ := h
  refine v_callV (n := 8) (k := 2) (b := 0) (i := 0) (As := [.int x1]) (rest := []) dX7_guestAccount_5 rfl lk_X7_226 rfl rfl (Nat.le_of_ble_eq_true rfl) ⟨Nat.le_of_ble_eq_true rfl, Nat.le_of_ble_eq_true rfl, Nat.le_of_ble_eq_true rfl, Nat.le_of_ble_eq_true rfl⟩ (zok_2 (by decide)) (s_X0_guestAt G 0 (by decide) x1 μ hf1) (fun v μ9 hp => ?_) (fun _ _ hp => False.elim hp)
  rcases hp with ⟨hq, hv, hm⟩ | ⟨i1, hi1, hq, hq2, hv, hm⟩
  · replace h := h.1 hq
    rw [hv, hm]
    refine v_norm (st' := [.null]) (cells' := 0) (slots' := 0) rfl rfl rfl ?_
    refine v_astore_nN (n := 9) (L' := [(0, .ref (zad G.1 9 0 0)), (1, .int x1), (2, .int x2), (3, .null)]) dX7_guestAccount_8 rfl (by decide) rfl ?_
    refine v_aload_nN (n := 10) dX7_guestAccount_9 rfl rfl ?_
    refine v_ifnonnullN (n := 13) dX7_guestAccount_10 rfl ?_
    exact v_throw lt_IndexOutOfBoundsException_230 rfl dX7_guestAccount_13 dX7_guestAccount_16 dX7_guestAccount_17 dX7_guestAccount_19 dX7_guestAccount_22 ⟨Nat.le_of_ble_eq_true rfl, Nat.le_of_ble_eq_true rfl, Nat.le_of_ble_eq_true rfl, Nat.le_of_ble_eq_true rfl⟩ (Nat.le_of_ble_eq_true rfl) (Nat.le_of_ble_eq_true rfl) h
  · replace h := h.2 i1 hi1 hq hq2
    rw [hv, hm]
    refine v_norm (st' := [.ref (zad G.1 3 0 i1)]) (cells' := 0) (slots' := 0) rfl rfl rfl ?_
    refine v_astore_n (n := 9) (L' := [(0, .ref (zad G.1 9 0 0)), (1, .int x1), (2, .int x2), (3, .ref (zad G.1 3 0 i1))]) dX7_guestAccount_8 rfl (by decide) rfl ?_
    refine v_aload_n (n := 10) dX7_guestAccount_9 rfl rfl ?_
    refine v_ifnonnull (n := 23) dX7_guestAccount_10 (by decide) ?_
    refine v_iload_n (n := 24) dX7_guestAccount_23 rfl rfl ?_
    by_cases hs0 : x2 = nI 0
    · replace h := h.1 hs0
      have hx : (x2).toInt = 0 := by rw [hs0]; rfl
      refine v_tableIn (n := 52) (off := 28) dX7_guestAccount_24 (by rw [hx]; decide) (by rw [hx]; decide) (by rw [hx]; rfl) (by decide) ?_
      refine v_aload_n (n := 53) dX7_guestAccount_52 rfl rfl ?_
      refine v_getf (n := 56) dX7_guestAccount_53 rfl fl_X7_363 (zok_3 (by decide) hi1) (rfl) ?_
      exact v_iret dX7_guestAccount_56 rfl (Nat.le_of_ble_eq_true rfl) (Nat.le_of_ble_eq_true rfl) h
    replace h := h.2 hs0
    by_cases hs1 : x2 = nI 1
    · replace h := h.1 hs1
      have hx : (x2).toInt = 1 := by rw [hs1]; rfl
      refine v_tableIn (n := 57) (off := 33) dX7_guestAccount_24 (by rw [hx]; decide) (by rw [hx]; decide) (by rw [hx]; rfl) (by decide) ?_
      refine v_aload_n (n := 58) dX7_guestAccount_57 rfl rfl ?_
      refine v_getf (n := 61) dX7_guestAccount_58 rfl fl_X7_366 (zok_3 (by decide) hi1) (rfl) ?_
      exact v_iret dX7_guestAccount_61 rfl (Nat.le_of_ble_eq_true rfl) (Nat.le_of_ble_eq_true rfl) h
    replace h := h.2 hs1
    by_cases hs2 : x2 = nI 2
    · replace h := h.1 hs2
      have hx : (x2).toInt = 2 := by rw [hs2]; rfl
      refine v_tableIn (n := 62) (off := 38) dX7_guestAccount_24 (by rw [hx]; decide) (by rw [hx]; decide) (by rw [hx]; rfl) (by decide) ?_
      refine v_aload_n (n := 63) dX7_guestAccount_62 rfl rfl ?_
      refine v_getf (n := 66) dX7_guestAccount_63 rfl fl_X7_369 (zok_3 (by decide) hi1) (rfl) ?_
      exact v_iret dX7_guestAccount_66 rfl (Nat.le_of_ble_eq_true rfl) (Nat.le_of_ble_eq_true rfl) h
    replace h := h.2 hs2
    refine v_tableOut (n := 67) dX7_guestAccount_24 (tsw_out 3 (fun k hk => by rcases (show k = 0 ∨ k = 1 ∨ k = 2 by omega) with rfl | rfl | rfl <;> assumption)) (by decide) ?_
    exact v_throwW lt_IllegalArgumentException_372 rfl dX7_guestAccount_67 dX7_guestAccount_70 dX7_guestAccount_71 dX7_guestAccount_74 dX7_guestAccount_77 ⟨Nat.le_of_ble_eq_true rfl, Nat.le_of_ble_eq_true rfl, Nat.le_of_ble_eq_true rfl, Nat.le_of_ble_eq_true rfl⟩ (Nat.le_of_ble_eq_true rfl) (Nat.le_of_ble_eq_true rfl) h

set_option maxRecDepth 20000 in
set_option maxHeartbeats 4000000 in
theorem wX7_pisteAccount (G : Gl) {P : Option Value → St → Prop} {X : String → St → Prop} (x1 : Int32) (μ : St)
    (h : μ 2 0 0 4 ≤ nI 10 ∧ ((idx x1 (μ 2 0 0 4) = false → X "java/lang/IndexOutOfBoundsException" μ) ∧ (∀ i1 : Nat, i1 < 10 → x1 = nI i1 → idx x1 (μ 2 0 0 4) = true → P (some (.int (μ 7 0 i1 7))) μ))) :
    Con G mX7_pisteAccount [.ref (zad G.1 9 0 0), .int x1] μ P X := by
  refine con_of pn_X7 rfl (Nat.le_of_ble_eq_true rfl) ?_
  show VL G mX7_pisteAccount P X 0 [(0, .ref (zad G.1 9 0 0)), (1, .int x1)] [] μ
  refine v_aload_n (n := 1) dX7_pisteAccount_0 rfl rfl ?_
  refine v_getf (n := 4) dX7_pisteAccount_1 rfl fl_X7_12 zokc_9 rfl ?_
  refine v_iload_n (n := 5) dX7_pisteAccount_4 rfl rfl ?_
  obtain ⟨hf1, h⟩ := h
  refine v_callV (n := 8) (k := 2) (b := 0) (i := 0) (As := [.int x1]) (rest := []) dX7_pisteAccount_5 rfl lk_X7_170 rfl rfl (Nat.le_of_ble_eq_true rfl) ⟨Nat.le_of_ble_eq_true rfl, Nat.le_of_ble_eq_true rfl, Nat.le_of_ble_eq_true rfl, Nat.le_of_ble_eq_true rfl⟩ (zok_2 (by decide)) (s_X0_pisteAt G 0 (by decide) x1 μ hf1) (fun v μ9 hp => ?_) (fun _ _ hp => False.elim hp)
  rcases hp with ⟨hq, hv, hm⟩ | ⟨i1, hi1, hq, hq2, hv, hm⟩
  · replace h := h.1 hq
    rw [hv, hm]
    refine v_norm (st' := [.null]) (cells' := 0) (slots' := 0) rfl rfl rfl ?_
    refine v_astore_nN (n := 9) (L' := [(0, .ref (zad G.1 9 0 0)), (1, .int x1), (2, .null)]) dX7_pisteAccount_8 rfl (by decide) rfl ?_
    refine v_aload_nN (n := 10) dX7_pisteAccount_9 rfl rfl ?_
    refine v_ifnonnullN (n := 13) dX7_pisteAccount_10 rfl ?_
    exact v_throw lt_IndexOutOfBoundsException_174 rfl dX7_pisteAccount_13 dX7_pisteAccount_16 dX7_pisteAccount_17 dX7_pisteAccount_19 dX7_pisteAccount_22 ⟨Nat.le_of_ble_eq_true rfl, Nat.le_of_ble_eq_true rfl, Nat.le_of_ble_eq_true rfl, Nat.le_of_ble_eq_true rfl⟩ (Nat.le_of_ble_eq_true rfl) (Nat.le_of_ble_eq_true rfl) h
  · replace h := h.2 i1 hi1 hq hq2
    rw [hv, hm]
    refine v_norm (st' := [.ref (zad G.1 7 0 i1)]) (cells' := 0) (slots' := 0) rfl rfl rfl ?_
    refine v_astore_n (n := 9) (L' := [(0, .ref (zad G.1 9 0 0)), (1, .int x1), (2, .ref (zad G.1 7 0 i1))]) dX7_pisteAccount_8 rfl (by decide) rfl ?_
    refine v_aload_n (n := 10) dX7_pisteAccount_9 rfl rfl ?_
    refine v_ifnonnull (n := 23) dX7_pisteAccount_10 (by decide) ?_
    refine v_aload_n (n := 24) dX7_pisteAccount_23 rfl rfl ?_
    refine v_getf (n := 27) dX7_pisteAccount_24 rfl fl_X7_374 (zok_7 (by decide) hi1) (rfl) ?_
    exact v_iret dX7_pisteAccount_27 rfl (Nat.le_of_ble_eq_true rfl) (Nat.le_of_ble_eq_true rfl) h

set_option maxRecDepth 20000 in
set_option maxHeartbeats 4000000 in
theorem wX7_audit (G : Gl) {P : Option Value → St → Prop} {X : String → St → Prop}  (μ : St)
    (h : Con G mX0_accountsGap [.ref (zad G.1 2 0 0)] μ (fun v μ1 => ∃ r1 : Int32, v = some (.int r1) ∧ P (some (.int r1)) μ1) noX) :
    Con G mX7_audit [.ref (zad G.1 9 0 0)] μ P X := by
  refine con_of pn_X7 rfl (Nat.le_of_ble_eq_true rfl) ?_
  show VL G mX7_audit P X 0 [(0, .ref (zad G.1 9 0 0))] [] μ
  refine v_aload_n (n := 1) dX7_audit_0 rfl rfl ?_
  refine v_getf (n := 4) dX7_audit_1 rfl fl_X7_12 zokc_9 rfl ?_
  refine v_callV (n := 7) (k := 2) (b := 0) (i := 0) (As := []) (rest := []) dX7_audit_4 rfl lk_X7_377 rfl rfl (Nat.le_of_ble_eq_true rfl) ⟨Nat.le_of_ble_eq_true rfl, Nat.le_of_ble_eq_true rfl, Nat.le_of_ble_eq_true rfl, Nat.le_of_ble_eq_true rfl⟩ (zok_2 (by decide)) h (fun v μ1 h => ?_) (fun _ _ hp => False.elim hp)
  obtain ⟨r1, rfl, h⟩ := h
  refine v_norm (st' := [.int r1]) (cells' := 0) (slots' := 0) rfl rfl rfl ?_
  exact v_iret dX7_audit_7 rfl (Nat.le_of_ble_eq_true rfl) (Nat.le_of_ble_eq_true rfl) h

set_option maxRecDepth 20000 in
set_option maxHeartbeats 4000000 in
theorem wX7_busiest (G : Gl) {P : Option Value → St → Prop} {X : String → St → Prop}  (μ : St)
    (h : Con G mX0_liftWithMostRiders [.ref (zad G.1 2 0 0)] μ (fun v μ1 => ∃ r1 : Int32, v = some (.int r1) ∧ ((¬ r1 = (-1 : Int32) → P (some (.int r1)) μ1) ∧ (r1 = (-1 : Int32) → X "java/util/NoSuchElementException" μ1))) noX) :
    Con G mX7_busiest [.ref (zad G.1 9 0 0)] μ P X := by
  refine con_of pn_X7 rfl (Nat.le_of_ble_eq_true rfl) ?_
  show VL G mX7_busiest P X 0 [(0, .ref (zad G.1 9 0 0))] [] μ
  refine v_aload_n (n := 1) dX7_busiest_0 rfl rfl ?_
  refine v_getf (n := 4) dX7_busiest_1 rfl fl_X7_12 zokc_9 rfl ?_
  refine v_callV (n := 7) (k := 2) (b := 0) (i := 0) (As := []) (rest := []) dX7_busiest_4 rfl lk_X7_380 rfl rfl (Nat.le_of_ble_eq_true rfl) ⟨Nat.le_of_ble_eq_true rfl, Nat.le_of_ble_eq_true rfl, Nat.le_of_ble_eq_true rfl, Nat.le_of_ble_eq_true rfl⟩ (zok_2 (by decide)) h (fun v μ1 h => ?_) (fun _ _ hp => False.elim hp)
  obtain ⟨r1, rfl, h⟩ := h
  refine v_norm (st' := [.int r1]) (cells' := 0) (slots' := 0) rfl rfl rfl ?_
  refine v_istore_n (n := 8) (L' := [(0, .ref (zad G.1 9 0 0)), (1, .int r1)]) dX7_busiest_7 rfl (by decide) rfl ?_
  refine v_iload_n (n := 9) dX7_busiest_8 rfl rfl ?_
  refine v_iconst (n := 10) (x := (-1 : Int32)) dX7_busiest_9 rfl (by decide) ?_
  refine v_icmp_ne (n := 13) (t := 24) dX7_busiest_10 rfl (by decide) (fun hq => ?_) (fun hq => ?_)
  · replace h := h.1 hq
    refine v_iload_n (n := 25) dX7_busiest_24 rfl rfl ?_
    exact v_iret dX7_busiest_25 rfl (Nat.le_of_ble_eq_true rfl) (Nat.le_of_ble_eq_true rfl) h
  · replace h := h.2 hq
    exact v_throwNW lt_NoSuchElementException_383 rfl dX7_busiest_13 dX7_busiest_16 dX7_busiest_17 dX7_busiest_20 dX7_busiest_23 ⟨Nat.le_of_ble_eq_true rfl, Nat.le_of_ble_eq_true rfl, Nat.le_of_ble_eq_true rfl, Nat.le_of_ble_eq_true rfl⟩ (Nat.le_of_ble_eq_true rfl) (Nat.le_of_ble_eq_true rfl) h

set_option maxRecDepth 20000 in
set_option maxHeartbeats 4000000 in
theorem wX7_load (G : Gl) {P : Option Value → St → Prop} {X : String → St → Prop} (x1 : Int32) (μ : St)
    (h : μ 2 0 0 3 ≤ nI 6 ∧ ((idx x1 (μ 2 0 0 3) = false → X "java/lang/IndexOutOfBoundsException" μ) ∧ (∀ i1 : Nat, i1 < 6 → x1 = nI i1 → idx x1 (μ 2 0 0 3) = true → ((¬ μ 6 0 i1 9 = 0 → vf_n64 (FP.ddiv (FP.i2d (μ 6 0 i1 8)) (FP.i2d (μ 6 0 i1 9))) ∧ P (some (.double (FP.ddiv (FP.i2d (μ 6 0 i1 8)) (FP.i2d (μ 6 0 i1 9))))) μ) ∧ (μ 6 0 i1 9 = 0 → X "java/lang/ArithmeticException" μ))))) :
    Con G mX7_load [.ref (zad G.1 9 0 0), .int x1] μ P X := by
  refine con_of pn_X7 rfl (Nat.le_of_ble_eq_true rfl) ?_
  show VL G mX7_load P X 0 [(0, .ref (zad G.1 9 0 0)), (1, .int x1)] [] μ
  refine v_aload_n (n := 1) dX7_load_0 rfl rfl ?_
  refine v_getf (n := 4) dX7_load_1 rfl fl_X7_12 zokc_9 rfl ?_
  refine v_iload_n (n := 5) dX7_load_4 rfl rfl ?_
  obtain ⟨hf1, h⟩ := h
  refine v_callV (n := 8) (k := 2) (b := 0) (i := 0) (As := [.int x1]) (rest := []) dX7_load_5 rfl lk_X7_130 rfl rfl (Nat.le_of_ble_eq_true rfl) ⟨Nat.le_of_ble_eq_true rfl, Nat.le_of_ble_eq_true rfl, Nat.le_of_ble_eq_true rfl, Nat.le_of_ble_eq_true rfl⟩ (zok_2 (by decide)) (s_X0_liftAt G 0 (by decide) x1 μ hf1) (fun v μ9 hp => ?_) (fun _ _ hp => False.elim hp)
  rcases hp with ⟨hq, hv, hm⟩ | ⟨i1, hi1, hq, hq2, hv, hm⟩
  · replace h := h.1 hq
    rw [hv, hm]
    refine v_norm (st' := [.null]) (cells' := 0) (slots' := 0) rfl rfl rfl ?_
    refine v_astore_nN (n := 9) (L' := [(0, .ref (zad G.1 9 0 0)), (1, .int x1), (2, .null)]) dX7_load_8 rfl (by decide) rfl ?_
    refine v_aload_nN (n := 10) dX7_load_9 rfl rfl ?_
    refine v_ifnonnullN (n := 13) dX7_load_10 rfl ?_
    exact v_throw lt_IndexOutOfBoundsException_134 rfl dX7_load_13 dX7_load_16 dX7_load_17 dX7_load_19 dX7_load_22 ⟨Nat.le_of_ble_eq_true rfl, Nat.le_of_ble_eq_true rfl, Nat.le_of_ble_eq_true rfl, Nat.le_of_ble_eq_true rfl⟩ (Nat.le_of_ble_eq_true rfl) (Nat.le_of_ble_eq_true rfl) h
  · replace h := h.2 i1 hi1 hq hq2
    rw [hv, hm]
    refine v_norm (st' := [.ref (zad G.1 6 0 i1)]) (cells' := 0) (slots' := 0) rfl rfl rfl ?_
    refine v_astore_n (n := 9) (L' := [(0, .ref (zad G.1 9 0 0)), (1, .int x1), (2, .ref (zad G.1 6 0 i1))]) dX7_load_8 rfl (by decide) rfl ?_
    refine v_aload_n (n := 10) dX7_load_9 rfl rfl ?_
    refine v_ifnonnull (n := 23) dX7_load_10 (by decide) ?_
    refine v_aload_n (n := 24) dX7_load_23 rfl rfl ?_
    refine v_getf (n := 27) dX7_load_24 rfl fl_X7_358 (zok_6 (by decide) hi1) (rfl) ?_
    refine v_if_ne (n := 30) (t := 41) dX7_load_27 rfl (by decide) (fun hq => ?_) (fun hq => ?_)
    · replace h := h.1 hq
      refine v_aload_n (n := 42) dX7_load_41 rfl rfl ?_
      refine v_getf (n := 45) dX7_load_42 rfl fl_X7_355 (zok_6 (by decide) hi1) (rfl) ?_
      refine v_i2d (n := 46) dX7_load_45 rfl ?_
      refine v_aload_n (n := 47) dX7_load_46 rfl rfl ?_
      refine v_getf (n := 50) dX7_load_47 rfl fl_X7_358 (zok_6 (by decide) hi1) (rfl) ?_
      refine v_i2d (n := 51) dX7_load_50 rfl ?_
      obtain ⟨hf2, h⟩ := h
      refine v_ddiv (n := 52) dX7_load_51 rfl hf2 ?_
      exact v_dret dX7_load_52 rfl (Nat.le_of_ble_eq_true rfl) (Nat.le_of_ble_eq_true rfl) h
    · replace h := h.2 hq
      exact v_throwW lt_ArithmeticException_387 rfl dX7_load_30 dX7_load_33 dX7_load_34 dX7_load_37 dX7_load_40 ⟨Nat.le_of_ble_eq_true rfl, Nat.le_of_ble_eq_true rfl, Nat.le_of_ble_eq_true rfl, Nat.le_of_ble_eq_true rfl⟩ (Nat.le_of_ble_eq_true rfl) (Nat.le_of_ble_eq_true rfl) h

set_option maxRecDepth 20000 in
set_option maxHeartbeats 4000000 in
theorem wX7_append (G : Gl) {P : Option Value → St → Prop} {X : String → St → Prop} (x1 : Int32) (μ : St)
    (h : ((btw x1 (nI 32) (nI 126) = true → ((μ 5 0 0 1 < nI 60 → Con G mX3_put [.ref (zad G.1 5 0 0), .int x1] μ (fun v μ1 => ∃ r1 : Int32, v = some (.int r1) ∧ P (some (.int r1)) μ1) noX) ∧ (¬ μ 5 0 0 1 < nI 60 → X "java/lang/IllegalStateException" μ))) ∧ (btw x1 (nI 32) (nI 126) = false → X "java/lang/IllegalArgumentException" μ))) :
    Con G mX7_append [.ref (zad G.1 9 0 0), .int x1] μ P X := by
  refine con_of pn_X7 rfl (Nat.le_of_ble_eq_true rfl) ?_
  show VL G mX7_append P X 0 [(0, .ref (zad G.1 9 0 0)), (1, .int x1)] [] μ
  refine v_iload_n (n := 1) dX7_append_0 rfl rfl ?_
  refine v_bipush (n := 3) (x := nI 32) dX7_append_1 rfl (by decide) ?_
  refine v_bipush (n := 5) (x := nI 126) dX7_append_3 rfl (by decide) ?_
  refine v_callS (n := 8) (As := [.int x1, .int (nI 32), .int (nI 126)]) (rest := []) dX7_append_5 rfl lk_X7_74 rfl rfl (Nat.le_of_ble_eq_true rfl) ⟨Nat.le_of_ble_eq_true rfl, Nat.le_of_ble_eq_true rfl, Nat.le_of_ble_eq_true rfl, Nat.le_of_ble_eq_true rfl⟩ (s_X7_isBetween G x1 (nI 32) (nI 126) μ) (fun v μ9 hp => ?_) (fun _ _ hp => False.elim hp)
  rw [hp.1, hp.2]
  refine v_norm (st' := [.int (bI (btw x1 (nI 32) (nI 126)))]) (cells' := 0) (slots' := 0) rfl rfl rfl ?_
  refine v_if_ne (n := 11) (t := 22) dX7_append_8 rfl (by decide) (fun hq => ?_) (fun hq => ?_)
  · replace h := h.1 (bI_nf hq)
    refine v_aload_n (n := 23) dX7_append_22 rfl rfl ?_
    refine v_getf (n := 26) dX7_append_23 rfl fl_X7_32 zokc_9 rfl ?_
    refine v_getf (n := 29) dX7_append_26 rfl fl_X7_392 zokc_5 (rfl) ?_
    refine v_bipush (n := 31) (x := nI 60) dX7_append_29 rfl (by decide) ?_
    refine v_icmp_lt (n := 34) (t := 45) dX7_append_31 rfl (by decide) (fun hq => ?_) (fun hq => ?_)
    · replace h := h.1 hq
      refine v_aload_n (n := 46) dX7_append_45 rfl rfl ?_
      refine v_getf (n := 49) dX7_append_46 rfl fl_X7_32 zokc_9 rfl ?_
      refine v_iload_n (n := 50) dX7_append_49 rfl rfl ?_
      refine v_callV (n := 53) (k := 5) (b := 0) (i := 0) (As := [.int x1]) (rest := []) dX7_append_50 rfl lk_X7_395 rfl rfl (Nat.le_of_ble_eq_true rfl) ⟨Nat.le_of_ble_eq_true rfl, Nat.le_of_ble_eq_true rfl, Nat.le_of_ble_eq_true rfl, Nat.le_of_ble_eq_true rfl⟩ zokc_5 h (fun v μ1 h => ?_) (fun _ _ hp => False.elim hp)
      obtain ⟨r1, rfl, h⟩ := h
      refine v_norm (st' := [.int r1]) (cells' := 0) (slots' := 0) rfl rfl rfl ?_
      exact v_iret dX7_append_53 rfl (Nat.le_of_ble_eq_true rfl) (Nat.le_of_ble_eq_true rfl) h
    · replace h := h.2 hq
      exact v_throwW lt_IllegalStateException_393 rfl dX7_append_34 dX7_append_37 dX7_append_38 dX7_append_41 dX7_append_44 ⟨Nat.le_of_ble_eq_true rfl, Nat.le_of_ble_eq_true rfl, Nat.le_of_ble_eq_true rfl, Nat.le_of_ble_eq_true rfl⟩ (Nat.le_of_ble_eq_true rfl) (Nat.le_of_ble_eq_true rfl) h
  · replace h := h.2 (bI_f hq)
    exact v_throwW lt_IllegalArgumentException_390 rfl dX7_append_11 dX7_append_14 dX7_append_15 dX7_append_18 dX7_append_21 ⟨Nat.le_of_ble_eq_true rfl, Nat.le_of_ble_eq_true rfl, Nat.le_of_ble_eq_true rfl, Nat.le_of_ble_eq_true rfl⟩ (Nat.le_of_ble_eq_true rfl) (Nat.le_of_ble_eq_true rfl) h

set_option maxRecDepth 20000 in
set_option maxHeartbeats 4000000 in
theorem wX7_read (G : Gl) {P : Option Value → St → Prop} {X : String → St → Prop}  (μ : St)
    (h : Con G mX3_isText [.ref (zad G.1 5 0 0)] μ (fun v μ1 => ∃ r1 : Bool, v = some (.int (bI r1)) ∧ ((r1 = true → Con G mX0_copyFrom [.ref (zad G.1 2 1 0), .ref (zad G.1 2 0 0)] μ1 (fun v μ2 => v = none ∧ Con G mX7_doEntries [.ref (zad G.1 9 0 0), .int (μ1 5 0 0 3)] μ2 (fun v μ3 => ∃ r2 : Int32, v = some (.int r2) ∧ Con G mX3_becomeEmpty [.ref (zad G.1 5 0 0)] μ3 (fun v μ4 => v = none ∧ ((r2 = 0 → Con G mX2_remember [.ref (zad G.1 4 0 0), .ref (zad G.1 2 1 0)] μ4 (fun v μ5 => v = none ∧ P (some (.int (μ1 5 0 0 3))) μ5) noX) ∧ (¬ r2 = 0 → Con G mX0_copyFrom [.ref (zad G.1 2 0 0), .ref (zad G.1 2 1 0)] μ4 (fun v μ6 => v = none ∧ ((r2 = (-1 : Int32) → X "java/lang/IllegalStateException" μ6) ∧ (¬ r2 = (-1 : Int32) → X "java/lang/IllegalStateException" (up μ6 9 0 0 7 r2)))) noX))) noX) noX) noX) ∧ (r1 = false → Con G mX3_becomeEmpty [.ref (zad G.1 5 0 0)] (up μ1 9 0 0 8 (μ1 5 0 0 2)) (fun v μ7 => v = none ∧ X "java/lang/IllegalArgumentException" μ7) noX))) noX) :
    Con G mX7_read [.ref (zad G.1 9 0 0)] μ P X := by
  refine con_of pn_X7 rfl (Nat.le_of_ble_eq_true rfl) ?_
  show VL G mX7_read P X 0 [(0, .ref (zad G.1 9 0 0))] [] μ
  refine v_aload_n (n := 1) dX7_read_0 rfl rfl ?_
  refine v_getf (n := 4) dX7_read_1 rfl fl_X7_32 zokc_9 rfl ?_
  refine v_callV (n := 7) (k := 5) (b := 0) (i := 0) (As := []) (rest := []) dX7_read_4 rfl lk_X7_399 rfl rfl (Nat.le_of_ble_eq_true rfl) ⟨Nat.le_of_ble_eq_true rfl, Nat.le_of_ble_eq_true rfl, Nat.le_of_ble_eq_true rfl, Nat.le_of_ble_eq_true rfl⟩ zokc_5 h (fun v μ1 h => ?_) (fun _ _ hp => False.elim hp)
  obtain ⟨r1, rfl, h⟩ := h
  refine v_norm (st' := [.int (bI r1)]) (cells' := 0) (slots' := 0) rfl rfl rfl ?_
  refine v_if_ne (n := 10) (t := 39) dX7_read_7 rfl (by decide) (fun hq => ?_) (fun hq => ?_)
  · replace h := h.1 (bI_nf hq)
    refine v_aload_n (n := 40) dX7_read_39 rfl rfl ?_
    refine v_getf (n := 43) dX7_read_40 rfl fl_X7_32 zokc_9 rfl ?_
    refine v_getf (n := 46) dX7_read_43 rfl fl_X7_409 zokc_5 (rfl) ?_
    refine v_istore_n (n := 47) (L' := [(0, .ref (zad G.1 9 0 0)), (1, .int (μ1 5 0 0 3))]) dX7_read_46 rfl (by decide) rfl ?_
    refine v_aload_n (n := 48) dX7_read_47 rfl rfl ?_
    refine v_getf (n := 51) dX7_read_48 rfl fl_X7_16 zokc_9 rfl ?_
    refine v_aload_n (n := 52) dX7_read_51 rfl rfl ?_
    refine v_getf (n := 55) dX7_read_52 rfl fl_X7_12 zokc_9 rfl ?_
    refine v_callV (n := 58) (k := 2) (b := 1) (i := 0) (As := [.ref (zad G.1 2 0 0)]) (rest := []) dX7_read_55 rfl lk_X7_412 rfl rfl (Nat.le_of_ble_eq_true rfl) ⟨Nat.le_of_ble_eq_true rfl, Nat.le_of_ble_eq_true rfl, Nat.le_of_ble_eq_true rfl, Nat.le_of_ble_eq_true rfl⟩ (zok_2 (by decide)) h (fun v μ2 h => ?_) (fun _ _ hp => False.elim hp)
    obtain ⟨rfl, h⟩ := h
    refine v_norm (st' := []) (cells' := 0) (slots' := 0) rfl rfl rfl ?_
    refine v_aload_n (n := 59) dX7_read_58 rfl rfl ?_
    refine v_iload_n (n := 60) dX7_read_59 rfl rfl ?_
    refine v_callV (n := 63) (k := 9) (b := 0) (i := 0) (As := [.int (μ1 5 0 0 3)]) (rest := []) dX7_read_60 rfl lk_X7_415 rfl rfl (Nat.le_of_ble_eq_true rfl) ⟨Nat.le_of_ble_eq_true rfl, Nat.le_of_ble_eq_true rfl, Nat.le_of_ble_eq_true rfl, Nat.le_of_ble_eq_true rfl⟩ zokc_9 h (fun v μ3 h => ?_) (fun _ _ hp => False.elim hp)
    obtain ⟨r2, rfl, h⟩ := h
    refine v_norm (st' := [.int r2]) (cells' := 0) (slots' := 0) rfl rfl rfl ?_
    refine v_istore_n (n := 64) (L' := [(0, .ref (zad G.1 9 0 0)), (1, .int (μ1 5 0 0 3)), (2, .int r2)]) dX7_read_63 rfl (by decide) rfl ?_
    refine v_aload_n (n := 65) dX7_read_64 rfl rfl ?_
    refine v_getf (n := 68) dX7_read_65 rfl fl_X7_32 zokc_9 rfl ?_
    refine v_callV (n := 71) (k := 5) (b := 0) (i := 0) (As := []) (rest := []) dX7_read_68 rfl lk_X7_406 rfl rfl (Nat.le_of_ble_eq_true rfl) ⟨Nat.le_of_ble_eq_true rfl, Nat.le_of_ble_eq_true rfl, Nat.le_of_ble_eq_true rfl, Nat.le_of_ble_eq_true rfl⟩ zokc_5 h (fun v μ4 h => ?_) (fun _ _ hp => False.elim hp)
    obtain ⟨rfl, h⟩ := h
    refine v_norm (st' := []) (cells' := 0) (slots' := 0) rfl rfl rfl ?_
    refine v_iload_n (n := 72) dX7_read_71 rfl rfl ?_
    refine v_if_eq (n := 75) (t := 107) dX7_read_72 rfl (by decide) (fun hq => ?_) (fun hq => ?_)
    · replace h := h.1 hq
      refine v_aload_n (n := 108) dX7_read_107 rfl rfl ?_
      refine v_getf (n := 111) dX7_read_108 rfl fl_X7_25 zokc_9 rfl ?_
      refine v_aload_n (n := 112) dX7_read_111 rfl rfl ?_
      refine v_getf (n := 115) dX7_read_112 rfl fl_X7_16 zokc_9 rfl ?_
      refine v_callV (n := 118) (k := 4) (b := 0) (i := 0) (As := [.ref (zad G.1 2 1 0)]) (rest := []) dX7_read_115 rfl lk_X7_91 rfl rfl (Nat.le_of_ble_eq_true rfl) ⟨Nat.le_of_ble_eq_true rfl, Nat.le_of_ble_eq_true rfl, Nat.le_of_ble_eq_true rfl, Nat.le_of_ble_eq_true rfl⟩ zokc_4 h (fun v μ5 h => ?_) (fun _ _ hp => False.elim hp)
      obtain ⟨rfl, h⟩ := h
      refine v_norm (st' := []) (cells' := 0) (slots' := 0) rfl rfl rfl ?_
      refine v_iload_n (n := 119) dX7_read_118 rfl rfl ?_
      exact v_iret dX7_read_119 rfl (Nat.le_of_ble_eq_true rfl) (Nat.le_of_ble_eq_true rfl) h
    · replace h := h.2 hq
      refine v_aload_n (n := 76) dX7_read_75 rfl rfl ?_
      refine v_getf (n := 79) dX7_read_76 rfl fl_X7_12 zokc_9 rfl ?_
      refine v_aload_n (n := 80) dX7_read_79 rfl rfl ?_
      refine v_getf (n := 83) dX7_read_80 rfl fl_X7_16 zokc_9 rfl ?_
      refine v_callV (n := 86) (k := 2) (b := 0) (i := 0) (As := [.ref (zad G.1 2 1 0)]) (rest := []) dX7_read_83 rfl lk_X7_412 rfl rfl (Nat.le_of_ble_eq_true rfl) ⟨Nat.le_of_ble_eq_true rfl, Nat.le_of_ble_eq_true rfl, Nat.le_of_ble_eq_true rfl, Nat.le_of_ble_eq_true rfl⟩ (zok_2 (by decide)) h (fun v μ6 h => ?_) (fun _ _ hp => False.elim hp)
      obtain ⟨rfl, h⟩ := h
      refine v_norm (st' := []) (cells' := 0) (slots' := 0) rfl rfl rfl ?_
      refine v_iload_n (n := 87) dX7_read_86 rfl rfl ?_
      refine v_iconst (n := 88) (x := (-1 : Int32)) dX7_read_87 rfl (by decide) ?_
      refine v_icmp_eq (n := 91) (t := 96) dX7_read_88 rfl (by decide) (fun hq => ?_) (fun hq => ?_)
      · replace h := h.1 hq
        exact v_throwW lt_IllegalStateException_418 rfl dX7_read_96 dX7_read_99 dX7_read_100 dX7_read_103 dX7_read_106 ⟨Nat.le_of_ble_eq_true rfl, Nat.le_of_ble_eq_true rfl, Nat.le_of_ble_eq_true rfl, Nat.le_of_ble_eq_true rfl⟩ (Nat.le_of_ble_eq_true rfl) (Nat.le_of_ble_eq_true rfl) h
      · replace h := h.2 hq
        refine v_aload_n (n := 92) dX7_read_91 rfl rfl ?_
        refine v_iload_n (n := 93) dX7_read_92 rfl rfl ?_
        refine v_putf (n := 96) dX7_read_93 rfl fw_X7_47 zokc_9 (fun _ => rfl) rfl rfl ?_
        exact v_throwW lt_IllegalStateException_418 rfl dX7_read_96 dX7_read_99 dX7_read_100 dX7_read_103 dX7_read_106 ⟨Nat.le_of_ble_eq_true rfl, Nat.le_of_ble_eq_true rfl, Nat.le_of_ble_eq_true rfl, Nat.le_of_ble_eq_true rfl⟩ (Nat.le_of_ble_eq_true rfl) (Nat.le_of_ble_eq_true rfl) h
  · replace h := h.2 (bI_f hq)
    refine v_aload_n (n := 11) dX7_read_10 rfl rfl ?_
    refine v_aload_n (n := 12) dX7_read_11 rfl rfl ?_
    refine v_getf (n := 15) dX7_read_12 rfl fl_X7_32 zokc_9 rfl ?_
    refine v_getf (n := 18) dX7_read_15 rfl fl_X7_403 zokc_5 (rfl) ?_
    refine v_putf (n := 21) dX7_read_18 rfl fw_X7_51 zokc_9 (fun _ => rfl) rfl rfl ?_
    refine v_aload_n (n := 22) dX7_read_21 rfl rfl ?_
    refine v_getf (n := 25) dX7_read_22 rfl fl_X7_32 zokc_9 rfl ?_
    refine v_callV (n := 28) (k := 5) (b := 0) (i := 0) (As := []) (rest := []) dX7_read_25 rfl lk_X7_406 rfl rfl (Nat.le_of_ble_eq_true rfl) ⟨Nat.le_of_ble_eq_true rfl, Nat.le_of_ble_eq_true rfl, Nat.le_of_ble_eq_true rfl, Nat.le_of_ble_eq_true rfl⟩ zokc_5 h (fun v μ7 h => ?_) (fun _ _ hp => False.elim hp)
    obtain ⟨rfl, h⟩ := h
    refine v_norm (st' := []) (cells' := 0) (slots' := 0) rfl rfl rfl ?_
    exact v_throwW lt_IllegalArgumentException_407 rfl dX7_read_28 dX7_read_31 dX7_read_32 dX7_read_35 dX7_read_38 ⟨Nat.le_of_ble_eq_true rfl, Nat.le_of_ble_eq_true rfl, Nat.le_of_ble_eq_true rfl, Nat.le_of_ble_eq_true rfl⟩ (Nat.le_of_ble_eq_true rfl) (Nat.le_of_ble_eq_true rfl) h

set_option maxRecDepth 20000 in
set_option maxHeartbeats 4000000 in
theorem wX7_errorPosition (G : Gl) {P : Option Value → St → Prop} {X : String → St → Prop}  (μ : St)
    (h : ((¬ μ 9 0 0 8 = (-1 : Int32) → P (some (.int (μ 9 0 0 8))) μ) ∧ (μ 9 0 0 8 = (-1 : Int32) → X "java/util/NoSuchElementException" μ))) :
    Con G mX7_errorPosition [.ref (zad G.1 9 0 0)] μ P X := by
  refine con_of pn_X7 rfl (Nat.le_of_ble_eq_true rfl) ?_
  show VL G mX7_errorPosition P X 0 [(0, .ref (zad G.1 9 0 0))] [] μ
  refine v_aload_n (n := 1) dX7_errorPosition_0 rfl rfl ?_
  refine v_getf (n := 4) dX7_errorPosition_1 rfl fl_X7_51 zokc_9 (rfl) ?_
  refine v_iconst (n := 5) (x := (-1 : Int32)) dX7_errorPosition_4 rfl (by decide) ?_
  refine v_icmp_ne (n := 8) (t := 19) dX7_errorPosition_5 rfl (by decide) (fun hq => ?_) (fun hq => ?_)
  · replace h := h.1 hq
    refine v_aload_n (n := 20) dX7_errorPosition_19 rfl rfl ?_
    refine v_getf (n := 23) dX7_errorPosition_20 rfl fl_X7_51 zokc_9 (rfl) ?_
    exact v_iret dX7_errorPosition_23 rfl (Nat.le_of_ble_eq_true rfl) (Nat.le_of_ble_eq_true rfl) h
  · replace h := h.2 hq
    exact v_throwNW lt_NoSuchElementException_420 rfl dX7_errorPosition_8 dX7_errorPosition_11 dX7_errorPosition_12 dX7_errorPosition_15 dX7_errorPosition_18 ⟨Nat.le_of_ble_eq_true rfl, Nat.le_of_ble_eq_true rfl, Nat.le_of_ble_eq_true rfl, Nat.le_of_ble_eq_true rfl⟩ (Nat.le_of_ble_eq_true rfl) (Nat.le_of_ble_eq_true rfl) h

set_option maxRecDepth 20000 in
set_option maxHeartbeats 4000000 in
theorem wX7_undo (G : Gl) {P : Option Value → St → Prop} {X : String → St → Prop}  (μ : St)
    (h : ((0 < μ 4 0 0 2 → Con G mX2_takeBack [.ref (zad G.1 4 0 0), .ref (zad G.1 2 0 0)] μ (fun v μ1 => v = none ∧ P (some (.int (μ1 4 0 0 2))) μ1) noX) ∧ (¬ 0 < μ 4 0 0 2 → X "java/util/NoSuchElementException" μ))) :
    Con G mX7_undo [.ref (zad G.1 9 0 0)] μ P X := by
  refine con_of pn_X7 rfl (Nat.le_of_ble_eq_true rfl) ?_
  show VL G mX7_undo P X 0 [(0, .ref (zad G.1 9 0 0))] [] μ
  refine v_aload_n (n := 1) dX7_undo_0 rfl rfl ?_
  refine v_getf (n := 4) dX7_undo_1 rfl fl_X7_25 zokc_9 rfl ?_
  refine v_getf (n := 7) dX7_undo_4 rfl fl_X7_422 zokc_4 (rfl) ?_
  refine v_if_gt (n := 10) (t := 21) dX7_undo_7 rfl (by decide) (fun hq => ?_) (fun hq => ?_)
  · replace h := h.1 hq
    refine v_aload_n (n := 22) dX7_undo_21 rfl rfl ?_
    refine v_getf (n := 25) dX7_undo_22 rfl fl_X7_25 zokc_9 rfl ?_
    refine v_aload_n (n := 26) dX7_undo_25 rfl rfl ?_
    refine v_getf (n := 29) dX7_undo_26 rfl fl_X7_12 zokc_9 rfl ?_
    refine v_callV (n := 32) (k := 4) (b := 0) (i := 0) (As := [.ref (zad G.1 2 0 0)]) (rest := []) dX7_undo_29 rfl lk_X7_427 rfl rfl (Nat.le_of_ble_eq_true rfl) ⟨Nat.le_of_ble_eq_true rfl, Nat.le_of_ble_eq_true rfl, Nat.le_of_ble_eq_true rfl, Nat.le_of_ble_eq_true rfl⟩ zokc_4 h (fun v μ1 h => ?_) (fun _ _ hp => False.elim hp)
    obtain ⟨rfl, h⟩ := h
    refine v_norm (st' := []) (cells' := 0) (slots' := 0) rfl rfl rfl ?_
    refine v_aload_n (n := 33) dX7_undo_32 rfl rfl ?_
    refine v_getf (n := 36) dX7_undo_33 rfl fl_X7_25 zokc_9 rfl ?_
    refine v_getf (n := 39) dX7_undo_36 rfl fl_X7_422 zokc_4 (rfl) ?_
    exact v_iret dX7_undo_39 rfl (Nat.le_of_ble_eq_true rfl) (Nat.le_of_ble_eq_true rfl) h
  · replace h := h.2 hq
    exact v_throwNW lt_NoSuchElementException_425 rfl dX7_undo_10 dX7_undo_13 dX7_undo_14 dX7_undo_17 dX7_undo_20 ⟨Nat.le_of_ble_eq_true rfl, Nat.le_of_ble_eq_true rfl, Nat.le_of_ble_eq_true rfl, Nat.le_of_ble_eq_true rfl⟩ (Nat.le_of_ble_eq_true rfl) (Nat.le_of_ble_eq_true rfl) h

set_option maxRecDepth 20000 in
set_option maxHeartbeats 4000000 in
theorem wX7_save (G : Gl) {P : Option Value → St → Prop} {X : String → St → Prop}  (μ : St)
    (h : Con G mX0_copyFrom [.ref (zad G.1 2 2 0), .ref (zad G.1 2 0 0)] μ (fun v μ1 => v = none ∧ P (some (.int (μ1 2 0 0 5))) (up μ1 9 0 0 6 (nI 1))) noX) :
    Con G mX7_save [.ref (zad G.1 9 0 0)] μ P X := by
  refine con_of pn_X7 rfl (Nat.le_of_ble_eq_true rfl) ?_
  show VL G mX7_save P X 0 [(0, .ref (zad G.1 9 0 0))] [] μ
  refine v_aload_n (n := 1) dX7_save_0 rfl rfl ?_
  refine v_getf (n := 4) dX7_save_1 rfl fl_X7_19 zokc_9 rfl ?_
  refine v_aload_n (n := 5) dX7_save_4 rfl rfl ?_
  refine v_getf (n := 8) dX7_save_5 rfl fl_X7_12 zokc_9 rfl ?_
  refine v_callV (n := 11) (k := 2) (b := 2) (i := 0) (As := [.ref (zad G.1 2 0 0)]) (rest := []) dX7_save_8 rfl lk_X7_412 rfl rfl (Nat.le_of_ble_eq_true rfl) ⟨Nat.le_of_ble_eq_true rfl, Nat.le_of_ble_eq_true rfl, Nat.le_of_ble_eq_true rfl, Nat.le_of_ble_eq_true rfl⟩ (zok_2 (by decide)) h (fun v μ1 h => ?_) (fun _ _ hp => False.elim hp)
  obtain ⟨rfl, h⟩ := h
  refine v_norm (st' := []) (cells' := 0) (slots' := 0) rfl rfl rfl ?_
  refine v_aload_n (n := 12) dX7_save_11 rfl rfl ?_
  refine v_iconst (n := 13) (x := nI 1) dX7_save_12 rfl (by decide) ?_
  refine v_putf (n := 16) dX7_save_13 rfl fw_X7_43 zokc_9 (fun _ => rfl) (by decide) (by decide) ?_
  refine v_aload_n (n := 17) dX7_save_16 rfl rfl ?_
  refine v_getf (n := 20) dX7_save_17 rfl fl_X7_12 zokc_9 rfl ?_
  refine v_getf (n := 23) dX7_save_20 rfl fl_X7_54 (zok_2 (by decide)) (congrArg Value.int (up_k (by decide))) ?_
  exact v_iret dX7_save_23 rfl (Nat.le_of_ble_eq_true rfl) (Nat.le_of_ble_eq_true rfl) h

set_option maxRecDepth 20000 in
set_option maxHeartbeats 4000000 in
theorem wX7_restore (G : Gl) {P : Option Value → St → Prop} {X : String → St → Prop}  (μ : St)
    (h : ((¬ μ 9 0 0 6 = 0 → Con G mX0_copyFrom [.ref (zad G.1 2 0 0), .ref (zad G.1 2 2 0)] μ (fun v μ1 => v = none ∧ Con G mX2_forgetAll [.ref (zad G.1 4 0 0)] μ1 (fun v μ2 => v = none ∧ P (some (.int (μ2 2 0 0 5))) μ2) noX) noX) ∧ (μ 9 0 0 6 = 0 → X "java/lang/IllegalStateException" μ))) :
    Con G mX7_restore [.ref (zad G.1 9 0 0)] μ P X := by
  refine con_of pn_X7 rfl (Nat.le_of_ble_eq_true rfl) ?_
  show VL G mX7_restore P X 0 [(0, .ref (zad G.1 9 0 0))] [] μ
  refine v_aload_n (n := 1) dX7_restore_0 rfl rfl ?_
  refine v_getf (n := 4) dX7_restore_1 rfl fl_X7_43 zokc_9 (rfl) ?_
  refine v_if_ne (n := 7) (t := 18) dX7_restore_4 rfl (by decide) (fun hq => ?_) (fun hq => ?_)
  · replace h := h.1 hq
    refine v_aload_n (n := 19) dX7_restore_18 rfl rfl ?_
    refine v_getf (n := 22) dX7_restore_19 rfl fl_X7_12 zokc_9 rfl ?_
    refine v_aload_n (n := 23) dX7_restore_22 rfl rfl ?_
    refine v_getf (n := 26) dX7_restore_23 rfl fl_X7_19 zokc_9 rfl ?_
    refine v_callV (n := 29) (k := 2) (b := 0) (i := 0) (As := [.ref (zad G.1 2 2 0)]) (rest := []) dX7_restore_26 rfl lk_X7_412 rfl rfl (Nat.le_of_ble_eq_true rfl) ⟨Nat.le_of_ble_eq_true rfl, Nat.le_of_ble_eq_true rfl, Nat.le_of_ble_eq_true rfl, Nat.le_of_ble_eq_true rfl⟩ (zok_2 (by decide)) h (fun v μ1 h => ?_) (fun _ _ hp => False.elim hp)
    obtain ⟨rfl, h⟩ := h
    refine v_norm (st' := []) (cells' := 0) (slots' := 0) rfl rfl rfl ?_
    refine v_aload_n (n := 30) dX7_restore_29 rfl rfl ?_
    refine v_getf (n := 33) dX7_restore_30 rfl fl_X7_25 zokc_9 rfl ?_
    refine v_callV (n := 36) (k := 4) (b := 0) (i := 0) (As := []) (rest := []) dX7_restore_33 rfl lk_X7_60 rfl rfl (Nat.le_of_ble_eq_true rfl) ⟨Nat.le_of_ble_eq_true rfl, Nat.le_of_ble_eq_true rfl, Nat.le_of_ble_eq_true rfl, Nat.le_of_ble_eq_true rfl⟩ zokc_4 h (fun v μ2 h => ?_) (fun _ _ hp => False.elim hp)
    obtain ⟨rfl, h⟩ := h
    refine v_norm (st' := []) (cells' := 0) (slots' := 0) rfl rfl rfl ?_
    refine v_aload_n (n := 37) dX7_restore_36 rfl rfl ?_
    refine v_getf (n := 40) dX7_restore_37 rfl fl_X7_12 zokc_9 rfl ?_
    refine v_getf (n := 43) dX7_restore_40 rfl fl_X7_54 (zok_2 (by decide)) (rfl) ?_
    exact v_iret dX7_restore_43 rfl (Nat.le_of_ble_eq_true rfl) (Nat.le_of_ble_eq_true rfl) h
  · replace h := h.2 hq
    exact v_throwW lt_IllegalStateException_430 rfl dX7_restore_7 dX7_restore_10 dX7_restore_11 dX7_restore_14 dX7_restore_17 ⟨Nat.le_of_ble_eq_true rfl, Nat.le_of_ble_eq_true rfl, Nat.le_of_ble_eq_true rfl, Nat.le_of_ble_eq_true rfl⟩ (Nat.le_of_ble_eq_true rfl) (Nat.le_of_ble_eq_true rfl) h

set_option maxRecDepth 20000 in
set_option maxHeartbeats 4000000 in
theorem wX7_keepRefusal (G : Gl) {P : Option Value → St → Prop} {X : String → St → Prop} (g : Nat) (hg : g < 16) (x2 : Int32) (μ : St)
    (h : P none (up (up μ 9 0 0 7 x2) 3 0 g 10 ((μ 3 0 g 10) + (nI 1)))) :
    Con G mX7_keepRefusal [.ref (zad G.1 9 0 0), .ref (zad G.1 3 0 g), .int x2] μ P X := by
  refine con_of pn_X7 rfl (Nat.le_of_ble_eq_true rfl) ?_
  show VL G mX7_keepRefusal P X 0 [(0, .ref (zad G.1 9 0 0)), (1, .ref (zad G.1 3 0 g)), (2, .int x2)] [] μ
  refine v_aload_n (n := 1) dX7_keepRefusal_0 rfl rfl ?_
  refine v_iload_n (n := 2) dX7_keepRefusal_1 rfl rfl ?_
  refine v_putf (n := 5) dX7_keepRefusal_2 rfl fw_X7_47 zokc_9 (fun _ => rfl) rfl rfl ?_
  refine v_aload_n (n := 6) dX7_keepRefusal_5 rfl rfl ?_
  refine v_dup (n := 7) dX7_keepRefusal_6 rfl rfl ?_
  refine v_getf (n := 10) dX7_keepRefusal_7 rfl fl_X7_369 (zok_3 (by decide) hg) (congrArg Value.int (up_k (by decide))) ?_
  refine v_iconst (n := 11) (x := nI 1) dX7_keepRefusal_10 rfl (by decide) ?_
  refine v_iadd (n := 12) dX7_keepRefusal_11 rfl ?_
  refine v_putf (n := 15) dX7_keepRefusal_12 rfl fw_X7_369 (zok_3 (by decide) hg) (fun _ => rfl) rfl rfl ?_
  exact v_vret dX7_keepRefusal_15 rfl (Nat.le_of_ble_eq_true rfl) (Nat.le_of_ble_eq_true rfl) h

set_option maxRecDepth 20000 in
set_option maxHeartbeats 4000000 in
theorem wX7_doEntries (G : Gl) {P : Option Value → St → Prop} {X : String → St → Prop} (x1 : Int32) (μ : St)
    (h : VL G mX7_doEntries P X 10 [(0, .ref (zad G.1 9 0 0)), (1, .int x1), (2, .int (nI 0))] [] (up μ 5 0 0 2 (nI 0))) :
    Con G mX7_doEntries [.ref (zad G.1 9 0 0), .int x1] μ P X := by
  refine con_of pn_X7 rfl (Nat.le_of_ble_eq_true rfl) ?_
  show VL G mX7_doEntries P X 0 [(0, .ref (zad G.1 9 0 0)), (1, .int x1)] [] μ
  refine v_aload_n (n := 1) dX7_doEntries_0 rfl rfl ?_
  refine v_getf (n := 4) dX7_doEntries_1 rfl fl_X7_32 zokc_9 rfl ?_
  refine v_iconst (n := 5) (x := nI 0) dX7_doEntries_4 rfl (by decide) ?_
  refine v_putf (n := 8) dX7_doEntries_5 rfl fw_X7_403 zokc_5 (fun _ => rfl) rfl rfl ?_
  refine v_iconst (n := 9) (x := nI 0) dX7_doEntries_8 rfl (by decide) ?_
  refine v_istore_n (n := 10) (L' := [(0, .ref (zad G.1 9 0 0)), (1, .int x1), (2, .int (nI 0))]) dX7_doEntries_9 rfl (by decide) rfl ?_
  exact h

set_option maxRecDepth 20000 in
set_option maxHeartbeats 4000000 in
theorem wX7_doEntries_10 (G : Gl) {P : Option Value → St → Prop} {X : String → St → Prop} (x1 : Int32) (i : Nat) (μ : St)
    (h : ((x1 ≤ nI i → P (some (.int (nI 0))) μ) ∧ (¬ x1 ≤ nI i → Con G mX3_takeEntry [.ref (zad G.1 5 0 0)] μ (fun v μ1 => ∃ r1 : Bool, v = some (.int (bI r1)) ∧ ((r1 = true → Con G mX7_doEntry [.ref (zad G.1 9 0 0), .int (μ1 5 0 0 4), .int (μ1 5 0 0 5), .int (μ1 5 0 0 6)] μ1 (fun v μ2 => ∃ r2 : Int32, v = some (.int r2) ∧ ((r2 = 0 → VL G mX7_doEntries P X 10 [(0, .ref (zad G.1 9 0 0)), (1, .int x1), (2, .int (nI (i + 1)))] [] μ2) ∧ (¬ r2 = 0 → P (some (.int r2)) μ2))) noX) ∧ (r1 = false → P (some (.int (-1 : Int32))) μ1))) noX))) :
    VL G mX7_doEntries P X 10 [(0, .ref (zad G.1 9 0 0)), (1, .int x1), (2, .int (nI i))] [] μ := by
  refine v_iload_n (n := 11) dX7_doEntries_10 rfl rfl ?_
  refine v_iload_n (n := 12) dX7_doEntries_11 rfl rfl ?_
  refine v_icmp_ge (n := 15) (t := 65) dX7_doEntries_12 rfl (by decide) (fun hq => ?_) (fun hq => ?_)
  · replace h := h.1 hq
    refine v_iconst (n := 66) (x := nI 0) dX7_doEntries_65 rfl (by decide) ?_
    exact v_iret dX7_doEntries_66 rfl (Nat.le_of_ble_eq_true rfl) (Nat.le_of_ble_eq_true rfl) h
  · replace h := h.2 hq
    refine v_aload_n (n := 16) dX7_doEntries_15 rfl rfl ?_
    refine v_getf (n := 19) dX7_doEntries_16 rfl fl_X7_32 zokc_9 rfl ?_
    refine v_callV (n := 22) (k := 5) (b := 0) (i := 0) (As := []) (rest := []) dX7_doEntries_19 rfl lk_X7_432 rfl rfl (Nat.le_of_ble_eq_true rfl) ⟨Nat.le_of_ble_eq_true rfl, Nat.le_of_ble_eq_true rfl, Nat.le_of_ble_eq_true rfl, Nat.le_of_ble_eq_true rfl⟩ zokc_5 h (fun v μ1 h => ?_) (fun _ _ hp => False.elim hp)
    obtain ⟨r1, rfl, h⟩ := h
    refine v_norm (st' := [.int (bI r1)]) (cells' := 0) (slots' := 0) rfl rfl rfl ?_
    refine v_if_ne (n := 25) (t := 27) dX7_doEntries_22 rfl (by decide) (fun hq => ?_) (fun hq => ?_)
    · replace h := h.1 (bI_nf hq)
      refine v_aload_n (n := 28) dX7_doEntries_27 rfl rfl ?_
      refine v_aload_n (n := 29) dX7_doEntries_28 rfl rfl ?_
      refine v_getf (n := 32) dX7_doEntries_29 rfl fl_X7_32 zokc_9 rfl ?_
      refine v_getf (n := 35) dX7_doEntries_32 rfl fl_X7_435 zokc_5 (rfl) ?_
      refine v_aload_n (n := 36) dX7_doEntries_35 rfl rfl ?_
      refine v_getf (n := 39) dX7_doEntries_36 rfl fl_X7_32 zokc_9 rfl ?_
      refine v_getf (n := 42) dX7_doEntries_39 rfl fl_X7_438 zokc_5 (rfl) ?_
      refine v_aload_n (n := 43) dX7_doEntries_42 rfl rfl ?_
      refine v_getf (n := 46) dX7_doEntries_43 rfl fl_X7_32 zokc_9 rfl ?_
      refine v_getf (n := 49) dX7_doEntries_46 rfl fl_X7_441 zokc_5 (rfl) ?_
      refine v_callV (n := 52) (k := 9) (b := 0) (i := 0) (As := [.int (μ1 5 0 0 4), .int (μ1 5 0 0 5), .int (μ1 5 0 0 6)]) (rest := []) dX7_doEntries_49 rfl lk_X7_444 rfl rfl (Nat.le_of_ble_eq_true rfl) ⟨Nat.le_of_ble_eq_true rfl, Nat.le_of_ble_eq_true rfl, Nat.le_of_ble_eq_true rfl, Nat.le_of_ble_eq_true rfl⟩ zokc_9 h (fun v μ2 h => ?_) (fun _ _ hp => False.elim hp)
      obtain ⟨r2, rfl, h⟩ := h
      refine v_norm (st' := [.int r2]) (cells' := 0) (slots' := 0) rfl rfl rfl ?_
      refine v_istore_n (n := 53) (L' := [(0, .ref (zad G.1 9 0 0)), (1, .int x1), (2, .int (nI i)), (3, .int r2)]) dX7_doEntries_52 rfl (by decide) rfl ?_
      refine v_iload_n (n := 54) dX7_doEntries_53 rfl rfl ?_
      refine v_if_eq (n := 57) (t := 59) dX7_doEntries_54 rfl (by decide) (fun hq => ?_) (fun hq => ?_)
      · replace h := h.1 hq
        refine v_iinc (n := 62) (x := nI i) (y := nI (i + 1)) (L' := [(0, .ref (zad G.1 9 0 0)), (1, .int x1), (2, .int (nI (i + 1))), (3, .int r2)]) dX7_doEntries_59 rfl rfl (nI_1 i) (by decide) rfl ?_
        refine v_goto (n := 10) dX7_doEntries_62 (by decide) ?_
        exact v_pick [0, 1, 2] rfl h
      · replace h := h.2 hq
        refine v_iload_n (n := 58) dX7_doEntries_57 rfl rfl ?_
        exact v_iret dX7_doEntries_58 rfl (Nat.le_of_ble_eq_true rfl) (Nat.le_of_ble_eq_true rfl) h
    · replace h := h.2 (bI_f hq)
      refine v_iconst (n := 26) (x := (-1 : Int32)) dX7_doEntries_25 rfl (by decide) ?_
      exact v_iret dX7_doEntries_26 rfl (Nat.le_of_ble_eq_true rfl) (Nat.le_of_ble_eq_true rfl) h

set_option maxRecDepth 20000 in
set_option maxHeartbeats 4000000 in
theorem wX7_doEntry (G : Gl) {P : Option Value → St → Prop} {X : String → St → Prop} (x1 : Int32) (x2 : Int32) (x3 : Int32) (μ : St)
    (h : ((x1 = nI 103 → Con G mX7_addGuestByText [.ref (zad G.1 9 0 0), .int x2, .int x3] μ (fun v μ1 => ∃ r1 : Int32, v = some (.int r1) ∧ P (some (.int r1)) μ1) noX) ∧ (¬ x1 = nI 103 → ((x1 = nI 113 → Con G mX7_queueByText [.ref (zad G.1 9 0 0), .int x2, .int x3] μ (fun v μ2 => ∃ r2 : Int32, v = some (.int r2) ∧ P (some (.int r2)) μ2) noX) ∧ (¬ x1 = nI 113 → ((x1 = nI 115 → Con G mX7_skiByText [.ref (zad G.1 9 0 0), .int x2, .int x3] μ (fun v μ3 => ∃ r3 : Int32, v = some (.int r3) ∧ P (some (.int r3)) μ3) noX) ∧ (¬ x1 = nI 115 → ((x1 = nI 116 → (((μ 2 0 0 7) + x2 ≤ nI 1000 → Con G mX0_passTicks [.ref (zad G.1 2 0 0), .int x2] μ (fun v μ4 => ∃ r4 : Int32, v = some (.int r4) ∧ P (some (.int (nI 0))) μ4) noX) ∧ (¬ (μ 2 0 0 7) + x2 ≤ nI 1000 → P (some (.int (-1 : Int32))) μ))) ∧ (¬ x1 = nI 116 → ((x1 = nI 119 → P (some (.int (nI 0))) (up μ 2 0 0 6 x2)) ∧ (¬ x1 = nI 119 → P (some (.int (-1 : Int32))) μ))))))))))) :
    Con G mX7_doEntry [.ref (zad G.1 9 0 0), .int x1, .int x2, .int x3] μ P X := by
  refine con_of pn_X7 rfl (Nat.le_of_ble_eq_true rfl) ?_
  show VL G mX7_doEntry P X 0 [(0, .ref (zad G.1 9 0 0)), (1, .int x1), (2, .int x2), (3, .int x3)] [] μ
  refine v_iload_n (n := 1) dX7_doEntry_0 rfl rfl ?_
  by_cases hs0 : x1 = nI 103
  · replace h := h.1 hs0
    have hx : (x1).toInt = 103 := by rw [hs0]; rfl
    refine v_lookup (n := 52) (off := 51) dX7_doEntry_1 (by decide) (by rw [hx]; rfl) (by decide) ?_
    refine v_aload_n (n := 53) dX7_doEntry_52 rfl rfl ?_
    refine v_iload_n (n := 54) dX7_doEntry_53 rfl rfl ?_
    refine v_iload_n (n := 55) dX7_doEntry_54 rfl rfl ?_
    refine v_callV (n := 58) (k := 9) (b := 0) (i := 0) (As := [.int x2, .int x3]) (rest := []) dX7_doEntry_55 rfl lk_X7_448 rfl rfl (Nat.le_of_ble_eq_true rfl) ⟨Nat.le_of_ble_eq_true rfl, Nat.le_of_ble_eq_true rfl, Nat.le_of_ble_eq_true rfl, Nat.le_of_ble_eq_true rfl⟩ zokc_9 h (fun v μ1 h => ?_) (fun _ _ hp => False.elim hp)
    obtain ⟨r1, rfl, h⟩ := h
    refine v_norm (st' := [.int r1]) (cells' := 0) (slots' := 0) rfl rfl rfl ?_
    exact v_iret dX7_doEntry_58 rfl (Nat.le_of_ble_eq_true rfl) (Nat.le_of_ble_eq_true rfl) h
  replace h := h.2 hs0
  by_cases hs1 : x1 = nI 113
  · replace h := h.1 hs1
    have hx : (x1).toInt = 113 := by rw [hs1]; rfl
    refine v_lookup (n := 59) (off := 58) dX7_doEntry_1 (by decide) (by rw [hx]; rfl) (by decide) ?_
    refine v_aload_n (n := 60) dX7_doEntry_59 rfl rfl ?_
    refine v_iload_n (n := 61) dX7_doEntry_60 rfl rfl ?_
    refine v_iload_n (n := 62) dX7_doEntry_61 rfl rfl ?_
    refine v_callV (n := 65) (k := 9) (b := 0) (i := 0) (As := [.int x2, .int x3]) (rest := []) dX7_doEntry_62 rfl lk_X7_451 rfl rfl (Nat.le_of_ble_eq_true rfl) ⟨Nat.le_of_ble_eq_true rfl, Nat.le_of_ble_eq_true rfl, Nat.le_of_ble_eq_true rfl, Nat.le_of_ble_eq_true rfl⟩ zokc_9 h (fun v μ2 h => ?_) (fun _ _ hp => False.elim hp)
    obtain ⟨r2, rfl, h⟩ := h
    refine v_norm (st' := [.int r2]) (cells' := 0) (slots' := 0) rfl rfl rfl ?_
    exact v_iret dX7_doEntry_65 rfl (Nat.le_of_ble_eq_true rfl) (Nat.le_of_ble_eq_true rfl) h
  replace h := h.2 hs1
  by_cases hs2 : x1 = nI 115
  · replace h := h.1 hs2
    have hx : (x1).toInt = 115 := by rw [hs2]; rfl
    refine v_lookup (n := 66) (off := 65) dX7_doEntry_1 (by decide) (by rw [hx]; rfl) (by decide) ?_
    refine v_aload_n (n := 67) dX7_doEntry_66 rfl rfl ?_
    refine v_iload_n (n := 68) dX7_doEntry_67 rfl rfl ?_
    refine v_iload_n (n := 69) dX7_doEntry_68 rfl rfl ?_
    refine v_callV (n := 72) (k := 9) (b := 0) (i := 0) (As := [.int x2, .int x3]) (rest := []) dX7_doEntry_69 rfl lk_X7_454 rfl rfl (Nat.le_of_ble_eq_true rfl) ⟨Nat.le_of_ble_eq_true rfl, Nat.le_of_ble_eq_true rfl, Nat.le_of_ble_eq_true rfl, Nat.le_of_ble_eq_true rfl⟩ zokc_9 h (fun v μ3 h => ?_) (fun _ _ hp => False.elim hp)
    obtain ⟨r3, rfl, h⟩ := h
    refine v_norm (st' := [.int r3]) (cells' := 0) (slots' := 0) rfl rfl rfl ?_
    exact v_iret dX7_doEntry_72 rfl (Nat.le_of_ble_eq_true rfl) (Nat.le_of_ble_eq_true rfl) h
  replace h := h.2 hs2
  by_cases hs3 : x1 = nI 116
  · replace h := h.1 hs3
    have hx : (x1).toInt = 116 := by rw [hs3]; rfl
    refine v_lookup (n := 73) (off := 72) dX7_doEntry_1 (by decide) (by rw [hx]; rfl) (by decide) ?_
    refine v_aload_n (n := 74) dX7_doEntry_73 rfl rfl ?_
    refine v_getf (n := 77) dX7_doEntry_74 rfl fl_X7_12 zokc_9 rfl ?_
    refine v_getf (n := 80) dX7_doEntry_77 rfl fl_X7_203 (zok_2 (by decide)) (rfl) ?_
    refine v_iload_n (n := 81) dX7_doEntry_80 rfl rfl ?_
    refine v_iadd (n := 82) dX7_doEntry_81 rfl ?_
    refine v_sipush (n := 85) (x := nI 1000) dX7_doEntry_82 rfl (by decide) ?_
    refine v_icmp_le (n := 88) (t := 90) dX7_doEntry_85 rfl (by decide) (fun hq => ?_) (fun hq => ?_)
    · replace h := h.1 hq
      refine v_aload_n (n := 91) dX7_doEntry_90 rfl rfl ?_
      refine v_getf (n := 94) dX7_doEntry_91 rfl fl_X7_12 zokc_9 rfl ?_
      refine v_iload_n (n := 95) dX7_doEntry_94 rfl rfl ?_
      refine v_callV (n := 98) (k := 2) (b := 0) (i := 0) (As := [.int x2]) (rest := []) dX7_doEntry_95 rfl lk_X7_312 rfl rfl (Nat.le_of_ble_eq_true rfl) ⟨Nat.le_of_ble_eq_true rfl, Nat.le_of_ble_eq_true rfl, Nat.le_of_ble_eq_true rfl, Nat.le_of_ble_eq_true rfl⟩ (zok_2 (by decide)) h (fun v μ4 h => ?_) (fun _ _ hp => False.elim hp)
      obtain ⟨r4, rfl, h⟩ := h
      refine v_norm (st' := [.int r4]) (cells' := 0) (slots' := 0) rfl rfl rfl ?_
      refine v_pop (n := 99) dX7_doEntry_98 rfl rfl ?_
      refine v_iconst (n := 100) (x := nI 0) dX7_doEntry_99 rfl (by decide) ?_
      exact v_iret dX7_doEntry_100 rfl (Nat.le_of_ble_eq_true rfl) (Nat.le_of_ble_eq_true rfl) h
    · replace h := h.2 hq
      refine v_iconst (n := 89) (x := (-1 : Int32)) dX7_doEntry_88 rfl (by decide) ?_
      exact v_iret dX7_doEntry_89 rfl (Nat.le_of_ble_eq_true rfl) (Nat.le_of_ble_eq_true rfl) h
  replace h := h.2 hs3
  by_cases hs4 : x1 = nI 119
  · replace h := h.1 hs4
    have hx : (x1).toInt = 119 := by rw [hs4]; rfl
    refine v_lookup (n := 101) (off := 100) dX7_doEntry_1 (by decide) (by rw [hx]; rfl) (by decide) ?_
    refine v_aload_n (n := 102) dX7_doEntry_101 rfl rfl ?_
    refine v_getf (n := 105) dX7_doEntry_102 rfl fl_X7_12 zokc_9 rfl ?_
    refine v_iload_n (n := 106) dX7_doEntry_105 rfl rfl ?_
    refine v_putf (n := 109) dX7_doEntry_106 rfl fw_X7_123 (zok_2 (by decide)) (fun _ => rfl) rfl rfl ?_
    refine v_iconst (n := 110) (x := nI 0) dX7_doEntry_109 rfl (by decide) ?_
    exact v_iret dX7_doEntry_110 rfl (Nat.le_of_ble_eq_true rfl) (Nat.le_of_ble_eq_true rfl) h
  replace h := h.2 hs4
  refine v_lookup (n := 111) (off := 110) dX7_doEntry_1 (by decide) (by show Op.lookupswitch.offset [(103, 51), (113, 58), (115, 65), (116, 72), (119, 100)] 110 _ = _; rw [Op.lookupswitch.offset_cons, if_neg (fun e => lsw_ne hs0 (by decide) e.symm), Op.lookupswitch.offset_cons, if_neg (fun e => lsw_ne hs1 (by decide) e.symm), Op.lookupswitch.offset_cons, if_neg (fun e => lsw_ne hs2 (by decide) e.symm), Op.lookupswitch.offset_cons, if_neg (fun e => lsw_ne hs3 (by decide) e.symm), Op.lookupswitch.offset_cons, if_neg (fun e => lsw_ne hs4 (by decide) e.symm)]; rfl) (by decide) ?_
  refine v_iconst (n := 112) (x := (-1 : Int32)) dX7_doEntry_111 rfl (by decide) ?_
  exact v_iret dX7_doEntry_112 rfl (Nat.le_of_ble_eq_true rfl) (Nat.le_of_ble_eq_true rfl) h

set_option maxRecDepth 20000 in
set_option maxHeartbeats 4000000 in
theorem wX7_addGuestByText (G : Gl) {P : Option Value → St → Prop} {X : String → St → Prop} (x1 : Int32) (x2 : Int32) (μ : St)
    (h : ((μ 2 0 0 5 < nI 16 → Con G mX0_welcome [.ref (zad G.1 2 0 0), .int x1, .int x2, .int (nI 15), .int (μ 2 0 0 8), .int (μ 2 0 0 8)] μ (fun v μ1 => ∃ r1 : Int32, v = some (.int r1) ∧ P (some (.int (nI 0))) μ1) noX) ∧ (¬ μ 2 0 0 5 < nI 16 → P (some (.int (-1 : Int32))) μ))) :
    Con G mX7_addGuestByText [.ref (zad G.1 9 0 0), .int x1, .int x2] μ P X := by
  refine con_of pn_X7 rfl (Nat.le_of_ble_eq_true rfl) ?_
  show VL G mX7_addGuestByText P X 0 [(0, .ref (zad G.1 9 0 0)), (1, .int x1), (2, .int x2)] [] μ
  refine v_aload_n (n := 1) dX7_addGuestByText_0 rfl rfl ?_
  refine v_getf (n := 4) dX7_addGuestByText_1 rfl fl_X7_12 zokc_9 rfl ?_
  refine v_getf (n := 7) dX7_addGuestByText_4 rfl fl_X7_54 (zok_2 (by decide)) (rfl) ?_
  refine v_bipush (n := 9) (x := nI 16) dX7_addGuestByText_7 rfl (by decide) ?_
  refine v_icmp_lt (n := 12) (t := 14) dX7_addGuestByText_9 rfl (by decide) (fun hq => ?_) (fun hq => ?_)
  · replace h := h.1 hq
    refine v_aload_n (n := 15) dX7_addGuestByText_14 rfl rfl ?_
    refine v_getf (n := 18) dX7_addGuestByText_15 rfl fl_X7_12 zokc_9 rfl ?_
    refine v_iload_n (n := 19) dX7_addGuestByText_18 rfl rfl ?_
    refine v_iload_n (n := 20) dX7_addGuestByText_19 rfl rfl ?_
    refine v_bipush (n := 22) (x := nI 15) dX7_addGuestByText_20 rfl (by decide) ?_
    refine v_aload_n (n := 23) dX7_addGuestByText_22 rfl rfl ?_
    refine v_getf (n := 26) dX7_addGuestByText_23 rfl fl_X7_12 zokc_9 rfl ?_
    refine v_getf (n := 29) dX7_addGuestByText_26 rfl fl_X7_206 (zok_2 (by decide)) (rfl) ?_
    refine v_aload_n (n := 30) dX7_addGuestByText_29 rfl rfl ?_
    refine v_getf (n := 33) dX7_addGuestByText_30 rfl fl_X7_12 zokc_9 rfl ?_
    refine v_getf (n := 36) dX7_addGuestByText_33 rfl fl_X7_206 (zok_2 (by decide)) (rfl) ?_
    refine v_callV (n := 39) (k := 2) (b := 0) (i := 0) (As := [.int x1, .int x2, .int (nI 15), .int (μ 2 0 0 8), .int (μ 2 0 0 8)]) (rest := []) dX7_addGuestByText_36 rfl lk_X7_222 rfl rfl (Nat.le_of_ble_eq_true rfl) ⟨Nat.le_of_ble_eq_true rfl, Nat.le_of_ble_eq_true rfl, Nat.le_of_ble_eq_true rfl, Nat.le_of_ble_eq_true rfl⟩ (zok_2 (by decide)) h (fun v μ1 h => ?_) (fun _ _ hp => False.elim hp)
    obtain ⟨r1, rfl, h⟩ := h
    refine v_norm (st' := [.int r1]) (cells' := 0) (slots' := 0) rfl rfl rfl ?_
    refine v_pop (n := 40) dX7_addGuestByText_39 rfl rfl ?_
    refine v_iconst (n := 41) (x := nI 0) dX7_addGuestByText_40 rfl (by decide) ?_
    exact v_iret dX7_addGuestByText_41 rfl (Nat.le_of_ble_eq_true rfl) (Nat.le_of_ble_eq_true rfl) h
  · replace h := h.2 hq
    refine v_iconst (n := 13) (x := (-1 : Int32)) dX7_addGuestByText_12 rfl (by decide) ?_
    exact v_iret dX7_addGuestByText_13 rfl (Nat.le_of_ble_eq_true rfl) (Nat.le_of_ble_eq_true rfl) h

set_option maxRecDepth 20000 in
set_option maxHeartbeats 4000000 in
theorem wX7_queueByText (G : Gl) {P : Option Value → St → Prop} {X : String → St → Prop} (x1 : Int32) (x2 : Int32) (μ : St)
    (h : μ 2 0 0 5 ≤ nI 16 ∧ ((idx x1 (μ 2 0 0 5) = false → μ 2 0 0 3 ≤ nI 6 ∧ ((idx x2 (μ 2 0 0 3) = false → P (some (.int (-1 : Int32))) μ) ∧ (∀ i2 : Nat, i2 < 6 → x2 = nI i2 → idx x2 (μ 2 0 0 3) = true → P (some (.int (-1 : Int32))) μ))) ∧ (∀ i1 : Nat, i1 < 16 → x1 = nI i1 → idx x1 (μ 2 0 0 5) = true → μ 2 0 0 3 ≤ nI 6 ∧ ((idx x2 (μ 2 0 0 3) = false → P (some (.int (-1 : Int32))) μ) ∧ (∀ i3 : Nat, i3 < 6 → x2 = nI i3 → idx x2 (μ 2 0 0 3) = true → Con G mX0_queueRefusal [.ref (zad G.1 2 0 0), .ref (zad G.1 3 0 i1), .ref (zad G.1 6 0 i3), .int x2] μ (fun v μ1 => ∃ r1 : Int32, v = some (.int r1) ∧ ((r1 = 0 → Con G mX0_joinQueue [.ref (zad G.1 2 0 0), .ref (zad G.1 3 0 i1), .int x2] μ1 (fun v μ2 => ∃ r2 : Int32, v = some (.int r2) ∧ P (some (.int (nI 0))) μ2) noX) ∧ (¬ r1 = 0 → P (some (.int r1)) μ1))) noX))))) :
    Con G mX7_queueByText [.ref (zad G.1 9 0 0), .int x1, .int x2] μ P X := by
  refine con_of pn_X7 rfl (Nat.le_of_ble_eq_true rfl) ?_
  show VL G mX7_queueByText P X 0 [(0, .ref (zad G.1 9 0 0)), (1, .int x1), (2, .int x2)] [] μ
  refine v_aload_n (n := 1) dX7_queueByText_0 rfl rfl ?_
  refine v_getf (n := 4) dX7_queueByText_1 rfl fl_X7_12 zokc_9 rfl ?_
  refine v_iload_n (n := 5) dX7_queueByText_4 rfl rfl ?_
  obtain ⟨hf1, h⟩ := h
  refine v_callV (n := 8) (k := 2) (b := 0) (i := 0) (As := [.int x1]) (rest := []) dX7_queueByText_5 rfl lk_X7_226 rfl rfl (Nat.le_of_ble_eq_true rfl) ⟨Nat.le_of_ble_eq_true rfl, Nat.le_of_ble_eq_true rfl, Nat.le_of_ble_eq_true rfl, Nat.le_of_ble_eq_true rfl⟩ (zok_2 (by decide)) (s_X0_guestAt G 0 (by decide) x1 μ hf1) (fun v μ9 hp => ?_) (fun _ _ hp => False.elim hp)
  rcases hp with ⟨hq, hv, hm⟩ | ⟨i1, hi1, hq, hq2, hv, hm⟩
  · replace h := h.1 hq
    rw [hv, hm]
    refine v_norm (st' := [.null]) (cells' := 0) (slots' := 0) rfl rfl rfl ?_
    refine v_astore_nN (n := 9) (L' := [(0, .ref (zad G.1 9 0 0)), (1, .int x1), (2, .int x2), (3, .null)]) dX7_queueByText_8 rfl (by decide) rfl ?_
    refine v_aload_n (n := 10) dX7_queueByText_9 rfl rfl ?_
    refine v_getf (n := 13) dX7_queueByText_10 rfl fl_X7_12 zokc_9 rfl ?_
    refine v_iload_n (n := 14) dX7_queueByText_13 rfl rfl ?_
    obtain ⟨hf2, h⟩ := h
    refine v_callV (n := 17) (k := 2) (b := 0) (i := 0) (As := [.int x2]) (rest := []) dX7_queueByText_14 rfl lk_X7_130 rfl rfl (Nat.le_of_ble_eq_true rfl) ⟨Nat.le_of_ble_eq_true rfl, Nat.le_of_ble_eq_true rfl, Nat.le_of_ble_eq_true rfl, Nat.le_of_ble_eq_true rfl⟩ (zok_2 (by decide)) (s_X0_liftAt G 0 (by decide) x2 μ hf2) (fun v μ9 hp => ?_) (fun _ _ hp => False.elim hp)
    rcases hp with ⟨hq, hv, hm⟩ | ⟨i2, hi2, hq, hq2, hv, hm⟩
    · replace h := h.1 hq
      rw [hv, hm]
      refine v_norm (st' := [.null]) (cells' := 0) (slots' := 0) rfl rfl rfl ?_
      refine v_astoreN (n := 19) (L' := [(0, .ref (zad G.1 9 0 0)), (1, .int x1), (2, .int x2), (3, .null), (4, .null)]) dX7_queueByText_17 rfl (by decide) rfl ?_
      refine v_aload_nN (n := 20) dX7_queueByText_19 rfl rfl ?_
      refine v_ifnullN (n := 28) dX7_queueByText_20 (by decide) ?_
      refine v_iconst (n := 29) (x := (-1 : Int32)) dX7_queueByText_28 rfl (by decide) ?_
      exact v_iret dX7_queueByText_29 rfl (Nat.le_of_ble_eq_true rfl) (Nat.le_of_ble_eq_true rfl) h
    · replace h := h.2 i2 hi2 hq hq2
      rw [hv, hm]
      refine v_norm (st' := [.ref (zad G.1 6 0 i2)]) (cells' := 0) (slots' := 0) rfl rfl rfl ?_
      refine v_astore (n := 19) (L' := [(0, .ref (zad G.1 9 0 0)), (1, .int x1), (2, .int x2), (3, .null), (4, .ref (zad G.1 6 0 i2))]) dX7_queueByText_17 rfl (by decide) rfl ?_
      refine v_aload_nN (n := 20) dX7_queueByText_19 rfl rfl ?_
      refine v_ifnullN (n := 28) dX7_queueByText_20 (by decide) ?_
      refine v_iconst (n := 29) (x := (-1 : Int32)) dX7_queueByText_28 rfl (by decide) ?_
      exact v_iret dX7_queueByText_29 rfl (Nat.le_of_ble_eq_true rfl) (Nat.le_of_ble_eq_true rfl) h
  · replace h := h.2 i1 hi1 hq hq2
    rw [hv, hm]
    refine v_norm (st' := [.ref (zad G.1 3 0 i1)]) (cells' := 0) (slots' := 0) rfl rfl rfl ?_
    refine v_astore_n (n := 9) (L' := [(0, .ref (zad G.1 9 0 0)), (1, .int x1), (2, .int x2), (3, .ref (zad G.1 3 0 i1))]) dX7_queueByText_8 rfl (by decide) rfl ?_
    refine v_aload_n (n := 10) dX7_queueByText_9 rfl rfl ?_
    refine v_getf (n := 13) dX7_queueByText_10 rfl fl_X7_12 zokc_9 rfl ?_
    refine v_iload_n (n := 14) dX7_queueByText_13 rfl rfl ?_
    obtain ⟨hf3, h⟩ := h
    refine v_callV (n := 17) (k := 2) (b := 0) (i := 0) (As := [.int x2]) (rest := []) dX7_queueByText_14 rfl lk_X7_130 rfl rfl (Nat.le_of_ble_eq_true rfl) ⟨Nat.le_of_ble_eq_true rfl, Nat.le_of_ble_eq_true rfl, Nat.le_of_ble_eq_true rfl, Nat.le_of_ble_eq_true rfl⟩ (zok_2 (by decide)) (s_X0_liftAt G 0 (by decide) x2 μ hf3) (fun v μ9 hp => ?_) (fun _ _ hp => False.elim hp)
    rcases hp with ⟨hq, hv, hm⟩ | ⟨i3, hi3, hq, hq2, hv, hm⟩
    · replace h := h.1 hq
      rw [hv, hm]
      refine v_norm (st' := [.null]) (cells' := 0) (slots' := 0) rfl rfl rfl ?_
      refine v_astoreN (n := 19) (L' := [(0, .ref (zad G.1 9 0 0)), (1, .int x1), (2, .int x2), (3, .ref (zad G.1 3 0 i1)), (4, .null)]) dX7_queueByText_17 rfl (by decide) rfl ?_
      refine v_aload_n (n := 20) dX7_queueByText_19 rfl rfl ?_
      refine v_ifnull (n := 23) dX7_queueByText_20 rfl ?_
      refine v_aloadN (n := 25) dX7_queueByText_23 rfl rfl ?_
      refine v_ifnonnullN (n := 28) dX7_queueByText_25 rfl ?_
      refine v_iconst (n := 29) (x := (-1 : Int32)) dX7_queueByText_28 rfl (by decide) ?_
      exact v_iret dX7_queueByText_29 rfl (Nat.le_of_ble_eq_true rfl) (Nat.le_of_ble_eq_true rfl) h
    · replace h := h.2 i3 hi3 hq hq2
      rw [hv, hm]
      refine v_norm (st' := [.ref (zad G.1 6 0 i3)]) (cells' := 0) (slots' := 0) rfl rfl rfl ?_
      refine v_astore (n := 19) (L' := [(0, .ref (zad G.1 9 0 0)), (1, .int x1), (2, .int x2), (3, .ref (zad G.1 3 0 i1)), (4, .ref (zad G.1 6 0 i3))]) dX7_queueByText_17 rfl (by decide) rfl ?_
      refine v_aload_n (n := 20) dX7_queueByText_19 rfl rfl ?_
      refine v_ifnull (n := 23) dX7_queueByText_20 rfl ?_
      refine v_aload (n := 25) dX7_queueByText_23 rfl rfl ?_
      refine v_ifnonnull (n := 30) dX7_queueByText_25 (by decide) ?_
      refine v_aload_n (n := 31) dX7_queueByText_30 rfl rfl ?_
      refine v_getf (n := 34) dX7_queueByText_31 rfl fl_X7_12 zokc_9 rfl ?_
      refine v_aload_n (n := 35) dX7_queueByText_34 rfl rfl ?_
      refine v_aload (n := 37) dX7_queueByText_35 rfl rfl ?_
      refine v_iload_n (n := 38) dX7_queueByText_37 rfl rfl ?_
      refine v_callV (n := 41) (k := 2) (b := 0) (i := 0) (As := [.ref (zad G.1 3 0 i1), .ref (zad G.1 6 0 i3), .int x2]) (rest := []) dX7_queueByText_38 rfl lk_X7_258 rfl rfl (Nat.le_of_ble_eq_true rfl) ⟨Nat.le_of_ble_eq_true rfl, Nat.le_of_ble_eq_true rfl, Nat.le_of_ble_eq_true rfl, Nat.le_of_ble_eq_true rfl⟩ (zok_2 (by decide)) h (fun v μ1 h => ?_) (fun _ _ hp => False.elim hp)
      obtain ⟨r1, rfl, h⟩ := h
      refine v_norm (st' := [.int r1]) (cells' := 0) (slots' := 0) rfl rfl rfl ?_
      refine v_istore (n := 43) (L' := [(0, .ref (zad G.1 9 0 0)), (1, .int x1), (2, .int x2), (3, .ref (zad G.1 3 0 i1)), (4, .ref (zad G.1 6 0 i3)), (5, .int r1)]) dX7_queueByText_41 rfl (by decide) rfl ?_
      refine v_iload (n := 45) dX7_queueByText_43 rfl rfl ?_
      refine v_if_eq (n := 48) (t := 51) dX7_queueByText_45 rfl (by decide) (fun hq => ?_) (fun hq => ?_)
      · replace h := h.1 hq
        refine v_aload_n (n := 52) dX7_queueByText_51 rfl rfl ?_
        refine v_getf (n := 55) dX7_queueByText_52 rfl fl_X7_12 zokc_9 rfl ?_
        refine v_aload_n (n := 56) dX7_queueByText_55 rfl rfl ?_
        refine v_iload_n (n := 57) dX7_queueByText_56 rfl rfl ?_
        refine v_callV (n := 60) (k := 2) (b := 0) (i := 0) (As := [.ref (zad G.1 3 0 i1), .int x2]) (rest := []) dX7_queueByText_57 rfl lk_X7_271 rfl rfl (Nat.le_of_ble_eq_true rfl) ⟨Nat.le_of_ble_eq_true rfl, Nat.le_of_ble_eq_true rfl, Nat.le_of_ble_eq_true rfl, Nat.le_of_ble_eq_true rfl⟩ (zok_2 (by decide)) h (fun v μ2 h => ?_) (fun _ _ hp => False.elim hp)
        obtain ⟨r2, rfl, h⟩ := h
        refine v_norm (st' := [.int r2]) (cells' := 0) (slots' := 0) rfl rfl rfl ?_
        refine v_pop (n := 61) dX7_queueByText_60 rfl rfl ?_
        refine v_iconst (n := 62) (x := nI 0) dX7_queueByText_61 rfl (by decide) ?_
        exact v_iret dX7_queueByText_62 rfl (Nat.le_of_ble_eq_true rfl) (Nat.le_of_ble_eq_true rfl) h
      · replace h := h.2 hq
        refine v_iload (n := 50) dX7_queueByText_48 rfl rfl ?_
        exact v_iret dX7_queueByText_50 rfl (Nat.le_of_ble_eq_true rfl) (Nat.le_of_ble_eq_true rfl) h

set_option maxRecDepth 20000 in
set_option maxHeartbeats 4000000 in
theorem wX7_skiByText (G : Gl) {P : Option Value → St → Prop} {X : String → St → Prop} (x1 : Int32) (x2 : Int32) (μ : St)
    (h : μ 2 0 0 5 ≤ nI 16 ∧ ((idx x1 (μ 2 0 0 5) = false → μ 2 0 0 4 ≤ nI 10 ∧ ((idx x2 (μ 2 0 0 4) = false → P (some (.int (-1 : Int32))) μ) ∧ (∀ i2 : Nat, i2 < 10 → x2 = nI i2 → idx x2 (μ 2 0 0 4) = true → P (some (.int (-1 : Int32))) μ))) ∧ (∀ i1 : Nat, i1 < 16 → x1 = nI i1 → idx x1 (μ 2 0 0 5) = true → μ 2 0 0 4 ≤ nI 10 ∧ ((idx x2 (μ 2 0 0 4) = false → P (some (.int (-1 : Int32))) μ) ∧ (∀ i3 : Nat, i3 < 10 → x2 = nI i3 → idx x2 (μ 2 0 0 4) = true → Con G mX0_skiRefusal [.ref (zad G.1 2 0 0), .ref (zad G.1 3 0 i1), .ref (zad G.1 7 0 i3)] μ (fun v μ1 => ∃ r1 : Int32, v = some (.int r1) ∧ ((r1 = 0 → Con G mX0_startPiste [.ref (zad G.1 2 0 0), .ref (zad G.1 3 0 i1), .ref (zad G.1 7 0 i3), .int x2] μ1 (fun v μ2 => ∃ r2 : Int32, v = some (.int r2) ∧ P (some (.int (nI 0))) μ2) noX) ∧ (¬ r1 = 0 → P (some (.int r1)) μ1))) noX))))) :
    Con G mX7_skiByText [.ref (zad G.1 9 0 0), .int x1, .int x2] μ P X := by
  refine con_of pn_X7 rfl (Nat.le_of_ble_eq_true rfl) ?_
  show VL G mX7_skiByText P X 0 [(0, .ref (zad G.1 9 0 0)), (1, .int x1), (2, .int x2)] [] μ
  refine v_aload_n (n := 1) dX7_skiByText_0 rfl rfl ?_
  refine v_getf (n := 4) dX7_skiByText_1 rfl fl_X7_12 zokc_9 rfl ?_
  refine v_iload_n (n := 5) dX7_skiByText_4 rfl rfl ?_
  obtain ⟨hf1, h⟩ := h
  refine v_callV (n := 8) (k := 2) (b := 0) (i := 0) (As := [.int x1]) (rest := []) dX7_skiByText_5 rfl lk_X7_226 rfl rfl (Nat.le_of_ble_eq_true rfl) ⟨Nat.le_of_ble_eq_true rfl, Nat.le_of_ble_eq_true rfl, Nat.le_of_ble_eq_true rfl, Nat.le_of_ble_eq_true rfl⟩ (zok_2 (by decide)) (s_X0_guestAt G 0 (by decide) x1 μ hf1) (fun v μ9 hp => ?_) (fun _ _ hp => False.elim hp)
  rcases hp with ⟨hq, hv, hm⟩ | ⟨i1, hi1, hq, hq2, hv, hm⟩
  · replace h := h.1 hq
    rw [hv, hm]
    refine v_norm (st' := [.null]) (cells' := 0) (slots' := 0) rfl rfl rfl ?_
    refine v_astore_nN (n := 9) (L' := [(0, .ref (zad G.1 9 0 0)), (1, .int x1), (2, .int x2), (3, .null)]) dX7_skiByText_8 rfl (by decide) rfl ?_
    refine v_aload_n (n := 10) dX7_skiByText_9 rfl rfl ?_
    refine v_getf (n := 13) dX7_skiByText_10 rfl fl_X7_12 zokc_9 rfl ?_
    refine v_iload_n (n := 14) dX7_skiByText_13 rfl rfl ?_
    obtain ⟨hf2, h⟩ := h
    refine v_callV (n := 17) (k := 2) (b := 0) (i := 0) (As := [.int x2]) (rest := []) dX7_skiByText_14 rfl lk_X7_170 rfl rfl (Nat.le_of_ble_eq_true rfl) ⟨Nat.le_of_ble_eq_true rfl, Nat.le_of_ble_eq_true rfl, Nat.le_of_ble_eq_true rfl, Nat.le_of_ble_eq_true rfl⟩ (zok_2 (by decide)) (s_X0_pisteAt G 0 (by decide) x2 μ hf2) (fun v μ9 hp => ?_) (fun _ _ hp => False.elim hp)
    rcases hp with ⟨hq, hv, hm⟩ | ⟨i2, hi2, hq, hq2, hv, hm⟩
    · replace h := h.1 hq
      rw [hv, hm]
      refine v_norm (st' := [.null]) (cells' := 0) (slots' := 0) rfl rfl rfl ?_
      refine v_astoreN (n := 19) (L' := [(0, .ref (zad G.1 9 0 0)), (1, .int x1), (2, .int x2), (3, .null), (4, .null)]) dX7_skiByText_17 rfl (by decide) rfl ?_
      refine v_aload_nN (n := 20) dX7_skiByText_19 rfl rfl ?_
      refine v_ifnullN (n := 28) dX7_skiByText_20 (by decide) ?_
      refine v_iconst (n := 29) (x := (-1 : Int32)) dX7_skiByText_28 rfl (by decide) ?_
      exact v_iret dX7_skiByText_29 rfl (Nat.le_of_ble_eq_true rfl) (Nat.le_of_ble_eq_true rfl) h
    · replace h := h.2 i2 hi2 hq hq2
      rw [hv, hm]
      refine v_norm (st' := [.ref (zad G.1 7 0 i2)]) (cells' := 0) (slots' := 0) rfl rfl rfl ?_
      refine v_astore (n := 19) (L' := [(0, .ref (zad G.1 9 0 0)), (1, .int x1), (2, .int x2), (3, .null), (4, .ref (zad G.1 7 0 i2))]) dX7_skiByText_17 rfl (by decide) rfl ?_
      refine v_aload_nN (n := 20) dX7_skiByText_19 rfl rfl ?_
      refine v_ifnullN (n := 28) dX7_skiByText_20 (by decide) ?_
      refine v_iconst (n := 29) (x := (-1 : Int32)) dX7_skiByText_28 rfl (by decide) ?_
      exact v_iret dX7_skiByText_29 rfl (Nat.le_of_ble_eq_true rfl) (Nat.le_of_ble_eq_true rfl) h
  · replace h := h.2 i1 hi1 hq hq2
    rw [hv, hm]
    refine v_norm (st' := [.ref (zad G.1 3 0 i1)]) (cells' := 0) (slots' := 0) rfl rfl rfl ?_
    refine v_astore_n (n := 9) (L' := [(0, .ref (zad G.1 9 0 0)), (1, .int x1), (2, .int x2), (3, .ref (zad G.1 3 0 i1))]) dX7_skiByText_8 rfl (by decide) rfl ?_
    refine v_aload_n (n := 10) dX7_skiByText_9 rfl rfl ?_
    refine v_getf (n := 13) dX7_skiByText_10 rfl fl_X7_12 zokc_9 rfl ?_
    refine v_iload_n (n := 14) dX7_skiByText_13 rfl rfl ?_
    obtain ⟨hf3, h⟩ := h
    refine v_callV (n := 17) (k := 2) (b := 0) (i := 0) (As := [.int x2]) (rest := []) dX7_skiByText_14 rfl lk_X7_170 rfl rfl (Nat.le_of_ble_eq_true rfl) ⟨Nat.le_of_ble_eq_true rfl, Nat.le_of_ble_eq_true rfl, Nat.le_of_ble_eq_true rfl, Nat.le_of_ble_eq_true rfl⟩ (zok_2 (by decide)) (s_X0_pisteAt G 0 (by decide) x2 μ hf3) (fun v μ9 hp => ?_) (fun _ _ hp => False.elim hp)
    rcases hp with ⟨hq, hv, hm⟩ | ⟨i3, hi3, hq, hq2, hv, hm⟩
    · replace h := h.1 hq
      rw [hv, hm]
      refine v_norm (st' := [.null]) (cells' := 0) (slots' := 0) rfl rfl rfl ?_
      refine v_astoreN (n := 19) (L' := [(0, .ref (zad G.1 9 0 0)), (1, .int x1), (2, .int x2), (3, .ref (zad G.1 3 0 i1)), (4, .null)]) dX7_skiByText_17 rfl (by decide) rfl ?_
      refine v_aload_n (n := 20) dX7_skiByText_19 rfl rfl ?_
      refine v_ifnull (n := 23) dX7_skiByText_20 rfl ?_
      refine v_aloadN (n := 25) dX7_skiByText_23 rfl rfl ?_
      refine v_ifnonnullN (n := 28) dX7_skiByText_25 rfl ?_
      refine v_iconst (n := 29) (x := (-1 : Int32)) dX7_skiByText_28 rfl (by decide) ?_
      exact v_iret dX7_skiByText_29 rfl (Nat.le_of_ble_eq_true rfl) (Nat.le_of_ble_eq_true rfl) h
    · replace h := h.2 i3 hi3 hq hq2
      rw [hv, hm]
      refine v_norm (st' := [.ref (zad G.1 7 0 i3)]) (cells' := 0) (slots' := 0) rfl rfl rfl ?_
      refine v_astore (n := 19) (L' := [(0, .ref (zad G.1 9 0 0)), (1, .int x1), (2, .int x2), (3, .ref (zad G.1 3 0 i1)), (4, .ref (zad G.1 7 0 i3))]) dX7_skiByText_17 rfl (by decide) rfl ?_
      refine v_aload_n (n := 20) dX7_skiByText_19 rfl rfl ?_
      refine v_ifnull (n := 23) dX7_skiByText_20 rfl ?_
      refine v_aload (n := 25) dX7_skiByText_23 rfl rfl ?_
      refine v_ifnonnull (n := 30) dX7_skiByText_25 (by decide) ?_
      refine v_aload_n (n := 31) dX7_skiByText_30 rfl rfl ?_
      refine v_getf (n := 34) dX7_skiByText_31 rfl fl_X7_12 zokc_9 rfl ?_
      refine v_aload_n (n := 35) dX7_skiByText_34 rfl rfl ?_
      refine v_aload (n := 37) dX7_skiByText_35 rfl rfl ?_
      refine v_callV (n := 40) (k := 2) (b := 0) (i := 0) (As := [.ref (zad G.1 3 0 i1), .ref (zad G.1 7 0 i3)]) (rest := []) dX7_skiByText_37 rfl lk_X7_277 rfl rfl (Nat.le_of_ble_eq_true rfl) ⟨Nat.le_of_ble_eq_true rfl, Nat.le_of_ble_eq_true rfl, Nat.le_of_ble_eq_true rfl, Nat.le_of_ble_eq_true rfl⟩ (zok_2 (by decide)) h (fun v μ1 h => ?_) (fun _ _ hp => False.elim hp)
      obtain ⟨r1, rfl, h⟩ := h
      refine v_norm (st' := [.int r1]) (cells' := 0) (slots' := 0) rfl rfl rfl ?_
      refine v_istore (n := 42) (L' := [(0, .ref (zad G.1 9 0 0)), (1, .int x1), (2, .int x2), (3, .ref (zad G.1 3 0 i1)), (4, .ref (zad G.1 7 0 i3)), (5, .int r1)]) dX7_skiByText_40 rfl (by decide) rfl ?_
      refine v_iload (n := 44) dX7_skiByText_42 rfl rfl ?_
      refine v_if_eq (n := 47) (t := 50) dX7_skiByText_44 rfl (by decide) (fun hq => ?_) (fun hq => ?_)
      · replace h := h.1 hq
        refine v_aload_n (n := 51) dX7_skiByText_50 rfl rfl ?_
        refine v_getf (n := 54) dX7_skiByText_51 rfl fl_X7_12 zokc_9 rfl ?_
        refine v_aload_n (n := 55) dX7_skiByText_54 rfl rfl ?_
        refine v_aload (n := 57) dX7_skiByText_55 rfl rfl ?_
        refine v_iload_n (n := 58) dX7_skiByText_57 rfl rfl ?_
        refine v_callV (n := 61) (k := 2) (b := 0) (i := 0) (As := [.ref (zad G.1 3 0 i1), .ref (zad G.1 7 0 i3), .int x2]) (rest := []) dX7_skiByText_58 rfl lk_X7_281 rfl rfl (Nat.le_of_ble_eq_true rfl) ⟨Nat.le_of_ble_eq_true rfl, Nat.le_of_ble_eq_true rfl, Nat.le_of_ble_eq_true rfl, Nat.le_of_ble_eq_true rfl⟩ (zok_2 (by decide)) h (fun v μ2 h => ?_) (fun _ _ hp => False.elim hp)
        obtain ⟨r2, rfl, h⟩ := h
        refine v_norm (st' := [.int r2]) (cells' := 0) (slots' := 0) rfl rfl rfl ?_
        refine v_pop (n := 62) dX7_skiByText_61 rfl rfl ?_
        refine v_iconst (n := 63) (x := nI 0) dX7_skiByText_62 rfl (by decide) ?_
        exact v_iret dX7_skiByText_63 rfl (Nat.le_of_ble_eq_true rfl) (Nat.le_of_ble_eq_true rfl) h
      · replace h := h.2 hq
        refine v_iload (n := 49) dX7_skiByText_47 rfl rfl ?_
        exact v_iret dX7_skiByText_49 rfl (Nat.le_of_ble_eq_true rfl) (Nat.le_of_ble_eq_true rfl) h

