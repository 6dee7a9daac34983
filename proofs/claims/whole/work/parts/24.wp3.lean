/-! wp-lemmas by program (wip/whole/wp.py) -/
set_option maxRecDepth 20000 in
set_option maxHeartbeats 4000000 in
theorem wX0_isWayFor (G : Gl) {P : Option Value → St → Prop} {X : String → St → Prop} (b : Nat) (hb : b < 11) (i : Nat) (hi : i < 16) (j : Nat) (hj : j < 6) (μ : St)
    (h : ((iop μ b i j = false → P (some (.int (nI 0))) μ) ∧ (iop μ b i j = true → ((ihd μ b j = true → P (some (.int (nI 0))) μ) ∧ (ihd μ b j = false → P (some (.int (nI 1))) μ))))) :
    Con G mX0_isWayFor [.ref (zad G.1 2 b 0), .ref (zad G.1 3 b i), .ref (zad G.1 6 b j)] μ P X := by
  refine con_of pn_X0 rfl (Nat.le_of_ble_eq_true rfl) ?_
  show VL G mX0_isWayFor P X 0 [(0, .ref (zad G.1 2 b 0)), (1, .ref (zad G.1 3 b i)), (2, .ref (zad G.1 6 b j))] [] μ
  refine v_aload_n (n := 1) dX0_isWayFor_0 rfl rfl ?_
  refine v_aload_n (n := 2) dX0_isWayFor_1 rfl rfl ?_
  refine v_aload_n (n := 3) dX0_isWayFor_2 rfl rfl ?_
  refine v_callV (n := 6) (k := 2) (b := b) (i := 0) (As := [.ref (zad G.1 3 b i), .ref (zad G.1 6 b j)]) (rest := []) dX0_isWayFor_3 rfl lk_X0_80 rfl rfl (Nat.le_of_ble_eq_true rfl) ⟨Nat.le_of_ble_eq_true rfl, Nat.le_of_ble_eq_true rfl, Nat.le_of_ble_eq_true rfl, Nat.le_of_ble_eq_true rfl⟩ (zok_2 hb) (s_X0_isOpenedFor G b hb i hi j hj μ) (fun v μ9 hp => ?_) (fun _ _ hp => False.elim hp)
  rw [hp.1, hp.2]
  refine v_norm (st' := [.int (bI (iop μ b i j))]) (cells' := 0) (slots' := 0) rfl rfl rfl ?_
  refine v_if_eq (n := 9) (t := 21) dX0_isWayFor_6 rfl (by decide) (fun hq => ?_) (fun hq => ?_)
  · replace h := h.1 (bI_f hq)
    refine v_iconst (n := 22) (x := nI 0) dX0_isWayFor_21 rfl (by decide) ?_
    exact v_zret dX0_isWayFor_22 rfl (by decide) (Nat.le_of_ble_eq_true rfl) (Nat.le_of_ble_eq_true rfl) h
  · replace h := h.2 (bI_nf hq)
    refine v_aload_n (n := 10) dX0_isWayFor_9 rfl rfl ?_
    refine v_aload_n (n := 11) dX0_isWayFor_10 rfl rfl ?_
    refine v_callV (n := 14) (k := 2) (b := b) (i := 0) (As := [.ref (zad G.1 6 b j)]) (rest := []) dX0_isWayFor_11 rfl lk_X0_84 rfl rfl (Nat.le_of_ble_eq_true rfl) ⟨Nat.le_of_ble_eq_true rfl, Nat.le_of_ble_eq_true rfl, Nat.le_of_ble_eq_true rfl, Nat.le_of_ble_eq_true rfl⟩ (zok_2 hb) (s_X0_isHeld G b hb j hj μ) (fun v μ9 hp => ?_) (fun _ _ hp => False.elim hp)
    rw [hp.1, hp.2]
    refine v_norm (st' := [.int (bI (ihd μ b j))]) (cells' := 0) (slots' := 0) rfl rfl rfl ?_
    refine v_if_ne (n := 17) (t := 21) dX0_isWayFor_14 rfl (by decide) (fun hq => ?_) (fun hq => ?_)
    · replace h := h.1 (bI_nf hq)
      refine v_iconst (n := 22) (x := nI 0) dX0_isWayFor_21 rfl (by decide) ?_
      exact v_zret dX0_isWayFor_22 rfl (by decide) (Nat.le_of_ble_eq_true rfl) (Nat.le_of_ble_eq_true rfl) h
    · replace h := h.2 (bI_f hq)
      refine v_iconst (n := 18) (x := nI 1) dX0_isWayFor_17 rfl (by decide) ?_
      refine v_goto (n := 22) dX0_isWayFor_18 (by decide) ?_
      exact v_zret dX0_isWayFor_22 rfl (by decide) (Nat.le_of_ble_eq_true rfl) (Nat.le_of_ble_eq_true rfl) h

theorem s_X0_isWayFor (G : Gl) (b : Nat) (hb : b < 11) (i : Nat) (hi : i < 16) (j : Nat) (hj : j < 6) (μ : St) : Con G mX0_isWayFor [.ref (zad G.1 2 b 0), .ref (zad G.1 3 b i), .ref (zad G.1 6 b j)] μ (fun v μ9 => v = some (.int (bI (iwl μ b i j))) ∧ μ9 = μ) noX := by
  apply wX0_isWayFor G b hb i hi j hj
  refine ⟨fun h1 => ⟨?_, rfl⟩, fun h1 => ⟨fun h2 => ⟨?_, rfl⟩, fun h2 => ⟨?_, rfl⟩⟩⟩
  · rw [show iwl μ b i j = false by rw [iwl, h1]; rfl, bI_0]
  · rw [show iwl μ b i j = false by rw [iwl, h2, Bool.not_true, Bool.and_false], bI_0]
  · rw [show iwl μ b i j = true by rw [iwl, h1, h2]; rfl, bI_1]
