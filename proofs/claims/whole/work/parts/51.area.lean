/-! ===== the area's methods, run to their ends ===== -/
section SA
variable (G : Gl) {b nl np ng : Nat} {μ : St}
theorem s_X0_guestsWith (hb : b < 11) (hc : Cnt μ b nl np ng) (x y : Int32) : Con G mX0_guestsWith [.ref (zad G.1 2 b 0), .int x, .int y] μ (fun v μ9 => v = some (.int (gwF μ b x y ng)) ∧ μ9 = μ) noX := by
  obtain ⟨-, -, h5, h6⟩ := hc
  apply wX0_guestsWith G b hb
  refine rn_at (f := fun a i => if gis μ b i x y = true then a + 1 else a) (T := fun i a => VL G mX0_guestsWith _ _ 5 [(0, .ref (zad G.1 2 b 0)), (1, .int x), (2, .int y), (3, .int a), (4, .int (nI i))] [] μ) (n := ng) ?_ (nI 0) ?_
  · intro i a hi hT
    apply wX0_guestsWith_5 G b hb
    refine ⟨fun h => absurd ((cle h5).mp h) (by omega), fun _ => ⟨by omega, fun h => ?_, fun h => ?_⟩⟩
    · rw [if_neg (by rw [h]; decide)] at hT; exact hT
    · rw [if_pos h] at hT; exact hT
  · apply wX0_guestsWith_5 G b hb
    exact ⟨fun _ => ⟨rfl, rfl⟩, fun h => absurd ((cle h5).mpr (Nat.le_refl _)) h⟩
theorem s_X0_guestsIn (hb : b < 11) (hc : Cnt μ b nl np ng) (x : Int32) : Con G mX0_guestsIn [.ref (zad G.1 2 b 0), .int x] μ (fun v μ9 => v = some (.int (giF μ b x ng)) ∧ μ9 = μ) noX := by
  obtain ⟨-, -, h5, h6⟩ := hc
  apply wX0_guestsIn G b hb
  refine rn_at (f := fun a i => if μ 3 b i 4 = x then a + 1 else a) (T := fun i a => VL G mX0_guestsIn _ _ 4 [(0, .ref (zad G.1 2 b 0)), (1, .int x), (2, .int a), (3, .int (nI i))] [] μ) (n := ng) ?_ (nI 0) ?_
  · intro i a hi hT
    apply wX0_guestsIn_4 G b hb
    refine ⟨fun h => absurd ((cle h5).mp h) (by omega), fun _ => ⟨by omega, fun h => ?_, fun h => ?_⟩⟩
    · rw [if_neg h] at hT; exact hT
    · rw [if_pos h] at hT; exact hT
  · apply wX0_guestsIn_4 G b hb
    exact ⟨fun _ => ⟨rfl, rfl⟩, fun h => absurd ((cle h5).mpr (Nat.le_refl _)) h⟩
theorem s_X0_openPistes (hb : b < 11) (hc : Cnt μ b nl np ng) : Con G mX0_openPistes [.ref (zad G.1 2 b 0)] μ (fun v μ9 => v = some (.int (opF μ b np)) ∧ μ9 = μ) noX := by
  obtain ⟨-, ⟨h5, h6⟩, -⟩ := hc
  apply wX0_openPistes G b hb
  refine rn_at (f := fun a i => if μ 7 b i 4 = 0 then a + 1 else a) (T := fun i a => VL G mX0_openPistes _ _ 4 [(0, .ref (zad G.1 2 b 0)), (1, .int a), (2, .int (nI i))] [] μ) (n := np) ?_ (nI 0) ?_
  · intro i a hi hT
    apply wX0_openPistes_4 G b hb
    refine ⟨fun h => absurd ((cle h5).mp h) (by omega), fun _ => ⟨by omega, fun h => ?_, fun h => ?_⟩⟩
    · rw [if_neg h] at hT; exact hT
    · rw [if_pos h] at hT; exact hT
  · apply wX0_openPistes_4 G b hb
    exact ⟨fun _ => ⟨rfl, rfl⟩, fun h => absurd ((cle h5).mpr (Nat.le_refl _)) h⟩
theorem s_X0_heldLifts (hb : b < 11) (hc : Cnt μ b nl np ng) : Con G mX0_heldLifts [.ref (zad G.1 2 b 0)] μ (fun v μ9 => v = some (.int (hlF μ b nl)) ∧ μ9 = μ) noX := by
  obtain ⟨⟨h5, h6⟩, -⟩ := hc
  apply wX0_heldLifts G b hb
  refine rn_at (f := fun a i => if ihd μ b i = true then a ||| ((nI 1) <<< ((nI i) &&& 31)) else a) (T := fun i a => VL G mX0_heldLifts _ _ 4 [(0, .ref (zad G.1 2 b 0)), (1, .int a), (2, .int (nI i))] [] μ) (n := nl) ?_ (nI 0) ?_
  · intro i a hi hT
    apply wX0_heldLifts_4 G b hb
    refine ⟨fun h => absurd ((cle h5).mp h) (by omega), fun _ => ⟨by omega, fun h => ?_, fun h => ?_⟩⟩
    · rw [if_neg (by rw [h]; decide)] at hT; exact hT
    · rw [if_pos h] at hT; exact hT
  · apply wX0_heldLifts_4 G b hb
    exact ⟨fun _ => ⟨rfl, rfl⟩, fun h => absurd ((cle h5).mpr (Nat.le_refl _)) h⟩
theorem s_X0_liftsOpenedFor (hb : b < 11) (hc : Cnt μ b nl np ng) (g : Nat) (hg : g < 16) : Con G mX0_liftsOpenedFor [.ref (zad G.1 2 b 0), .ref (zad G.1 3 b g)] μ (fun v μ9 => v = some (.int (lfF μ b g nl)) ∧ μ9 = μ) noX := by
  obtain ⟨⟨h5, h6⟩, -⟩ := hc
  apply wX0_liftsOpenedFor G b hb g hg
  refine rn_at (f := fun a i => if iop μ b g i = true then a ||| ((nI 1) <<< ((nI i) &&& 31)) else a) (T := fun i a => VL G mX0_liftsOpenedFor _ _ 4 [(0, .ref (zad G.1 2 b 0)), (1, .ref (zad G.1 3 b g)), (2, .int a), (3, .int (nI i))] [] μ) (n := nl) ?_ (nI 0) ?_
  · intro i a hi hT
    apply wX0_liftsOpenedFor_4 G b hb g hg
    refine ⟨fun h => absurd ((cle h5).mp h) (by omega), fun _ => ⟨by omega, fun h => ?_, fun h => ?_⟩⟩
    · rw [if_neg (by rw [h]; decide)] at hT; exact hT
    · rw [if_pos h] at hT; exact hT
  · apply wX0_liftsOpenedFor_4 G b hb g hg
    exact ⟨fun _ => ⟨rfl, rfl⟩, fun h => absurd ((cle h5).mpr (Nat.le_refl _)) h⟩
end SA
