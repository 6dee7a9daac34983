/-! ===== the area's other methods ===== -/
def cdG (b : Nat) (μ : St) (i : Nat) : St := gbc μ b i (nI 4) (-1) (nI 0) (nI 0)
def cdL (b : Nat) (μ : St) (i : Nat) : St := up μ 6 b i 7 (nI 0)
def cdP (b : Nat) (μ : St) (i : Nat) : St := if μ 7 b i 4 = nI 2 then pfr μ b i else μ
def cdR (b nl np ng : Nat) (μ : St) : St := rn (cdP b) 0 np (rn (cdL b) 0 nl (rn (cdG b) 0 ng μ))
def cdF (b nl np ng : Nat) (μ : St) : St := up (up (cdR b nl np ng μ) 2 b 0 7 (nI 0)) 2 b 0 8 (cdR b nl np ng μ 2 b 0 8 + nI 1)
def lqS (b g : Nat) (μ : St) (i : Nat) : St := if gis μ b i (nI 1) (μ 3 b g 5) = true then (if μ 3 b i 7 ≤ μ 3 b g 7 then μ else up μ 3 b i 7 (μ 3 b i 7 - nI 1)) else μ
def lqF (b g l ng : Nat) (μ : St) : St := gbc (rn (lqS b g) 0 ng μ) b g (nI 0) (rn (lqS b g) 0 ng μ 6 b l 0) (nI 0) (nI 0)
def weF (μ : St) (b ng : Nat) (x1 x2 x3 x4 x5 : Int32) : St := up (gbc (up (up (up (up (up (up (up μ 3 b ng 0 x2) 3 b ng 1 x3) 3 b ng 2 x4) 3 b ng 3 x5) 3 b ng 8 (nI 0)) 3 b ng 9 (nI 0)) 3 b ng 10 (nI 0)) b ng (nI 0) x1 (nI 0) (nI 0)) 2 b 0 5 (nI (ng + 1))
def qrF (μ : St) (b g l ng : Nat) : Int32 := if μ 3 b g 4 = 0 then (if μ 3 b g 5 = μ 6 b l 0 then (if iop μ b g l = true then (if ihd μ b l = true then nI 4 else (if gwF μ b (nI 1) (nI l) ng < nI 10 then nI 0 else nI 5)) else nI 3) else nI 2) else nI 1
def srF (μ : St) (b g p : Nat) : Int32 := if μ 3 b g 4 = 0 then (if μ 3 b g 5 = μ 7 b p 0 then (if μ 7 b p 4 = 0 then (if tdf μ b p g = true then nI 7 else nI 0) else nI 6) else nI 2) else nI 1
def jqF (μ : St) (b g l ng : Nat) : St := gbc μ b g (nI 1) (nI l) (nI 0) (gwF μ b (nI 1) (nI l) ng)
def spF (μ : St) (b g p : Nat) : St := up (up (up (gbc μ b g (nI 3) (nI p) (rfo μ b p g) (nI 0)) 3 b g 9 (μ 3 b g 9 + nI 1)) 7 b p 7 (μ 7 b p 7 + nI 1)) 7 b p 5 (μ 7 b p 5 + μ 7 b p 2)
def tolF (μ : St) (b l : Nat) (x : Int32) : Int32 := if ihd μ b l = true then -1 else tkf x (spo μ b l)
def tfqF (μ : St) (b l : Nat) (x : Int32) : Int32 := if ihd μ b l = true then -1 else tkf (stc μ b l (nI 1 + x / μ 6 b l 4)) (spo μ b l) + tolF μ b l (nI 2 * μ 6 b l 5)
def ttsF (μ : St) (b g : Nat) : Int32 := if μ 3 b g 4 = nI 0 then nI 0 else if μ 3 b g 4 = nI 1 then tfqF μ b (tN (μ 3 b g 5)) (μ 3 b g 7) else if μ 3 b g 4 = nI 2 then tolF μ b (tN (μ 3 b g 5)) (μ 3 b g 6) else if μ 3 b g 4 = nI 3 then μ 3 b g 6 else -1
def agL (μ : St) (b : Nat) (a : Int32) (i : Nat) : Int32 := a + μ 6 b i 8
def agP (μ : St) (b : Nat) (a : Int32) (i : Nat) : Int32 := a + μ 7 b i 7
def agG (μ : St) (b : Nat) (a : Int32 × Int32) (i : Nat) : Int32 × Int32 := (a.1 - μ 3 b i 8, a.2 - μ 3 b i 9)
def agF (μ : St) (b nl np ng : Nat) : Int32 := iab (rn (agG μ b) 0 ng (rn (agL μ b) 0 nl (nI 0), rn (agP μ b) 0 np (nI 0))).1 + iab (rn (agG μ b) 0 ng (rn (agL μ b) 0 nl (nI 0), rn (agP μ b) 0 np (nI 0))).2
def lmS (μ : St) (b : Nat) (a : Int32 × Int32) (i : Nat) : Int32 × Int32 := if μ 6 b i 8 ≤ a.2 then a else (nI i, μ 6 b i 8)
def lmF (μ : St) (b nl : Nat) : Int32 × Int32 := rn (lmS μ b) 0 nl (-1, nI 0)
section SAct
variable (G : Gl) {b nl np ng W : Nat} {μ : St}
theorem cdG_cnt {i : Nat} {x : St} (h : Cnt x b nl np ng) : Cnt (cdG b x i) b nl np ng := by
  unfold Cnt cdG at *
  rw [gbc_k (by decide), gbc_k (by decide), gbc_k (by decide)]
  exact h
theorem cdL_cnt {i : Nat} {x : St} (h : Cnt x b nl np ng) : Cnt (cdL b x i) b nl np ng := by
  unfold Cnt cdL at *
  rw [up_k (by decide), up_k (by decide), up_k (by decide)]
  exact h
theorem pfr_k {x : St} {i k b' i' s : Nat} (h : k ≠ 7) : pfr x b i k b' i' s = x k b' i' s := by
  unfold pfr
  rw [up_k h, up_k h, up_k h]
theorem cdP_cnt {i : Nat} {x : St} (h : Cnt x b nl np ng) : Cnt (cdP b x i) b nl np ng := by
  unfold Cnt cdP at *
  split
  · rw [pfr_k (by decide), pfr_k (by decide), pfr_k (by decide)]
    exact h
  · exact h
theorem s_X0_closeDay (hb : b < 11) (hC : Cnt μ b nl np ng) : Con G mX0_closeDay [.ref (zad G.1 2 b 0)] μ (fun v μ9 => v = some (.int (nI ng - giF μ b (nI 4) ng)) ∧ μ9 = cdF b nl np ng μ) noX := by
  apply wX0_closeDay G b hb
  refine (s_X0_guestsIn G hb hC (nI 4)).mono (fun v μ1 hp => ⟨_, hp.1, ?_⟩) (fun _ _ hp => hp)
  rw [hp.2]
  have e5 := hC.2.2.1
  rw [e5]
  refine rn_loop (f := cdG b) (T := fun i x => VL G mX0_closeDay _ _ 13 [(0, .ref (zad G.1 2 b 0)), (1, .int (nI ng - giF μ b (nI 4) ng)), (2, .int (nI i))] [] x) (I := fun x => Cnt x b nl np ng) (n := ng) ?_ (fun i x hi hx => cdG_cnt hx) ng 0 (by omega) μ hC ?_
  · intro i x hi hx hT
    obtain ⟨⟨h3, h3'⟩, ⟨h4, h4'⟩, ⟨h5, h5'⟩⟩ := hx
    apply wX0_closeDay_13 G b hb
    exact ⟨fun h => absurd ((cle h5).mp h) (by omega), fun _ => ⟨by omega, hT⟩⟩
  · intro hx
    apply wX0_closeDay_13 G b hb
    refine ⟨fun _ => ?_, fun h => absurd ((cle hx.2.2.1 (by have := hx.2.2.2; omega) (by have := hx.2.2.2; omega)).mpr (Nat.le_refl _)) h⟩
    refine rn_loop (f := cdL b) (T := fun i x => VL G mX0_closeDay _ _ 38 [(0, .ref (zad G.1 2 b 0)), (1, .int (nI ng - giF μ b (nI 4) ng)), (2, .int (nI i))] [] x) (I := fun x => Cnt x b nl np ng) (n := nl) ?_ (fun i x hi hx => cdL_cnt hx) nl 0 (by omega) _ hx ?_
    · intro i x hi hx hT
      obtain ⟨⟨h3, h3'⟩, ⟨h4, h4'⟩, ⟨h5, h5'⟩⟩ := hx
      apply wX0_closeDay_38 G b hb
      exact ⟨fun h => absurd ((cle h3).mp h) (by omega), fun _ => ⟨by omega, hT⟩⟩
    · intro hx
      apply wX0_closeDay_38 G b hb
      refine ⟨fun _ => ?_, fun h => absurd ((cle hx.1.1 (by have := hx.1.2; omega) (by have := hx.1.2; omega)).mpr (Nat.le_refl _)) h⟩
      refine rn_loop (f := cdP b) (T := fun i x => VL G mX0_closeDay _ _ 64 [(0, .ref (zad G.1 2 b 0)), (1, .int (nI ng - giF μ b (nI 4) ng)), (2, .int (nI i))] [] x) (I := fun x => Cnt x b nl np ng) (n := np) ?_ (fun i x hi hx => cdP_cnt hx) np 0 (by omega) _ hx ?_
      · intro i x hi hx hT
        obtain ⟨⟨h3, h3'⟩, ⟨h4, h4'⟩, ⟨h5, h5'⟩⟩ := hx
        apply wX0_closeDay_64 G b hb
        refine ⟨fun h => absurd ((cle h4).mp h) (by omega), fun _ => ⟨by omega, fun h => ?_, fun h => ?_⟩⟩
        · rw [cdP, if_neg h] at hT; exact hT
        · rw [cdP, if_pos h] at hT; exact hT
      · intro hx
        apply wX0_closeDay_64 G b hb
        exact ⟨fun _ => ⟨rfl, rfl⟩, fun h => absurd ((cle hx.2.1.1 (by have := hx.2.1.2; omega) (by have := hx.2.1.2; omega)).mpr (Nat.le_refl _)) h⟩
theorem lqS_cnt {g i : Nat} {x : St} (h : Cnt x b nl np ng) : Cnt (lqS b g x i) b nl np ng := by
  unfold Cnt lqS at *
  split
  · split
    · exact h
    · rw [up_k (by decide), up_k (by decide), up_k (by decide)]
      exact h
  · exact h
theorem s_X0_leaveQueue (hb : b < 11) (hC : Cnt μ b nl np ng) {g l : Nat} (hg : g < 16) (hl : l < nl) (hw : μ 3 b g 5 = nI l) : Con G mX0_leaveQueue [.ref (zad G.1 2 b 0), .ref (zad G.1 3 b g)] μ (fun v μ9 => v = none ∧ μ9 = lqF b g l ng μ) noX := by
  have h3 := hC.1
  apply wX0_leaveQueue G b hb g hg
  refine ⟨(cle h3.1).mpr h3.2, fun h => idx_no hw h3.1 hl (by omega) h, fun i1 hi1 hw1 _ => ?_⟩
  have e : i1 = l := nI_inj (by omega) (by omega) (hw1.symm.trans hw)
  subst e
  refine rn_loop (f := lqS b g) (T := fun i x => VL G mX0_leaveQueue _ _ 16 [(0, .ref (zad G.1 2 b 0)), (1, .ref (zad G.1 3 b g)), (2, .ref (zad G.1 6 b i1)), (3, .int (nI i))] [] x) (I := fun x => Cnt x b nl np ng) (n := ng) ?_ (fun i x hi hx => lqS_cnt hx) ng 0 (by omega) μ hC ?_
  · intro i x hi hx hT
    have h5 := hx.2.2
    apply wX0_leaveQueue_16 G b hb g hg i1 hi1
    refine ⟨fun h => absurd ((cle h5.1).mp h) (by omega), fun _ => ⟨by omega, fun h => ?_, fun h => ?_⟩⟩
    · rw [lqS, if_neg (by rw [h]; decide)] at hT; exact hT
    · rw [lqS, if_pos h] at hT
      refine ⟨fun h1 => ?_, fun h1 => ?_⟩
      · rw [if_pos h1] at hT; exact hT
      · rw [if_neg h1] at hT; exact hT
  · intro hx
    have h5 := hx.2.2
    apply wX0_leaveQueue_16 G b hb g hg i1 hi1
    exact ⟨fun _ => ⟨rfl, rfl⟩, fun h => absurd ((cle h5.1).mpr (Nat.le_refl _)) h⟩
theorem s_X0_welcome (hb : b < 11) (hC : Cnt μ b nl np ng) (hn : ng < 16) (x1 x2 x3 x4 x5 : Int32) : Con G mX0_welcome [.ref (zad G.1 2 b 0), .int x1, .int x2, .int x3, .int x4, .int x5] μ (fun v μ9 => v = some (.int (nI ng)) ∧ μ9 = weF μ b ng x1 x2 x3 x4 x5) noX := by
  have h5 := hC.2.2.1
  apply wX0_welcome G b hb
  refine ⟨fun _ => ⟨ng, h5, hn, ?_⟩, fun h => absurd (by rw [h5]; exact (nI_ltI (by omega) (by decide)).mpr hn) h⟩
  apply wX1_begin G b hb ng hn
  have e : gbc (up (up (up (up (up (up (up μ 3 b ng 0 x2) 3 b ng 1 x3) 3 b ng 2 x4) 3 b ng 3 x5) 3 b ng 8 (nI 0)) 3 b ng 9 (nI 0)) 3 b ng 10 (nI 0)) b ng (nI 0) x1 (nI 0) (nI 0) 2 b 0 5 = nI ng := by
    rw [u11, if_neg (fun z => by cases z.1), h5]
  rw [e, nI_add, nI_sub (Nat.le_add_left _ _), Nat.add_sub_cancel]
  exact ⟨rfl, rfl, rfl⟩
theorem s_X0_queueRefusal (hb : b < 11) (hC : Cnt μ b nl np ng) {g l : Nat} (hg : g < 16) (hl : l < 6) : Con G mX0_queueRefusal [.ref (zad G.1 2 b 0), .ref (zad G.1 3 b g), .ref (zad G.1 6 b l), .int (nI l)] μ (fun v μ9 => v = some (.int (qrF μ b g l ng)) ∧ μ9 = μ) noX := by
  apply wX0_queueRefusal G b hb g hg l hl
  unfold qrF
  refine ⟨fun h1 => ⟨fun h2 => ⟨fun h3 => ⟨fun h4 => ?_, fun h4 => ?_⟩, fun h3 => ?_⟩, fun h2 => ?_⟩, fun h1 => ?_⟩
  · refine (s_X0_guestsWith G hb hC (nI 1) (nI l)).mono (fun v μ1 hp => ⟨_, hp.1, fun h5 => ⟨?_, hp.2⟩, fun h5 => ⟨?_, hp.2⟩⟩) (fun _ _ hp => hp)
    · rw [if_pos h1, if_pos h2, if_pos h3, if_neg (by rw [h4]; decide), if_pos h5]
    · rw [if_pos h1, if_pos h2, if_pos h3, if_neg (by rw [h4]; decide), if_neg h5]
  · rw [if_pos h1, if_pos h2, if_pos h3, if_pos h4]; exact ⟨rfl, rfl⟩
  · rw [if_pos h1, if_pos h2, if_neg (by rw [h3]; decide)]; exact ⟨rfl, rfl⟩
  · rw [if_pos h1, if_neg h2]; exact ⟨rfl, rfl⟩
  · rw [if_neg h1]; exact ⟨rfl, rfl⟩
theorem s_X0_skiRefusal (hb : b < 11) {g p : Nat} (hg : g < 16) (hp : p < 10) : Con G mX0_skiRefusal [.ref (zad G.1 2 b 0), .ref (zad G.1 3 b g), .ref (zad G.1 7 b p)] μ (fun v μ9 => v = some (.int (srF μ b g p)) ∧ μ9 = μ) noX := by
  apply wX0_skiRefusal G b hb g hg p hp
  unfold srF
  refine ⟨fun h1 => ⟨fun h2 => ⟨fun h3 => ⟨fun h4 => ?_, fun h4 => ?_⟩, fun h3 => ?_⟩, fun h2 => ?_⟩, fun h1 => ?_⟩
  · rw [if_pos h1, if_pos h2, if_pos h3, if_neg (by rw [h4]; decide)]; exact ⟨rfl, rfl⟩
  · rw [if_pos h1, if_pos h2, if_pos h3, if_pos h4]; exact ⟨rfl, rfl⟩
  · rw [if_pos h1, if_pos h2, if_neg h3]; exact ⟨rfl, rfl⟩
  · rw [if_pos h1, if_neg h2]; exact ⟨rfl, rfl⟩
  · rw [if_neg h1]; exact ⟨rfl, rfl⟩
theorem s_X0_joinQueue (hb : b < 11) (hC : Cnt μ b nl np ng) {g l : Nat} (hg : g < 16) : Con G mX0_joinQueue [.ref (zad G.1 2 b 0), .ref (zad G.1 3 b g), .int (nI l)] μ (fun v μ9 => v = some (.int (gwF μ b (nI 1) (nI l) ng)) ∧ μ9 = jqF μ b g l ng) noX := by
  apply wX0_joinQueue G b hb g hg
  refine (s_X0_guestsWith G hb hC (nI 1) (nI l)).mono (fun v μ1 hp => ⟨_, hp.1, ?_⟩) (fun _ _ hp => hp)
  rw [hp.2, gbc_7]
  exact ⟨rfl, rfl⟩
theorem s_X0_startPiste (hb : b < 11) {g p : Nat} (hg : g < 16) (hp : p < 10) : Con G mX0_startPiste [.ref (zad G.1 2 b 0), .ref (zad G.1 3 b g), .ref (zad G.1 7 b p), .int (nI p)] μ (fun v μ9 => v = some (.int (rfo μ b p g)) ∧ μ9 = spF μ b g p) noX := by
  apply wX0_startPiste G b hb g hg p hp
  rw [gbc_6, gbc_o (by decide), gbc_k (by decide), gbc_k (by decide), gbc_k (by decide)]
  exact ⟨rfl, rfl⟩
theorem s_X0_ticksOnLift (hb : b < 11) {l : Nat} (hl : l < 6) (x : Int32) : Con G mX0_ticksOnLift [.ref (zad G.1 2 b 0), .ref (zad G.1 6 b l), .int x] μ (fun v μ9 => v = some (.int (tolF μ b l x)) ∧ μ9 = μ) noX := by
  apply wX0_ticksOnLift G b hb l hl
  unfold tolF
  refine ⟨fun h => ?_, fun h => ?_⟩
  · rw [if_neg (by rw [h]; decide)]; exact ⟨rfl, rfl⟩
  · rw [if_pos h]; exact ⟨rfl, rfl⟩
theorem s_X0_ticksFromQueue (hb : b < 11) {l : Nat} (hl : l < 6) (hk : lOk μ b l) (x : Int32) : Con G mX0_ticksFromQueue [.ref (zad G.1 2 b 0), .ref (zad G.1 6 b l), .int x] μ (fun v μ9 => v = some (.int (tfqF μ b l x)) ∧ μ9 = μ) noX := by
  obtain ⟨-, -, -, ⟨c, c1, c2, hc⟩, -⟩ := hk
  apply wX0_ticksFromQueue G b hb l hl
  unfold tfqF
  refine ⟨fun h => ?_, fun h => ⟨fun h1 => ⟨by rw [hc]; exact nI_ne0 (by omega) (by omega), ?_⟩, fun h1 => absurd (by rw [hc]; exact (nI_leI (by decide) (by omega)).mpr c1) h1⟩⟩
  · rw [if_pos h]; exact ⟨rfl, rfl⟩
  · rw [if_neg (by rw [h]; decide)]
    refine (s_X0_ticksOnLift G hb hl (nI 2 * μ 6 b l 5)).mono (fun v μ1 hp => ⟨_, hp.1, ?_⟩) (fun _ _ hp => hp)
    exact ⟨rfl, hp.2⟩
theorem s_X0_ticksToStation (hb : b < 11) (hR : Rok μ b nl np ng W) {g : Nat} (hg : g < ng) : Con G mX0_ticksToStation [.ref (zad G.1 2 b 0), .ref (zad G.1 3 b g)] μ (fun v μ9 => v = some (.int (ttsF μ b g)) ∧ μ9 = μ) noX := by
  obtain ⟨⟨⟨h3, h4⟩, -, ⟨h5, h6⟩⟩, -, hL, -, hG⟩ := hR
  apply wX0_ticksToStation G b hb g (by omega)
  unfold ttsF
  refine ⟨fun h => ?_, fun h0 => ⟨fun h => ⟨(cle h3).mpr h4, fun h1 => ?_, fun l hl6 hw _ => ?_⟩, fun hn1 => ⟨fun h => ⟨(cle h3).mpr h4, fun h1 => ?_, fun l hl6 hw _ => ?_⟩, fun hn2 => ⟨fun h => ?_, fun h => ?_⟩⟩⟩⟩
  · rw [if_pos h]; exact ⟨rfl, rfl⟩
  · obtain ⟨⟨l, hl, hw⟩, -⟩ := (hG g hg).waits h
    exact idx_no hw h3 hl (by omega) h1
  · obtain ⟨⟨l', hl, hw'⟩, -⟩ := (hG g hg).waits h
    obtain rfl : l = l' := nI_inj (by omega) (by omega) (hw.symm.trans hw')
    rw [if_neg h0, if_pos h]
    refine (s_X0_ticksFromQueue G hb hl6 (hL l hl) (μ 3 b g 7)).mono (fun v μ1 hp => ⟨_, hp.1, ?_, hp.2⟩) (fun _ _ hp => hp)
    rw [hw, tN_nI (by omega)]
  · obtain ⟨⟨l, hl, hw⟩, -⟩ := (hG g hg).rides h
    exact idx_no hw h3 hl (by omega) h1
  · rw [if_neg h0, if_neg hn1, if_pos h]
    refine (s_X0_ticksOnLift G hb hl6 (μ 3 b g 6)).mono (fun v μ1 hp => ⟨_, hp.1, ?_, hp.2⟩) (fun _ _ hp => hp)
    rw [hw, tN_nI (by omega)]
  · rw [if_neg h0, if_neg hn1, if_neg hn2, if_pos h]; exact ⟨rfl, rfl⟩
  · rw [if_neg h0, if_neg hn1, if_neg hn2, if_neg h]; exact ⟨rfl, rfl⟩
theorem s_X0_accountsGap (hb : b < 11) (hC : Cnt μ b nl np ng) : Con G mX0_accountsGap [.ref (zad G.1 2 b 0)] μ (fun v μ9 => v = some (.int (agF μ b nl np ng)) ∧ μ9 = μ) noX := by
  obtain ⟨⟨h3, h3'⟩, ⟨h4, h4'⟩, ⟨h5, h5'⟩⟩ := hC
  apply wX0_accountsGap G b hb
  refine rn_at (f := agL μ b) (T := fun i a => VL G mX0_accountsGap _ _ 6 [(0, .ref (zad G.1 2 b 0)), (1, .int a), (2, .int (nI 0)), (3, .int (nI i))] [] μ) (n := nl) ?_ (nI 0) ?_
  · intro i a hi hT
    apply wX0_accountsGap_6 G b hb
    exact ⟨fun h => absurd ((cle h3).mp h) (by omega), fun _ => ⟨by omega, hT⟩⟩
  apply wX0_accountsGap_6 G b hb
  refine ⟨fun _ => ?_, fun h => absurd ((cle h3).mpr (Nat.le_refl _)) h⟩
  refine rn_at (f := agP μ b) (T := fun i a => VL G mX0_accountsGap _ _ 34 [(0, .ref (zad G.1 2 b 0)), (1, .int (rn (agL μ b) 0 nl (nI 0))), (2, .int a), (3, .int (nI i))] [] μ) (n := np) ?_ (nI 0) ?_
  · intro i a hi hT
    apply wX0_accountsGap_34 G b hb
    exact ⟨fun h => absurd ((cle h4).mp h) (by omega), fun _ => ⟨by omega, hT⟩⟩
  apply wX0_accountsGap_34 G b hb
  refine ⟨fun _ => ?_, fun h => absurd ((cle h4).mpr (Nat.le_refl _)) h⟩
  refine rn_at (f := agG μ b) (T := fun i a => VL G mX0_accountsGap _ _ 62 [(0, .ref (zad G.1 2 b 0)), (1, .int a.1), (2, .int a.2), (3, .int (nI i))] [] μ) (n := ng) ?_ (rn (agL μ b) 0 nl (nI 0), rn (agP μ b) 0 np (nI 0)) ?_
  · intro i a hi hT
    apply wX0_accountsGap_62 G b hb
    exact ⟨fun h => absurd ((cle h5).mp h) (by omega), fun _ => ⟨by omega, hT⟩⟩
  apply wX0_accountsGap_62 G b hb
  exact ⟨fun _ => ⟨rfl, rfl⟩, fun h => absurd ((cle h5).mpr (Nat.le_refl _)) h⟩
theorem s_X0_liftWithMostRiders (hb : b < 11) (hC : Cnt μ b nl np ng) : Con G mX0_liftWithMostRiders [.ref (zad G.1 2 b 0)] μ (fun v μ9 => v = some (.int (lmF μ b nl).1) ∧ μ9 = μ) noX := by
  obtain ⟨⟨h3, h3'⟩, -⟩ := hC
  apply wX0_liftWithMostRiders G b hb
  refine rn_at (f := lmS μ b) (T := fun i a => VL G mX0_liftWithMostRiders _ _ 6 [(0, .ref (zad G.1 2 b 0)), (1, .int a.1), (2, .int a.2), (3, .int (nI i))] [] μ) (n := nl) ?_ (-1, nI 0) ?_
  · intro i a hi hT
    apply wX0_liftWithMostRiders_6 G b hb
    refine ⟨fun h => absurd ((cle h3).mp h) (by omega), fun _ => ⟨by omega, fun h => ?_, fun h => ?_⟩⟩
    · rw [lmS, if_pos h] at hT; exact hT
    · rw [lmS, if_neg h] at hT; exact hT
  · apply wX0_liftWithMostRiders_6 G b hb
    exact ⟨fun _ => ⟨rfl, rfl⟩, fun h => absurd ((cle h3).mpr (Nat.le_refl _)) h⟩
theorem s_X0_guestInQueue (hb : b < 11) (hC : Cnt μ b nl np ng) (x y : Int32) : Con G mX0_guestInQueue [.ref (zad G.1 2 b 0), .int x, .int y] μ (fun v μ9 => ((∃ g, g < ng ∧ v = some (.int (nI g)) ∧ gis μ b g (nI 1) x = true ∧ μ 3 b g 7 = y) ∨ (v = some (.int (-1)) ∧ ∀ g, g < ng → gis μ b g (nI 1) x = true → ¬ μ 3 b g 7 = y)) ∧ μ9 = μ) noX := by
  obtain ⟨-, -, ⟨h5, h5'⟩⟩ := hC
  have T : ∀ d i, i + d = ng → (∀ g, g < i → gis μ b g (nI 1) x = true → ¬ μ 3 b g 7 = y) → VL G mX0_guestInQueue (fun v μ9 => ((∃ g, g < ng ∧ v = some (.int (nI g)) ∧ gis μ b g (nI 1) x = true ∧ μ 3 b g 7 = y) ∨ (v = some (.int (-1)) ∧ ∀ g, g < ng → gis μ b g (nI 1) x = true → ¬ μ 3 b g 7 = y)) ∧ μ9 = μ) noX 2 [(0, .ref (zad G.1 2 b 0)), (1, .int x), (2, .int y), (3, .int (nI i))] [] μ := by
    intro d
    induction d with
    | zero =>
      intro i hi hq
      obtain rfl : i = ng := by omega
      apply wX0_guestInQueue_2 G b hb
      exact ⟨fun _ => ⟨Or.inr ⟨rfl, hq⟩, rfl⟩, fun h => absurd ((cle h5).mpr (Nat.le_refl _)) h⟩
    | succ d ih =>
      intro i hi hq
      apply wX0_guestInQueue_2 G b hb
      refine ⟨fun h => absurd ((cle h5).mp h) (by omega), fun _ => ⟨by omega, fun h => ?_, fun h => ⟨fun h1 => ?_, fun h1 => ?_⟩⟩⟩
      · refine ih (i + 1) (by omega) (fun g hg hg1 => ?_)
        rcases Nat.lt_or_ge g i with h9 | h9
        · exact hq g h9 hg1
        · obtain rfl : g = i := by omega
          rw [h] at hg1; cases hg1
      · refine ih (i + 1) (by omega) (fun g hg hg1 => ?_)
        rcases Nat.lt_or_ge g i with h9 | h9
        · exact hq g h9 hg1
        · obtain rfl : g = i := by omega
          exact h1
      · exact ⟨Or.inl ⟨i, by omega, rfl, h, h1⟩, rfl⟩
  apply wX0_guestInQueue G b hb
  exact T ng 0 (by omega) (fun g hg => absurd hg (by omega))
end SAct
