/-! ===== what both read of an area is the same ===== -/
theorem and1 (x : Int32) : x &&& nI 1 = 0 ∨ x &&& nI 1 = nI 1 := by
  have h : (x &&& nI 1).toBitVec = (BitVec.ofBool (x.toBitVec.getLsbD 0)).setWidth 32 := by
    rw [Int32.toBitVec_and]
    exact BitVec.and_one_eq_setWidth_ofBool_getLsbD
  cases hb : x.toBitVec.getLsbD 0
  · left
    apply Int32.toBitVec_inj.mp
    rw [h, hb]; rfl
  · right
    apply Int32.toBitVec_inj.mp
    rw [h, hb]; rfl
theorem msF_n (x : Int32) : msF x = nI 0 ∨ msF x = nI 1 ∨ msF x = nI 2 := by
  unfold msF
  split
  · exact Or.inl rfl
  · split
    · exact Or.inr (Or.inl rfl)
    · exact Or.inr (Or.inr rfl)
section RR
variable {σ μ : St} {b nl np ng : Nat}
theorem Rel.gs (h : Rel σ b nl np ng (row μ)) {g : Nat} (hg : g < ng) {k : Nat} (hk : k < 5) : μ 26 0 0 (212 + 10 * g + k) = σ 3 b g k := (h.2.2.2.2.1 g hg).1 k hk
theorem Rel.g0 (h : Rel σ b nl np ng (row μ)) {g : Nat} (hg : g < ng) : μ 26 0 0 (212 + 10 * g) = σ 3 b g 0 := h.gs hg (k := 0) (by decide)
theorem Rel.ls (h : Rel σ b nl np ng (row μ)) {l : Nat} (hl : l < nl) {k : Nat} (hk : k < 10) : μ 26 0 0 (6 + 21 * l + k) = σ 6 b l k := h.2.2.1 l hl k hk
theorem Rel.l0 (h : Rel σ b nl np ng (row μ)) {l : Nat} (hl : l < nl) : μ 26 0 0 (6 + 21 * l) = σ 6 b l 0 := h.ls hl (k := 0) (by decide)
theorem Rel.ps (h : Rel σ b nl np ng (row μ)) {p : Nat} (hp : p < np) {k : Nat} (hk : k < 8) : μ 26 0 0 (132 + 8 * p + k) = σ 7 b p k := h.2.2.2.1 p hp k hk
theorem Rel.p0 (h : Rel σ b nl np ng (row μ)) {p : Nat} (hp : p < np) : μ 26 0 0 (132 + 8 * p) = σ 7 b p 0 := h.ps hp (k := 0) (by decide)
theorem Rel.eiop (h : Rel σ b nl np ng (row μ)) {g l : Nat} (hg : g < ng) (hl : l < nl) : mop μ g l = iop σ b g l := by
  unfold mop iop btw
  rw [h.gs hg (k := 1) (by decide), h.gs hg (k := 2) (by decide), h.gs hg (k := 3) (by decide), h.ls hl (k := 2) (by decide), show μ 26 0 0 2 = σ 2 b 0 8 from h.2.1.1 2 (by decide)]
  congr 1
  rcases and1 (σ 3 b g 1 >>> (σ 6 b l 2 &&& 31)) with e | e
  · rw [e]; decide
  · rw [e]; decide
theorem Rel.held (h : Rel σ b nl np ng (row μ)) {l : Nat} (hl : l < nl) : msf μ l = nI 2 ↔ ihd σ b l = true := by
  have e := h.step hl
  unfold ihd
  rw [← e]
  unfold msf
  rcases msF_n (μ 26 0 0 0 + μ 26 0 0 (6 + 21 * l + 6)) with h | h | h <;> rw [h] <;> decide
theorem Rel.eiwl (h : Rel σ b nl np ng (row μ)) {g l : Nat} (hg : g < ng) (hl : l < nl) : mwl μ g l = iwl σ b g l := by
  unfold mwl iwl
  rw [h.eiop hg hl]
  congr 1
  unfold ihd
  rw [← h.step hl]
  unfold msf
  rcases msF_n (μ 26 0 0 0 + μ 26 0 0 (6 + 21 * l + 6)) with h | h | h <;> rw [h] <;> decide
theorem le_nlt (x y : Int32) : decide (x ≤ y) = !decide (y < x) := by
  by_cases h : x ≤ y
  · rw [decide_eq_true h, decide_eq_false (i_nlt.mpr h)]; rfl
  · rw [decide_eq_false h, decide_eq_true (i_nle.mp h)]; rfl
theorem Rel.eiwp (h : Rel σ b nl np ng (row μ)) {g p : Nat} (hg : g < ng) (hp : p < np) : mwp μ g p = iwp σ b g p := by
  unfold mwp iwp tdf
  rw [h.ps hp (k := 4) (by decide), h.ps hp (k := 2) (by decide), h.g0 hg, le_nlt]
theorem Rel.erfo (h : Rel σ b nl np ng (row μ)) {g p : Nat} (hg : g < ng) (hp : p < np) : msk μ g p = rfo σ b p g := by
  unfold msk rfo
  rw [h.g0 hg, h.ps hp (k := 2) (by decide), h.ps hp (k := 3) (by decide)]
theorem Rel.esrF (h : Rel σ b nl np ng (row μ)) {g p : Nat} (hg : g < ng) (hp : p < np) : mnp μ g p = srF σ b g p := by
  unfold mnp srF tdf
  rw [h.gs hg (k := 4) (by decide), h.p0 hp, h.ps hp (k := 4) (by decide), h.ps hp (k := 2) (by decide), h.g0 hg]
  by_cases h4 : σ 3 b g 4 = 0
  · have e5 : μ 26 0 0 (212 + 10 * g + 5) = σ 3 b g 5 := (h.2.2.2.2.1 g hg).2.1 (by rw [h4, ← nI_0]; exact nI_ne (by decide))
    rw [if_pos h4, if_pos h4, e5]
    by_cases h5 : σ 3 b g 5 = σ 7 b p 0
    · rw [if_pos h5, if_pos h5]
      by_cases h6 : σ 7 b p 4 = 0
      · rw [if_pos h6, if_pos h6]
        by_cases h7 : σ 7 b p 2 ≤ σ 3 b g 0 + nI 1
        · rw [if_pos h7, if_neg (by rw [decide_eq_false (i_nlt.mpr h7)]; decide)]
        · rw [if_neg h7, if_pos (decide_eq_true (i_nle.mp h7))]
      · rw [if_neg h6, if_neg h6]
    · rw [if_neg h5, if_neg h5]
  · rw [if_neg h4, if_neg h4]
theorem Rel.eqrF (h : Rel σ b nl np ng (row μ)) {g l : Nat} (hg : g < ng) (hl : l < nl) : mnl μ g l = qrF σ b g l ng := by
  unfold mnl qrF
  rw [h.gs hg (k := 4) (by decide), h.l0 hl, h.eiop hg hl]
  by_cases h4 : σ 3 b g 4 = 0
  · have e5 : μ 26 0 0 (212 + 10 * g + 5) = σ 3 b g 5 := (h.2.2.2.2.1 g hg).2.1 (by rw [h4, ← nI_0]; exact nI_ne (by decide))
    rw [if_pos h4, if_pos h4, e5]
    by_cases h5 : σ 3 b g 5 = σ 6 b l 0
    · rw [if_pos h5, if_pos h5]
      by_cases h6 : iop σ b g l = true
      · rw [if_pos h6, if_pos h6]
        by_cases h7 : msf μ l = nI 2
        · rw [if_pos h7, if_pos ((h.held hl).mp h7)]
        · rw [if_neg h7, if_neg (fun z => h7 ((h.held hl).mpr z))]
          have hq := h.2.2.2.2.2 l hl
          rw [hq.gw h.1.2.2]
          obtain ⟨q, q1, q2, -⟩ := hq
          rw [q2, show μ 26 0 0 (6 + 21 * l + 10) = nI q from q2]
          by_cases h8 : q = 10
          · subst h8; rw [if_pos rfl, if_neg (by decide)]
          · rw [if_neg (nI_ne h8 (by omega) (by decide)), if_pos ((nI_ltI (by omega) (by decide)).mpr (by omega))]
      · rw [if_neg h6, if_neg h6]
    · rw [if_neg h5, if_neg h5]
  · rw [if_neg h4, if_neg h4]
variable (G : Gl)
theorem s_X8_guestsWho1 (hC : Cnt σ b nl np ng) (h : Rel σ b nl np ng (row μ)) (x : Int32) : Con G mX8_guestsWho [.ref (zad G.1 10 0 0), .int x, .int (-1)] μ (fun v μ9 => v = some (.int (giF σ b x ng)) ∧ μ9 = μ) noX := by
  have hn := hC.2.2.2
  apply wX8_guestsWho
  refine rn_at (f := fun a i => if σ 3 b i 4 = x then a + 1 else a) (T := fun i a => VL G mX8_guestsWho _ _ 5 [(0, .ref (zad G.1 10 0 0)), (1, .int x), (2, .int (-1)), (3, .int a), (4, .int (nI i))] [] μ) (n := ng) ?_ (nI 0) ?_
  · intro i a hi hT
    apply wX8_guestsWho_5
    rw [h.gs hi (k := 4) (by decide), nI_0, nI_1', Int32.add_zero]
    refine ⟨fun z => absurd ((cle (h.cng hC)).mp z) (by omega), fun _ => ⟨by omega, fun z => ?_, fun z => ⟨fun _ => ?_, fun z2 => absurd rfl z2⟩⟩⟩
    · rw [if_neg z] at hT; exact hT
    · rw [if_pos z] at hT; exact hT
  · apply wX8_guestsWho_5
    exact ⟨fun _ => ⟨rfl, rfl⟩, fun z => absurd ((cle (h.cng hC)).mpr (Nat.le_refl _)) z⟩
theorem s_X8_guestsWho2 (hC : Cnt σ b nl np ng) (h : Rel σ b nl np ng (row μ)) (x y : Int32) (hx : ¬ x = nI 4) (hy : ¬ y = -1) : Con G mX8_guestsWho [.ref (zad G.1 10 0 0), .int x, .int y] μ (fun v μ9 => v = some (.int (gwF σ b x y ng)) ∧ μ9 = μ) noX := by
  have hn := hC.2.2.2
  apply wX8_guestsWho
  refine rn_at (f := fun a i => if gis σ b i x y = true then a + 1 else a) (T := fun i a => VL G mX8_guestsWho _ _ 5 [(0, .ref (zad G.1 10 0 0)), (1, .int x), (2, .int y), (3, .int a), (4, .int (nI i))] [] μ) (n := ng) ?_ (nI 0) ?_
  · intro i a hi hT
    apply wX8_guestsWho_5
    rw [h.gs hi (k := 4) (by decide), nI_0, nI_1', Int32.add_zero]
    refine ⟨fun z => absurd ((cle (h.cng hC)).mp z) (by omega), fun _ => ⟨by omega, fun z => ?_, fun z => ⟨fun z2 => absurd z2 hy, fun _ => ⟨by omega, ?_⟩⟩⟩⟩
    · rw [if_neg (fun e => z (gis_y e).1)] at hT; exact hT
    · rw [show μ 26 0 0 (212 + 10 * i + 5) = σ 3 b i 5 from (h.2.2.2.2.1 i hi).2.1 (by rw [z]; exact hx)]
      refine ⟨fun z3 => ?_, fun z3 => ?_⟩
      · rw [if_neg (fun e => z3 (gis_y e).2)] at hT; exact hT
      · rw [if_pos (by unfold gis; rw [z, z3]; simp)] at hT; exact hT
  · apply wX8_guestsWho_5
    exact ⟨fun _ => ⟨rfl, rfl⟩, fun z => absurd ((cle (h.cng hC)).mpr (Nat.le_refl _)) z⟩
theorem s_X8_openPistes (hC : Cnt σ b nl np ng) (h : Rel σ b nl np ng (row μ)) : Con G mX8_openPistes [.ref (zad G.1 10 0 0)] μ (fun v μ9 => v = some (.int (opF σ b np)) ∧ μ9 = μ) noX := by
  have hn := hC.2.1.2
  apply wX8_openPistes
  refine rn_at (f := fun a i => if σ 7 b i 4 = 0 then a + 1 else a) (T := fun i a => VL G mX8_openPistes _ _ 4 [(0, .ref (zad G.1 10 0 0)), (1, .int a), (2, .int (nI i))] [] μ) (n := np) ?_ (nI 0) ?_
  · intro i a hi hT
    apply wX8_openPistes_4
    rw [h.ps hi (k := 4) (by decide), nI_0, nI_1', Int32.add_zero]
    refine ⟨fun z => absurd ((cle (h.cnp hC)).mp z) (by omega), fun _ => ⟨by omega, fun z => ?_, fun z => ?_⟩⟩
    · rw [if_neg z] at hT; exact hT
    · rw [if_pos z] at hT; exact hT
  · apply wX8_openPistes_4
    exact ⟨fun _ => ⟨rfl, rfl⟩, fun z => absurd ((cle (h.cnp hC)).mpr (Nat.le_refl _)) z⟩
theorem or0 (a : Int32) : a ||| nI 0 = a := by rw [nI_0]; exact Int32.or_zero
theorem t_wind {P : Option Value → St → Prop} {X : String → St → Prop} (hC : Cnt σ b nl np ng) (h : Rel σ b nl np ng (row μ)) (x : Int32) (hP : P (some (.int (hlF σ b nl))) μ) : VL G mX8_setWind P X 36 [(0, .ref (zad G.1 10 0 0)), (1, .int x), (2, .int (nI 0)), (3, .int (nI 0))] [] μ := by
  have hn := hC.1.2
  refine rn_at (f := fun a i => if ihd σ b i = true then a ||| ((nI 1) <<< ((nI i) &&& 31)) else a) (T := fun i a => VL G mX8_setWind _ _ 36 [(0, .ref (zad G.1 10 0 0)), (1, .int x), (2, .int a), (3, .int (nI i))] [] μ) (n := nl) ?_ (nI 0) ?_
  · intro i a hi hT
    apply wX8_setWind_36
    rw [or0]
    refine ⟨fun z => absurd ((cle (h.cnl hC)).mp z) (by omega), fun _ => ⟨by omega, fun z => ?_, fun z => ?_⟩⟩
    · rw [if_neg (fun e => z ((h.held hi).mpr e))] at hT; exact hT
    · rw [if_pos ((h.held hi).mp z)] at hT; exact hT
  · apply wX8_setWind_36
    exact ⟨fun _ => hP, fun z => absurd ((cle (h.cnl hC)).mpr (Nat.le_refl _)) z⟩
theorem t_opened {P : Option Value → St → Prop} {X : String → St → Prop} (hC : Cnt σ b nl np ng) (h : Rel σ b nl np ng (row μ)) {g : Nat} (hg : g < ng) (hP : P (some (.int (lfF σ b g nl))) μ) : VL G mX8_opened P X 23 [(0, .ref (zad G.1 10 0 0)), (1, .int (nI g)), (2, .int (nI 0)), (3, .int (nI 0))] [] μ := by
  have hn := hC.1.2
  have hn2 := hC.2.2.2
  refine rn_at (f := fun a i => if iop σ b g i = true then a ||| ((nI 1) <<< ((nI i) &&& 31)) else a) (T := fun i a => VL G mX8_opened _ _ 23 [(0, .ref (zad G.1 10 0 0)), (1, .int (nI g)), (2, .int a), (3, .int (nI i))] [] μ) (n := nl) ?_ (nI 0) ?_
  · intro i a hi hT
    apply wX8_opened_23
    rw [or0]
    refine ⟨fun z => absurd ((cle (h.cnl hC)).mp z) (by omega), fun _ => ⟨g, rfl, by omega, by omega, ?_⟩⟩
    rw [h.eiop hg hi]
    refine ⟨fun z => ?_, fun z => ?_⟩
    · rw [if_neg (by rw [z]; decide)] at hT; exact hT
    · rw [if_pos z] at hT; exact hT
  · apply wX8_opened_23
    exact ⟨fun _ => hP, fun z => absurd ((cle (h.cnl hC)).mpr (Nat.le_refl _)) z⟩
theorem s_X8_audit (hC : Cnt σ b nl np ng) (h : Rel σ b nl np ng (row μ)) : Con G mX8_audit [.ref (zad G.1 10 0 0)] μ (fun v μ9 => v = some (.int (agF σ b nl np ng)) ∧ μ9 = up μ 10 0 0 6 (nI 0)) noX := by
  have hn1 := hC.1.2
  have hn2 := hC.2.1.2
  have hn3 := hC.2.2.2
  have f26 : ∀ j, up μ 10 0 0 6 (nI 0) 26 0 0 j = μ 26 0 0 j := fun j => up_k (by decide)
  apply wX8_audit
  refine rn_at (f := agL σ b) (T := fun i a => VL G mX8_audit _ _ 11 [(0, .ref (zad G.1 10 0 0)), (1, .int a), (2, .int (nI 0)), (3, .int (nI i))] [] (up μ 10 0 0 6 (nI 0))) (n := nl) ?_ (nI 0) ?_
  · intro i a hi hT
    apply wX8_audit_11
    rw [f26, f26, h.ls hi (k := 8) (by decide)]
    exact ⟨fun z => absurd ((cle (h.cnl hC)).mp z) (by omega), fun _ => ⟨by omega, hT⟩⟩
  apply wX8_audit_11
  rw [f26]
  refine ⟨fun _ => ?_, fun z => absurd ((cle (h.cnl hC)).mpr (Nat.le_refl _)) z⟩
  refine rn_at (f := agP σ b) (T := fun i a => VL G mX8_audit _ _ 44 [(0, .ref (zad G.1 10 0 0)), (1, .int (rn (agL σ b) 0 nl (nI 0))), (2, .int a), (3, .int (nI i))] [] (up μ 10 0 0 6 (nI 0))) (n := np) ?_ (nI 0) ?_
  · intro i a hi hT
    apply wX8_audit_44
    rw [f26, f26, h.ps hi (k := 7) (by decide)]
    exact ⟨fun z => absurd ((cle (h.cnp hC)).mp z) (by omega), fun _ => ⟨by omega, hT⟩⟩
  apply wX8_audit_44
  rw [f26]
  refine ⟨fun _ => ?_, fun z => absurd ((cle (h.cnp hC)).mpr (Nat.le_refl _)) z⟩
  refine rn_at (f := agG σ b) (T := fun i a => VL G mX8_audit _ _ 77 [(0, .ref (zad G.1 10 0 0)), (1, .int a.1), (2, .int a.2), (3, .int (nI i))] [] (up μ 10 0 0 6 (nI 0))) (n := ng) ?_ (rn (agL σ b) 0 nl (nI 0), rn (agP σ b) 0 np (nI 0)) ?_
  · intro i a hi hT
    have g4 := (h.2.2.2.2.1 i hi).2.2.2
    apply wX8_audit_77
    rw [f26, f26, f26, show μ 26 0 0 (212 + 10 * i + 7) = σ 3 b i 8 from g4 0 (by decide), show μ 26 0 0 (212 + 10 * i + 8) = σ 3 b i 9 from g4 1 (by decide)]
    exact ⟨fun z => absurd ((cle (h.cng hC)).mp z) (by omega), fun _ => ⟨by omega, by omega, hT⟩⟩
  apply wX8_audit_77
  rw [f26]
  exact ⟨fun _ => ⟨rfl, rfl⟩, fun z => absurd ((cle (h.cng hC)).mpr (Nat.le_refl _)) z⟩
/-- the reference's search for the busiest lift: the most and the lift found -/
def bzS (σ : St) (b : Nat) (a : Int32 × Int32) (i : Nat) : Int32 × Int32 := if σ 6 b i 8 ≤ a.1 then a else (σ 6 b i 8, nI i)
theorem s_X8_busiest (hC : Cnt σ b nl np ng) (h : Rel σ b nl np ng (row μ)) : Con G mX8_busiest [.ref (zad G.1 10 0 0)] μ (fun v μ9 => v = some (.int (rn (bzS σ b) 0 nl (nI 0, nI 0)).2) ∧ μ9 = up μ 10 0 0 6 (if (rn (bzS σ b) 0 nl (nI 0, nI 0)).1 = 0 then nI 1 else nI 0)) noX := by
  have hn := hC.1.2
  apply wX8_busiest
  refine rn_at (f := bzS σ b) (T := fun i a => VL G mX8_busiest _ _ 6 [(0, .ref (zad G.1 10 0 0)), (1, .int a.1), (2, .int a.2), (3, .int (nI i))] [] μ) (n := nl) ?_ (nI 0, nI 0) ?_
  · intro i a hi hT
    apply wX8_busiest_6
    rw [h.ls hi (k := 8) (by decide)]
    refine ⟨fun z => absurd ((cle (h.cnl hC)).mp z) (by omega), fun _ => ⟨by omega, fun z => ?_, fun z => ?_⟩⟩
    · rw [bzS, if_pos z] at hT; exact hT
    · rw [bzS, if_neg z] at hT; exact hT
  · apply wX8_busiest_6
    refine ⟨fun _ => ⟨fun z => ⟨rfl, by rw [if_neg z]⟩, fun z => ⟨rfl, by rw [if_pos z]⟩⟩, fun z => absurd ((cle (h.cnl hC)).mpr (Nat.le_refl _)) z⟩
theorem busy_same (σ : St) (b nl : Nat) : (rn (bzS σ b) 0 nl (nI 0, nI 0)).1 = (lmF σ b nl).2 ∧ (((lmF σ b nl).1 = -1 ∧ (lmF σ b nl).2 = nI 0 ∧ (rn (bzS σ b) 0 nl (nI 0, nI 0)).2 = nI 0) ∨ ((lmF σ b nl).1 = (rn (bzS σ b) 0 nl (nI 0, nI 0)).2 ∧ nI 0 < (lmF σ b nl).2 ∧ ∃ i, i < nl ∧ (lmF σ b nl).1 = nI i)) := by
  have key : ∀ n, n ≤ nl → (rn (bzS σ b) 0 n (nI 0, nI 0)).1 = (lmF σ b n).2 ∧ (((lmF σ b n).1 = -1 ∧ (lmF σ b n).2 = nI 0 ∧ (rn (bzS σ b) 0 n (nI 0, nI 0)).2 = nI 0) ∨ ((lmF σ b n).1 = (rn (bzS σ b) 0 n (nI 0, nI 0)).2 ∧ nI 0 < (lmF σ b n).2 ∧ ∃ i, i < nl ∧ (lmF σ b n).1 = nI i)) := by
    intro n
    induction n with
    | zero => exact fun _ => ⟨rfl, Or.inl ⟨rfl, rfl, rfl⟩⟩
    | succ n ih =>
      intro hn
      obtain ⟨h1, h2⟩ := ih (by omega)
      have e1 : rn (bzS σ b) 0 (n + 1) (nI 0, nI 0) = bzS σ b (rn (bzS σ b) 0 n (nI 0, nI 0)) n := by rw [rn_end, Nat.zero_add]
      have e2 : lmF σ b (n + 1) = lmS σ b (lmF σ b n) n := by unfold lmF; rw [rn_end, Nat.zero_add]
      rw [e1, e2, bzS, lmS, h1]
      by_cases hc : σ 6 b n 8 ≤ (lmF σ b n).2
      · rw [if_pos hc, if_pos hc]; exact ⟨h1, h2⟩
      · rw [if_neg hc, if_neg hc]
        refine ⟨rfl, Or.inr ⟨rfl, ?_, n, by omega, rfl⟩⟩
        have h3 := i_nle.mp hc
        rcases h2 with h2 | h2
        · rw [h2.2.1] at h3; exact h3
        · exact Int32.lt_trans h2.2.1 h3
  exact key nl (Nat.le_refl _)
end RR
