/-! ===== what ticks touch, and how many come ===== -/
section TKL
variable {b nl np ng : Nat}
theorem tlF_k (σ : St) (b nl ng : Nat) {k b' i s : Nat} (h : ¬ (b' = b ∧ (k = 3 ∨ k = 6))) : tlF b nl ng σ k b' i s = σ k b' i s := by
  refine rn_inv0 (f := tlS b ng) (I := fun x => x k b' i s = σ k b' i s) (fun j x _ hx => ?_) σ rfl
  have u6 : ∀ (y : St) l t z, up y 6 b l t z k b' i s = y k b' i s := fun y l t z => by unfold up; rw [if_neg (by omega)]
  unfold tlS
  split
  · rw [u6]; exact hx
  · rw [(bcF_cf _ b j ng).1 k b' i s (by omega) (by omega), u6, u6, u6]; exact hx
theorem gpF_b (σ : St) (b np : Nat) {k b' i s : Nat} (h : ¬ (b' = b ∧ k = 7)) : gpF b np σ k b' i s = σ k b' i s := by
  refine rn_inv0 (f := gpS b) (I := fun x => x k b' i s = σ k b' i s) (fun j x _ hx => ?_) σ rfl
  have u7 : ∀ (y : St) l t z, up y 7 b l t z k b' i s = y k b' i s := fun y l t z => by unfold up; rw [if_neg (by omega)]
  unfold gpS
  split
  · split
    · rw [u7]; exact hx
    · unfold pfr; rw [u7, u7, u7, u7]; exact hx
  · exact hx
theorem cpF_b (σ : St) (b np : Nat) {k b' i s : Nat} (h : ¬ (b' = b ∧ k = 7)) : cpF b np σ k b' i s = σ k b' i s := by
  refine rn_inv0 (f := cpS b) (I := fun x => x k b' i s = σ k b' i s) (fun j x _ hx => ?_) σ rfl
  have u7 : ∀ (y : St) l t z, up y 7 b l t z k b' i s = y k b' i s := fun y l t z => by unfold up; rw [if_neg (by omega)]
  unfold cpS
  split
  · split
    · exact hx
    · rw [u7]; exact hx
  · exact hx
theorem tkS_o (x : St × Int32) (n : Nat) {k b' i s : Nat} (h : ¬ (b' = b ∧ (k = 3 ∨ k = 6 ∨ k = 7))) (h2 : ¬ (b' = b ∧ k = 2 ∧ i = 0 ∧ s = 7)) : (tkS b nl np ng x n).1 k b' i s = x.1 k b' i s := by
  show up _ _ _ _ _ _ _ _ _ _ = _
  unfold up
  rw [if_neg (by omega), cpF_b _ _ _ (by omega), gpF_b _ _ _ (by omega), tlF_k _ _ _ _ (by omega), (msFn_cf _ b ng).1 k b' i s (by omega), (mrF_cf _ b ng).1 k b' i s (by omega)]
theorem tkS_t (x : St × Int32) (n : Nat) : (tkS b nl np ng x n).1 2 b 0 7 = x.1 2 b 0 7 + nI 1 := by
  show up _ _ _ _ _ _ _ _ _ _ = _
  rw [up_self, cpF_b _ _ _ (by omega), gpF_b _ _ _ (by omega), tlF_k _ _ _ _ (by omega), (msFn_cf _ b ng).1 2 b 0 7 (by omega), (mrF_cf _ b ng).1 2 b 0 7 (by omega)]
theorem tkF_o (σ : St) (n : Nat) {k b' i s : Nat} (h : ¬ (b' = b ∧ (k = 3 ∨ k = 6 ∨ k = 7))) (h2 : ¬ (b' = b ∧ k = 2 ∧ i = 0 ∧ s = 7)) : (tkF b nl np ng n σ).1 k b' i s = σ k b' i s :=
  rn_inv0 (f := tkS b nl np ng) (I := fun x => x.1 k b' i s = σ k b' i s) (fun j x _ hx => by rw [tkS_o x j h h2]; exact hx) (σ, nI 0) rfl
theorem tkF_t (σ : St) (n : Nat) : (tkF b nl np ng n σ).1 2 b 0 7 = σ 2 b 0 7 + nI n := by
  refine rn_inv (f := tkS b nl np ng) (I := fun j x => x.1 2 b 0 7 = σ 2 b 0 7 + nI j) (fun j x _ hx => ?_) n 0 (by omega) (σ, nI 0) (by show σ 2 b 0 7 = _; rw [nI_0, Int32.add_zero])
  show (tkS b nl np ng x j).1 2 b 0 7 = σ 2 b 0 7 + nI (j + 1)
  rw [tkS_t x j, hx, ← nI_add j 1, Int32.add_assoc]
/-- who comes is counted -/
theorem mr_n (σ : St) : ∃ m, m ≤ ng ∧ (mrF b ng σ).2 = nI m := by
  refine rn_inv (f := mrS b) (I := fun j x => ∃ m, m ≤ j ∧ x.2 = nI m) (fun j x _ hx => ?_) ng 0 (by omega) (σ, nI 0) ⟨0, by omega, rfl⟩
  obtain ⟨m, m1, m2⟩ := hx
  unfold mrS
  split
  · split
    · exact ⟨m, by omega, m2⟩
    · exact ⟨m + 1, by omega, by rw [m2, ← nI_1', nI_add]⟩
  · exact ⟨m, by omega, m2⟩
theorem ms_n (σ : St) : ∃ m, m ≤ ng ∧ (msFn b ng σ).2 = nI m := by
  refine rn_inv (f := msS b) (I := fun j x => ∃ m, m ≤ j ∧ x.2 = nI m) (fun j x _ hx => ?_) ng 0 (by omega) (σ, nI 0) ⟨0, by omega, rfl⟩
  obtain ⟨m, m1, m2⟩ := hx
  unfold msS
  split
  · split
    · exact ⟨m, by omega, m2⟩
    · exact ⟨m + 1, by omega, by rw [m2, ← nI_1', nI_add]⟩
  · exact ⟨m, by omega, m2⟩
theorem tk_n (σ : St) (n : Nat) : ∃ m, m ≤ 2 * ng * n ∧ (tkF b nl np ng n σ).2 = nI m := by
  refine rn_inv (f := tkS b nl np ng) (I := fun j x => ∃ m, m ≤ 2 * ng * j ∧ x.2 = nI m) (fun j x _ hx => ?_) n 0 (by omega) (σ, nI 0) ⟨0, by omega, rfl⟩
  obtain ⟨m, m1, m2⟩ := hx
  obtain ⟨p, p1, p2⟩ := mr_n (b := b) (ng := ng) x.1
  obtain ⟨q, q1, q2⟩ := ms_n (b := b) (ng := ng) (mrF b ng x.1).1
  refine ⟨m + p + q, by rw [Nat.mul_add]; omega, ?_⟩
  show x.2 + (mrF b ng x.1).2 + (msFn b ng (mrF b ng x.1).1).2 = _
  rw [m2, p2, q2, nI_add, nI_add]
theorem fo_tk (σ : St) (n : Nat) : FO σ (tkF 0 nl np ng n σ).1 := fun k b' i s h => tkF_o σ n (by omega) (by omega)
theorem fo_cd (σ : St) : FO σ (cdF 0 nl np ng σ) := fun k b' i s h => by
  rw [cdF_cf, if_neg (by omega), if_neg (by omega), if_neg (by omega), if_neg (by omega), if_neg (by omega)]
theorem fo_lq (σ : St) (g l : Nat) : FO σ (lqF 0 g l ng σ) := fun k b' i s h => by
  unfold lqF
  rw [gbc_r, if_neg (by omega), (lqS_cf σ 0 g ng).1 k b' i s (by omega)]
theorem fo_we (σ : St) (x1 x2 x3 x4 x5 : Int32) : FO σ (weF σ 0 ng x1 x2 x3 x4 x5) := by
  unfold weF
  exact fo_up (fo_gbc (fo_up (fo_up (fo_up (fo_up (fo_up (fo_up (fo_up (FO.rfl' σ) (by omega)) (by omega)) (by omega)) (by omega)) (by omega)) (by omega)) (by omega))) (by omega)
theorem fo_sp (σ : St) (g p : Nat) : FO σ (spF σ 0 g p) := by
  unfold spF
  exact fo_up (fo_up (fo_up (fo_gbc (FO.rfl' σ)) (by omega)) (by omega)) (by omega)
theorem fo_jq (σ : St) (g l : Nat) : FO σ (jqF σ 0 g l ng) := by
  unfold jqF
  exact fo_gbc (FO.rfl' σ)
theorem fo_nl (σ : St) (x1 x2 x3 x4 x5 x6 : Int32) : FO σ (nlF σ 0 nl x1 x2 x3 x4 x5 x6) := by
  unfold nlF
  exact fo_up (fo_up (fo_up (fo_up (fo_up (fo_up (fo_up (fo_up (fo_up (fo_up (fo_up (FO.rfl' σ) (by omega)) (by omega)) (by omega)) (by omega)) (by omega)) (by omega)) (by omega)) (by omega)) (by omega)) (by omega)) (by omega)
theorem fo_np (σ : St) (x1 x2 x3 x4 : Int32) : FO σ (npF σ 0 np x1 x2 x3 x4) := by
  unfold npF
  exact fo_up (fo_up (fo_up (fo_up (fo_up (fo_up (fo_up (fo_up (fo_up (FO.rfl' σ) (by omega)) (by omega)) (by omega)) (by omega)) (by omega)) (by omega)) (by omega)) (by omega)) (by omega)
end TKL
