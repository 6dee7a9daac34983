/-! ===== what the constructors build ===== -/
/-- the ints at the start -/
def μ0 : St := fun k _ _ s => if k = 9 ∧ s = 8 then -1 else if k = 36 ∧ s = 1 then 1 else 0
/-- a cell of the whole world at its start -/
def fc (G : Gl) : Cs := fun q => ((zdec q).1, zvl G.1 μ0 (zdec q).1 (zdec q).2.1 (zdec q).2.2)
theorem fc_at (G : Gl) {k b i : Nat} (h : zok k b i) : fc G (zof k b i) = (k, zvl G.1 μ0 k b i) := by
  unfold fc
  rw [zdec_of h]
section Ctors
variable {G : Gl}
theorem k_X4 (a : Nat) (w : Nat × Cs) : ConC G nX4 [.ref a] w w := by
  refine conC_of pn_X4 rfl (Nat.le_of_ble_eq_true rfl) ?_
  refine c_aload_n (n := 1) dX4_init_0 rfl rfl ?_
  refine c_obj (n := 4) dX4_init_1 rfl oi_X4_1 oi_inst oi_code ⟨Nat.le_of_ble_eq_true rfl, Nat.le_of_ble_eq_true rfl⟩ ?_
  exact c_ret dX4_init_4 rfl rfl rfl
theorem k_X5 (a : Nat) (w : Nat × Cs) : ConC G nX5 [.ref a] w w := by
  refine conC_of pn_X5 rfl (Nat.le_of_ble_eq_true rfl) ?_
  refine c_aload_n (n := 1) dX5_init_0 rfl rfl ?_
  refine c_obj (n := 4) dX5_init_1 rfl oi_X5_3 oi_inst oi_code ⟨Nat.le_of_ble_eq_true rfl, Nat.le_of_ble_eq_true rfl⟩ ?_
  exact c_ret dX5_init_4 rfl rfl rfl
theorem k_X1 (a : Nat) (w : Nat × Cs) : ConC G nX1 [.ref a] w w := by
  refine conC_of pn_X1 rfl (Nat.le_of_ble_eq_true rfl) ?_
  refine c_aload_n (n := 1) dX1_init_0 rfl rfl ?_
  refine c_obj (n := 4) dX1_init_1 rfl oi_X1_3 oi_inst oi_code ⟨Nat.le_of_ble_eq_true rfl, Nat.le_of_ble_eq_true rfl⟩ ?_
  exact c_ret dX1_init_4 rfl rfl rfl
/-- of an area's rows, how many places are filled -/
def cnt (ph i p full : Nat) : Nat := if ph < p then 0 else if ph = p then i else full
def rwf (G : Gl) (a i : Nat) : Nat → Value := fun s => if s < i then .ref (G.1 + (a + s)) else .null
def aFl (G : Gl) (z ph : Nat) : Nat → Value := fun s => match s with
  | 0 => if 1 ≤ ph then .ref (G.1 + (z + 1)) else .null
  | 1 => if 2 ≤ ph then .ref (G.1 + (z + 8)) else .null
  | 2 => if 3 ≤ ph then .ref (G.1 + (z + 19)) else .null
  | _ => .int 0
def zi : Nat → Value := fun _ => .int 0
/-- an area under construction at z -/
def ac (G : Gl) (z : Nat) (c : Cs) (ph i : Nat) : Cs := fun q => if q < z then c q else if q = z then (2, aFl G z ph) else if q = z + 1 then (20, rwf G (z + 2) (cnt ph i 1 6)) else if q < z + 8 then (6, zi) else if q = z + 8 then (21, rwf G (z + 9) (cnt ph i 2 10)) else if q < z + 19 then (7, zi) else if q = z + 19 then (22, rwf G (z + 20) (cnt ph i 3 16)) else (3, zi)
section AC
variable {z : Nat} {c : Cs} {ph i : Nat}
theorem ac_lo {q : Nat} (h : q < z) : ac G z c ph i q = c q := by unfold ac; rw [if_pos h]
theorem ac_0 : ac G z c ph i z = (2, aFl G z ph) := by unfold ac; rw [if_neg (by omega), if_pos rfl]
theorem ac_1 : ac G z c ph i (z + 1) = (20, rwf G (z + 2) (cnt ph i 1 6)) := by unfold ac; rw [if_neg (by omega), if_neg (by omega), if_pos rfl]
theorem ac_l {q : Nat} (h : z + 2 ≤ q) (h2 : q < z + 8) : ac G z c ph i q = (6, zi) := by unfold ac; rw [if_neg (by omega), if_neg (by omega), if_neg (by omega), if_pos h2]
theorem ac_8 : ac G z c ph i (z + 8) = (21, rwf G (z + 9) (cnt ph i 2 10)) := by unfold ac; rw [if_neg (by omega), if_neg (by omega), if_neg (by omega), if_neg (by omega), if_pos rfl]
theorem ac_p {q : Nat} (h : z + 9 ≤ q) (h2 : q < z + 19) : ac G z c ph i q = (7, zi) := by unfold ac; rw [if_neg (by omega), if_neg (by omega), if_neg (by omega), if_neg (by omega), if_neg (by omega), if_pos h2]
theorem ac_19 : ac G z c ph i (z + 19) = (22, rwf G (z + 20) (cnt ph i 3 16)) := by unfold ac; rw [if_neg (by omega), if_neg (by omega), if_neg (by omega), if_neg (by omega), if_neg (by omega), if_neg (by omega), if_pos rfl]
theorem ac_g {q : Nat} (h : z + 20 ≤ q) : ac G z c ph i q = (3, zi) := by unfold ac; rw [if_neg (by omega), if_neg (by omega), if_neg (by omega), if_neg (by omega), if_neg (by omega), if_neg (by omega), if_neg (by omega)]
/-- two stages differ in the area's own cell and its rows alone -/
theorem ac_ne {ph' i' q : Nat} (h0 : q ≠ z) (h1 : q ≠ z + 1 ∨ cnt ph i 1 6 = cnt ph' i' 1 6) (h8 : q ≠ z + 8 ∨ cnt ph i 2 10 = cnt ph' i' 2 10) (h19 : q ≠ z + 19 ∨ cnt ph i 3 16 = cnt ph' i' 3 16) : Ce (ac G z c ph i q) (ac G z c ph' i' q) := by
  refine Ce.of ?_
  rcases Nat.lt_or_ge q z with h | h
  · rw [ac_lo h, ac_lo h]
  · rcases Nat.lt_or_ge q (z + 2) with h2 | h2
    · have e : q = z + 1 := by omega
      subst e
      rw [ac_1, ac_1, (h1.resolve_left (fun z => z rfl))]
    · rcases Nat.lt_or_ge q (z + 8) with h3 | h3
      · rw [ac_l h2 h3, ac_l h2 h3]
      · rcases Nat.lt_or_ge q (z + 9) with h4 | h4
        · have e : q = z + 8 := by omega
          subst e
          rw [ac_8, ac_8, (h8.resolve_left (fun z => z rfl))]
        · rcases Nat.lt_or_ge q (z + 19) with h5 | h5
          · rw [ac_p h4 h5, ac_p h4 h5]
          · rcases Nat.lt_or_ge q (z + 20) with h6 | h6
            · have e : q = z + 19 := by omega
              subst e
              rw [ac_19, ac_19, (h19.resolve_left (fun z => z rfl))]
            · rw [ac_g h6, ac_g h6]
end AC
theorem updV_rwf (a i : Nat) : updV (rwf G a i) i (.ref (G.1 + (a + i))) = rwf G a (i + 1) := by
  funext s
  unfold updV rwf
  by_cases h : s = i
  · subst h
    rw [if_pos rfl, if_pos (by omega)]
  · rw [if_neg h]
    by_cases h2 : s < i
    · rw [if_pos h2, if_pos (by omega)]
    · rw [if_neg h2, if_neg (by omega)]
theorem rwf_0 (a : Nat) : rwf G a 0 = fun _ => Value.null := by
  funext s
  unfold rwf
  rw [if_neg (by omega)]
theorem aFl_1 (z : Nat) : updV (aFl G z 0) 0 (.ref (G.1 + (z + 1))) = aFl G z 1 := by
  funext s
  unfold updV aFl
  match s with
  | 0 => rfl
  | 1 => rfl
  | 2 => rfl
  | n + 3 => rfl
theorem aFl_2 (z : Nat) : updV (aFl G z 1) 1 (.ref (G.1 + (z + 8))) = aFl G z 2 := by
  funext s
  unfold updV aFl
  match s with
  | 0 => rfl
  | 1 => rfl
  | 2 => rfl
  | n + 3 => rfl
theorem aFl_3 (z : Nat) : updV (aFl G z 2) 2 (.ref (G.1 + (z + 19))) = aFl G z 3 := by
  funext s
  unfold updV aFl
  match s with
  | 0 => rfl
  | 1 => rfl
  | 2 => rfl
  | n + 3 => rfl
theorem dv_X4 : ∀ j, j < 10 → defaultValue (tyX4 j) = .int 0 := by decide +kernel
theorem dv_X5 : ∀ j, j < 8 → defaultValue (tyX5 j) = .int 0 := by decide +kernel
theorem dv_X1 : ∀ j, j < 11 → defaultValue (tyX1 j) = .int 0 := by decide +kernel
end Ctors
