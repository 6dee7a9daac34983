/-! ===== the law's loop ===== -/
theorem l_len {L : Nat} (hL : L ≤ 3584) : (nI L - nI 7).toInt = (L : Int) - 7 := by
  have h7 : (nI 7).toInt = (7 : Nat) := nI_toInt (by decide)
  rw [Int32.toInt_sub, nI_toInt (by omega), h7]
  exact Int.bmod_eq_of_le (by omega) (by omega)
section LLoop
variable {G : Gl} {hh : List (Nat × Nat × Nat × Nat)} {b L : Nat} {xs : Nat → Int32} {μ : St} {cells slots W i : Nat}
/-- one call of the script -/
theorem l_case (hG : G.2.2.2 = true) (hI : Inv μ W) (hi : i + 7 ≤ L) (hL : L ≤ 3584) (hW : W + 64 < 2 ^ 30) (hc : cells + 1 ≤ 603072) (hs : slots + 6 ≤ 7202922) (K : ∀ μ', Inv μ' (W + 64) → VW G hh b L xs 2576 (LB G b (nI i)) [] μ' (cells + 1) (slots + 6)) (y : Int32) : VW G hh b L xs 45 (LB G b (nI i)) [.int y] μ cells slots := by
  by_cases h : ∃ k, k < 39 ∧ y = nI k
  · obtain ⟨k, hk, rfl⟩ := h
    match k, hk with
    | 0, _ => exact v_tableIn (n := 216) (off := 171) dL_law_45 (by decide) (by decide) (by decide) (by decide) (lc_clear hG hI hi hL hW hc hs K)
    | 1, _ => exact v_tableIn (n := 229) (off := 184) dL_law_45 (by decide) (by decide) (by decide) (by decide) (lc_addLift hG hI hi hL hW hc hs K)
    | 2, _ => exact v_tableIn (n := 347) (off := 302) dL_law_45 (by decide) (by decide) (by decide) (by decide) (lc_addPiste hG hI hi hL hW hc hs K)
    | 3, _ => exact v_tableIn (n := 439) (off := 394) dL_law_45 (by decide) (by decide) (by decide) (by decide) (lc_setWind hG hI hi hL hW hc hs K)
    | 4, _ => exact v_tableIn (n := 495) (off := 450) dL_law_45 (by decide) (by decide) (by decide) (by decide) (lc_lift hG hI hi hL hW hc hs K)
    | 5, _ => exact v_tableIn (n := 563) (off := 518) dL_law_45 (by decide) (by decide) (by decide) (by decide) (lc_piste hG hI hi hL hW hc hs K)
    | 6, _ => exact v_tableIn (n := 631) (off := 586) dL_law_45 (by decide) (by decide) (by decide) (by decide) (lc_open hG hI hi hL hW hc hs K)
    | 7, _ => exact v_tableIn (n := 715) (off := 670) dL_law_45 (by decide) (by decide) (by decide) (by decide) (lc_groom hG hI hi hL hW hc hs K)
    | 8, _ => exact v_tableIn (n := 771) (off := 726) dL_law_45 (by decide) (by decide) (by decide) (by decide) (lc_count hG hI hi hL hW hc hs K)
    | 9, _ => exact v_tableIn (n := 827) (off := 782) dL_law_45 (by decide) (by decide) (by decide) (by decide) (lc_addGuest hG hI hi hL hW hc hs K)
    | 10, _ => exact v_tableIn (n := 931) (off := 886) dL_law_45 (by decide) (by decide) (by decide) (by decide) (lc_guest hG hI hi hL hW hc hs K)
    | 11, _ => exact v_tableIn (n := 999) (off := 954) dL_law_45 (by decide) (by decide) (by decide) (by decide) (lc_queue hG hI hi hL hW hc hs K)
    | 12, _ => exact v_tableIn (n := 1067) (off := 1022) dL_law_45 (by decide) (by decide) (by decide) (by decide) (lc_ski hG hI hi hL hW hc hs K)
    | 13, _ => exact v_tableIn (n := 1135) (off := 1090) dL_law_45 (by decide) (by decide) (by decide) (by decide) (lc_leave hG hI hi hL hW hc hs K)
    | 14, _ => exact v_tableIn (n := 1191) (off := 1146) dL_law_45 (by decide) (by decide) (by decide) (by decide) (lc_whyNotQueue hG hI hi hL hW hc hs K)
    | 15, _ => exact v_tableIn (n := 1259) (off := 1214) dL_law_45 (by decide) (by decide) (by decide) (by decide) (lc_whyNotSki hG hI hi hL hW hc hs K)
    | 16, _ => exact v_tableIn (n := 1327) (off := 1282) dL_law_45 (by decide) (by decide) (by decide) (by decide) (lc_reason hG hI hi hL hW hc hs K)
    | 17, _ => exact v_tableIn (n := 1371) (off := 1326) dL_law_45 (by decide) (by decide) (by decide) (by decide) (lc_opened hG hI hi hL hW hc hs K)
    | 18, _ => exact v_tableIn (n := 1427) (off := 1382) dL_law_45 (by decide) (by decide) (by decide) (by decide) (lc_queued hG hI hi hL hW hc hs K)
    | 19, _ => exact v_tableIn (n := 1495) (off := 1450) dL_law_45 (by decide) (by decide) (by decide) (by decide) (lc_advance hG hI hi hL hW hc hs K)
    | 20, _ => exact v_tableIn (n := 1551) (off := 1506) dL_law_45 (by decide) (by decide) (by decide) (by decide) (lc_endDay hG hI hi hL hW hc hs K)
    | 21, _ => exact v_tableIn (n := 1595) (off := 1550) dL_law_45 (by decide) (by decide) (by decide) (by decide) (lc_arrival hG hI hi hL hW hc hs K)
    | 22, _ => exact v_tableIn (n := 1651) (off := 1606) dL_law_45 (by decide) (by decide) (by decide) (by decide) (lc_nextCabin hG hI hi hL hW hc hs K)
    | 23, _ => exact v_tableIn (n := 1707) (off := 1662) dL_law_45 (by decide) (by decide) (by decide) (by decide) (lc_duration hG hI hi hL hW hc hs K)
    | 24, _ => exact v_tableIn (n := 1787) (off := 1742) dL_law_45 (by decide) (by decide) (by decide) (by decide) (lc_firstPart hG hI hi hL hW hc hs K)
    | 25, _ => exact v_tableIn (n := 1867) (off := 1822) dL_law_45 (by decide) (by decide) (by decide) (by decide) (lc_reachable hG hI hi hL hW hc hs K)
    | 26, _ => exact v_tableIn (n := 1935) (off := 1890) dL_law_45 (by decide) (by decide) (by decide) (by decide) (lc_stranded hG hI hi hL hW hc hs K)
    | 27, _ => exact v_tableIn (n := 2003) (off := 1958) dL_law_45 (by decide) (by decide) (by decide) (by decide) (lc_liftAccount hG hI hi hL hW hc hs K)
    | 28, _ => exact v_tableIn (n := 2071) (off := 2026) dL_law_45 (by decide) (by decide) (by decide) (by decide) (lc_guestAccount hG hI hi hL hW hc hs K)
    | 29, _ => exact v_tableIn (n := 2139) (off := 2094) dL_law_45 (by decide) (by decide) (by decide) (by decide) (lc_pisteAccount hG hI hi hL hW hc hs K)
    | 30, _ => exact v_tableIn (n := 2195) (off := 2150) dL_law_45 (by decide) (by decide) (by decide) (by decide) (lc_audit hG hI hi hL hW hc hs K)
    | 31, _ => exact v_tableIn (n := 2208) (off := 2163) dL_law_45 (by decide) (by decide) (by decide) (by decide) (lc_busiest hG hI hi hL hW hc hs K)
    | 32, _ => exact v_tableIn (n := 2252) (off := 2207) dL_law_45 (by decide) (by decide) (by decide) (by decide) (lc_load hG hI hi hL hW hc hs K)
    | 33, _ => exact v_tableIn (n := 2329) (off := 2284) dL_law_45 (by decide) (by decide) (by decide) (by decide) (lc_append hG hI hi hL hW hc hs K)
    | 34, _ => exact v_tableIn (n := 2387) (off := 2342) dL_law_45 (by decide) (by decide) (by decide) (by decide) (lc_read hG hI hi hL hW hc hs K)
    | 35, _ => exact v_tableIn (n := 2431) (off := 2386) dL_law_45 (by decide) (by decide) (by decide) (by decide) (lc_errorPosition hG hI hi hL hW hc hs K)
    | 36, _ => exact v_tableIn (n := 2475) (off := 2430) dL_law_45 (by decide) (by decide) (by decide) (by decide) (lc_undo hG hI hi hL hW hc hs K)
    | 37, _ => exact v_tableIn (n := 2519) (off := 2474) dL_law_45 (by decide) (by decide) (by decide) (by decide) (lc_save hG hI hi hL hW hc hs K)
    | 38, _ => exact v_tableIn (n := 2532) (off := 2487) dL_law_45 (by decide) (by decide) (by decide) (by decide) (lc_restore hG hI hi hL hW hc hs K)
    | n + 39, hk => exact absurd hk (by omega)
  · exact v_tableOut (n := 2576) dL_law_45 (tsw_out 39 (fun k hk e => h ⟨k, hk, e⟩)) (by decide) (v_wide (a := cells + 1) (b := slots + 6) (Nat.le_succ _) (Nat.le_add_right _ _) (K _ (hI.ig (by omega) (fun _ _ _ _ _ => rfl) (fun _ _ => rfl))))
theorem l_loop (hG : G.2.2.2 = true) (hL : L ≤ 3584) : ∀ (n j : Nat) (μ : St) (cells slots : Nat), 513 ≤ j + n → j ≤ 513 → Inv μ (64 * j) → cells + n ≤ 603072 → slots + 6 * n ≤ 7202922 → VW G hh b L xs 28 (LB G b (nI (7 * j))) [] μ cells slots := by
  intro n
  induction n with
  | zero =>
    intro j μ cells slots h1 h2 hI hc hs
    refine v_iload (n := 30) dL_law_28 rfl rfl ?_
    refine v_aload_n (n := 31) dL_law_30 rfl rfl ?_
    refine l_slen (n := 32) dL_law_31 rfl ?_
    refine v_bipush (n := 34) (x := nI 7) dL_law_32 rfl rfl ?_
    refine v_isub (n := 35) dL_law_34 rfl ?_
    refine v_icmp_gt (n := 38) (t := 2582) dL_law_35 rfl (by decide) (fun _ => ?_) (fun z => ?_)
    · exact v_iconst (n := 2583) (x := 1) dL_law_2582 rfl rfl (l_ret dL_law_2583 (by omega) (by omega))
    · exfalso
      rw [Int32.lt_iff_toInt_lt, l_len hL, nI_toInt (by omega)] at z
      omega
  | succ n ih =>
    intro j μ cells slots h1 h2 hI hc hs
    refine v_iload (n := 30) dL_law_28 rfl rfl ?_
    refine v_aload_n (n := 31) dL_law_30 rfl rfl ?_
    refine l_slen (n := 32) dL_law_31 rfl ?_
    refine v_bipush (n := 34) (x := nI 7) dL_law_32 rfl rfl ?_
    refine v_isub (n := 35) dL_law_34 rfl ?_
    refine v_icmp_gt (n := 38) (t := 2582) dL_law_35 rfl (by decide) (fun _ => ?_) (fun z => ?_)
    · exact v_iconst (n := 2583) (x := 1) dL_law_2582 rfl rfl (l_ret dL_law_2583 (by omega) (by omega))
    · rw [Int32.lt_iff_toInt_lt, l_len hL, nI_toInt (by omega)] at z
      refine v_aload_n (n := 39) dL_law_38 rfl rfl ?_
      refine v_iload (n := 41) dL_law_39 rfl rfl ?_
      refine l_sld (n := 42) (j := 7 * j) dL_law_41 rfl rfl (by omega) hL ?_
      refine v_bipush (n := 44) (x := nI 63) dL_law_42 rfl rfl ?_
      refine v_iand (n := 45) dL_law_44 rfl ?_
      refine l_case hG hI (by omega) hL (by omega) (by omega) (by omega) (fun μ' hI' => ?_) _
      have e : nI (7 * j) + Int32.ofInt 7 = nI (7 * (j + 1)) := by
        rw [show Int32.ofInt 7 = nI 7 by decide, nI_add, Nat.mul_succ]
      refine v_iinc (n := 2579) (L' := LB G b (nI (7 * (j + 1)))) dL_law_2576 rfl rfl e (show 6 ≤ 9 by decide) rfl ?_
      refine v_goto (n := 28) dL_law_2579 (by decide) ?_
      exact ih (j + 1) μ' (cells + 1) (slots + 6) (by omega) (by omega) (by rw [Nat.mul_succ]; exact hI') (by omega) (by omega)
end LLoop
