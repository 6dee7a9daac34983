/-! ===== THE METHODS, and the words of their fields, calls and throws (by program) ===== -/
theorem TB_q1 {w : Cond} (i : Nat) (h : tables_1_1[i]? = some w) : w ∈ lw_tbl := List.mem_append_right _ (List.mem_append_left _ (List.mem_of_getElem? h))
theorem GW_q1 {w : Cond} (i : Nat) (h : tables_1_1[i]? = some w) (hg : goodWord w = true) : w ∈ GW := List.mem_filter.mpr ⟨TB_q1 i h, hg⟩
theorem TB_q2 {w : Cond} (i : Nat) (h : tables_1_2[i]? = some w) : w ∈ lw_tbl := List.mem_append_right _ (List.mem_append_right _ (List.mem_append_left _ (List.mem_of_getElem? h)))
theorem GW_q2 {w : Cond} (i : Nat) (h : tables_1_2[i]? = some w) (hg : goodWord w = true) : w ∈ GW := List.mem_filter.mpr ⟨TB_q2 i h, hg⟩
theorem TB_q3 {w : Cond} (i : Nat) (h : tables_1_3[i]? = some w) : w ∈ lw_tbl := List.mem_append_right _ (List.mem_append_right _ (List.mem_append_right _ (List.mem_append_left _ (List.mem_of_getElem? h))))
theorem GW_q3 {w : Cond} (i : Nat) (h : tables_1_3[i]? = some w) (hg : goodWord w = true) : w ∈ GW := List.mem_filter.mpr ⟨TB_q3 i h, hg⟩
theorem TB_q4 {w : Cond} (i : Nat) (h : tables_1_4[i]? = some w) : w ∈ lw_tbl := List.mem_append_right _ (List.mem_append_right _ (List.mem_append_right _ (List.mem_append_right _ (List.mem_append_left _ (List.mem_of_getElem? h)))))
theorem GW_q4 {w : Cond} (i : Nat) (h : tables_1_4[i]? = some w) (hg : goodWord w = true) : w ∈ GW := List.mem_filter.mpr ⟨TB_q4 i h, hg⟩
theorem TB_q5 {w : Cond} (i : Nat) (h : tables_1_5[i]? = some w) : w ∈ lw_tbl := List.mem_append_right _ (List.mem_append_right _ (List.mem_append_right _ (List.mem_append_right _ (List.mem_append_right _ (List.mem_append_left _ (List.mem_of_getElem? h))))))
theorem GW_q5 {w : Cond} (i : Nat) (h : tables_1_5[i]? = some w) (hg : goodWord w = true) : w ∈ GW := List.mem_filter.mpr ⟨TB_q5 i h, hg⟩
theorem TB_q6 {w : Cond} (i : Nat) (h : tables_1_6[i]? = some w) : w ∈ lw_tbl := List.mem_append_right _ (List.mem_append_right _ (List.mem_append_right _ (List.mem_append_right _ (List.mem_append_right _ (List.mem_append_right _ (List.mem_append_left _ (List.mem_of_getElem? h)))))))
theorem GW_q6 {w : Cond} (i : Nat) (h : tables_1_6[i]? = some w) (hg : goodWord w = true) : w ∈ GW := List.mem_filter.mpr ⟨TB_q6 i h, hg⟩
theorem TB_q7 {w : Cond} (i : Nat) (h : tables_1_7[i]? = some w) : w ∈ lw_tbl := List.mem_append_right _ (List.mem_append_right _ (List.mem_append_right _ (List.mem_append_right _ (List.mem_append_right _ (List.mem_append_right _ (List.mem_append_right _ (List.mem_of_getElem? h)))))))
theorem GW_q7 {w : Cond} (i : Nat) (h : tables_1_7[i]? = some w) (hg : goodWord w = true) : w ∈ GW := List.mem_filter.mpr ⟨TB_q7 i h, hg⟩
def MVok (Z : MD) (k n : Nat) : Prop := k < 20 ∧ (∃ (T : u_T) (N : Nat), vwCl[k]? = some (Z.1.cls, T, N)) ∧ Cond.instanceMethod Z.1 ∈ GW ∧ Cond.selects Z.1.cls Z.1 Z.1 ∈ GW ∧ Cond.initialized Z.1.cls ∈ GW ∧ Cond.code Z.1 Z.2.1 Z.2.2.1 Z.2.2.2.1 ∈ GW ∧ Z.1.cls ≠ "java/lang/invoke/MethodHandle" ∧ Z.1.cls ≠ "java/lang/invoke/VarHandle" ∧ (parseMethodDescriptor Z.1.desc).map (fun d => d.parameters.length) = some n
theorem lkv {own : String} {index k n : Nat} {Z : MD} (h : MVok Z k n) (hl : Cond.methodLink own index Z.1 ∈ GW) : LKV own index Z k n := ⟨h.1, h.2.1, hl, h.2.2⟩
def MSok (Z : MD) (n : Nat) : Prop := Cond.static Z.1 ∈ GW ∧ Cond.initialized Z.1.cls ∈ GW ∧ Cond.code Z.1 Z.2.1 Z.2.2.1 Z.2.2.2.1 ∈ GW ∧ Z.1.cls ≠ "java/lang/invoke/MethodHandle" ∧ Z.1.cls ≠ "java/lang/invoke/VarHandle" ∧ (parseMethodDescriptor Z.1.desc).map (fun d => d.parameters.length) = some n
def MHok (Z : MD) (n : Nat) : Prop := Cond.static Z.1 ∈ GW ∧ Cond.initialized Z.1.cls ∈ GW ∧ Cond.codeWith Z.1 Z.2.1 Z.2.2.1 Z.2.2.2.1 Z.2.2.2.2.2 ∈ GW ∧ Z.1.cls ≠ "java/lang/invoke/MethodHandle" ∧ Z.1.cls ≠ "java/lang/invoke/VarHandle" ∧ (parseMethodDescriptor Z.1.desc).map (fun d => d.parameters.length) = some n
theorem ini_RL : Cond.initialized "SlopeOperatorLaw" ∈ GW := GW_q1 0 (by decide +kernel) rfl
theorem ini_RX7 : Cond.initialized "SlopeOperator" ∈ GW := GW_q1 1 (by decide +kernel) rfl
theorem ini_RX0 : Cond.initialized "SlopeOperator$Area" ∈ GW := GW_q1 2 (by decide +kernel) rfl
theorem ini_RX4 : Cond.initialized "SlopeOperator$Lift" ∈ GW := GW_q1 3 (by decide +kernel) rfl
theorem ini_RX5 : Cond.initialized "SlopeOperator$Piste" ∈ GW := GW_q1 4 (by decide +kernel) rfl
theorem ini_RX1 : Cond.initialized "SlopeOperator$Guest" ∈ GW := GW_q1 5 (by decide +kernel) rfl
theorem ini_RX2 : Cond.initialized "SlopeOperator$History" ∈ GW := GW_q1 6 (by decide +kernel) rfl
theorem ini_RX3 : Cond.initialized "SlopeOperator$Input" ∈ GW := GW_q1 7 (by decide +kernel) rfl
theorem ini_RX6 : Cond.initialized "SlopeOperator$Ways" ∈ GW := GW_q1 8 (by decide +kernel) rfl
theorem ini_RX8 : Cond.initialized "SlopeOperatorModel" ∈ GW := GW_q1 9 (by decide +kernel) rfl
theorem ini_JThrowable : Cond.initialized "java/lang/Throwable" ∈ GW := GW_q1 10 (by decide +kernel) rfl
theorem ini_JException : Cond.initialized "java/lang/Exception" ∈ GW := GW_q1 11 (by decide +kernel) rfl
theorem ini_JRuntimeException : Cond.initialized "java/lang/RuntimeException" ∈ GW := GW_q1 12 (by decide +kernel) rfl
theorem ini_JIndexOutOfBoundsException : Cond.initialized "java/lang/IndexOutOfBoundsException" ∈ GW := GW_q1 13 (by decide +kernel) rfl
theorem ini_JArrayIndexOutOfBoundsException : Cond.initialized "java/lang/ArrayIndexOutOfBoundsException" ∈ GW := GW_q1 14 (by decide +kernel) rfl
theorem ini_JString : Cond.initialized "java/lang/String" ∈ GW := GW_q1 15 (by decide +kernel) rfl
theorem ini_JIllegalArgumentException : Cond.initialized "java/lang/IllegalArgumentException" ∈ GW := GW_q1 16 (by decide +kernel) rfl
theorem ini_JIllegalStateException : Cond.initialized "java/lang/IllegalStateException" ∈ GW := GW_q1 17 (by decide +kernel) rfl
theorem ini_JMath : Cond.initialized "java/lang/Math" ∈ GW := GW_q1 18 (by decide +kernel) rfl
theorem ini_JUnsupportedOperationException : Cond.initialized "java/lang/UnsupportedOperationException" ∈ GW := GW_q1 19 (by decide +kernel) rfl
theorem ini_JNoSuchElementException : Cond.initialized "java/util/NoSuchElementException" ∈ GW := GW_q1 20 (by decide +kernel) rfl
theorem ini_JArithmeticException : Cond.initialized "java/lang/ArithmeticException" ∈ GW := GW_q1 21 (by decide +kernel) rfl
theorem GW_ps {ws : List Cond} (ps : List Nat) (hp : ws = ps.filterMap (fun i => tables_1[i]?)) (h : ws.all goodWord = true) : ∀ w ∈ ws, w ∈ GW := by
  intro w hw
  have h1 := List.all_eq_true.mp h w hw
  rw [hp] at hw
  obtain ⟨i, -, hi⟩ := List.mem_filterMap.mp hw
  exact GW_of i hi h1
abbrev mX7_init : MD := (yX7_init, cX7_init, 1, none, ({ frames := 0, cells := 0, slots := 0, locals := 0 } : Room), [])
abbrev mX0_init : MD := (yX0_init, cX0_init, 2, none, ({ frames := 0, cells := 0, slots := 0, locals := 0 } : Room), [])
abbrev mX4_init : MD := (yX4_init, cX4_init, 1, none, ({ frames := 0, cells := 0, slots := 0, locals := 0 } : Room), [])
abbrev mX5_init : MD := (yX5_init, cX5_init, 1, none, ({ frames := 0, cells := 0, slots := 0, locals := 0 } : Room), [])
abbrev mX1_init : MD := (yX1_init, cX1_init, 1, none, ({ frames := 0, cells := 0, slots := 0, locals := 0 } : Room), [])
abbrev mX2_init : MD := (yX2_init, cX2_init, 2, none, ({ frames := 0, cells := 0, slots := 0, locals := 0 } : Room), [])
abbrev mX3_init : MD := (yX3_init, cX3_init, 1, none, ({ frames := 0, cells := 0, slots := 0, locals := 0 } : Room), [])
abbrev mX6_init : MD := (yX6_init, cX6_init, 1, none, ({ frames := 0, cells := 0, slots := 0, locals := 0 } : Room), [])
abbrev mX7_clear : MD := (yX7_clear, cX7_clear, 2, some .int, ({ frames := 1, cells := 0, slots := 0, locals := 20 } : Room), [])
abbrev mX0_becomeEmpty : MD := (yX0_becomeEmpty, cX0_becomeEmpty, 1, none, ({ frames := 0, cells := 0, slots := 0, locals := 0 } : Room), [])
abbrev mX2_forgetAll : MD := (yX2_forgetAll, cX2_forgetAll, 1, none, ({ frames := 0, cells := 0, slots := 0, locals := 0 } : Room), [])
abbrev mX7_audit : MD := (yX7_audit, cX7_audit, 1, some .int, ({ frames := 2, cells := 0, slots := 0, locals := 43 } : Room), [])
abbrev mX0_accountsGap : MD := (yX0_accountsGap, cX0_accountsGap, 4, some .int, ({ frames := 1, cells := 0, slots := 0, locals := 20 } : Room), [])
abbrev mJ9_abs_0f7a4 : MD := (yJ9_abs_0f7a4, cJ9_abs_0f7a4, 1, some .int, ({ frames := 0, cells := 0, slots := 0, locals := 0 } : Room), [])
abbrev mX7_save : MD := (yX7_save, cX7_save, 1, some .int, ({ frames := 3, cells := 0, slots := 0, locals := 67 } : Room), [])
abbrev mX0_copyFrom : MD := (yX0_copyFrom, cX0_copyFrom, 3, none, ({ frames := 2, cells := 0, slots := 0, locals := 45 } : Room), [])
abbrev mX4_copyFrom : MD := (yX4_copyFrom, cX4_copyFrom, 2, none, ({ frames := 0, cells := 0, slots := 0, locals := 0 } : Room), [])
abbrev mX5_copyFrom : MD := (yX5_copyFrom, cX5_copyFrom, 2, none, ({ frames := 0, cells := 0, slots := 0, locals := 0 } : Room), [])
abbrev mX1_copyFrom : MD := (yX1_copyFrom, cX1_copyFrom, 2, none, ({ frames := 1, cells := 0, slots := 0, locals := 24 } : Room), [])
abbrev mX1_become : MD := (yX1_become, cX1_become, 5, none, ({ frames := 0, cells := 0, slots := 0, locals := 0 } : Room), [])
abbrev mL_addLift : MD := (yL_addLift, cL_addLift, 9, some .int, ({ frames := 7, cells := 1, slots := 6, locals := 114 } : Room), [(0, 18, 21, 13), (0, 18, 25, 15), (0, 18, 29, 17)])
abbrev mJx00060_init_a7421 : MD := (yJx00060_init_a7421, cJx00060_init_a7421, 2, none, ({ frames := 0, cells := 0, slots := 0, locals := 0 } : Room), [])
abbrev mX7_addLift : MD := (yX7_addLift, cX7_addLift, 7, some .int, ({ frames := 6, cells := 1, slots := 6, locals := 88 } : Room), [])
abbrev mX7_isStation : MD := (yX7_isStation, cX7_isStation, 1, some .boolean, ({ frames := 1, cells := 0, slots := 0, locals := 22 } : Room), [])
abbrev mX7_isBetween : MD := (yX7_isBetween, cX7_isBetween, 3, some .boolean, ({ frames := 0, cells := 0, slots := 0, locals := 0 } : Room), [])
abbrev mX2_remember : MD := (yX2_remember, cX2_remember, 2, none, ({ frames := 3, cells := 0, slots := 0, locals := 67 } : Room), [])
abbrev mJ9_floorMod_7cf53 : MD := (yJ9_floorMod_7cf53, cJ9_floorMod_7cf53, 3, some .int, ({ frames := 0, cells := 0, slots := 0, locals := 0 } : Room), [])
abbrev mJ9_min_7cf53 : MD := (yJ9_min_7cf53, cJ9_min_7cf53, 2, some .int, ({ frames := 0, cells := 0, slots := 0, locals := 0 } : Room), [])
abbrev mX4_begin : MD := (yX4_begin, cX4_begin, 7, none, ({ frames := 0, cells := 0, slots := 0, locals := 0 } : Room), [])
abbrev mL_addPiste : MD := (yL_addPiste, cL_addPiste, 7, some .int, ({ frames := 7, cells := 1, slots := 6, locals := 112 } : Room), [(0, 14, 17, 13), (0, 14, 21, 15), (0, 14, 25, 17)])
abbrev mX7_addPiste : MD := (yX7_addPiste, cX7_addPiste, 5, some .int, ({ frames := 6, cells := 1, slots := 6, locals := 88 } : Room), [])
abbrev mX5_begin : MD := (yX5_begin, cX5_begin, 5, none, ({ frames := 0, cells := 0, slots := 0, locals := 0 } : Room), [])
abbrev mL_setWind : MD := (yL_setWind, cL_setWind, 4, some .int, ({ frames := 7, cells := 1, slots := 6, locals := 109 } : Room), [(0, 9, 12, 15)])
abbrev mX7_setWind : MD := (yX7_setWind, cX7_setWind, 2, some .int, ({ frames := 6, cells := 1, slots := 6, locals := 88 } : Room), [])
abbrev mX0_heldLifts : MD := (yX0_heldLifts, cX0_heldLifts, 3, some .int, ({ frames := 2, cells := 0, slots := 0, locals := 43 } : Room), [])
abbrev mX0_isHeld : MD := (yX0_isHeld, cX0_isHeld, 2, some .boolean, ({ frames := 1, cells := 0, slots := 0, locals := 22 } : Room), [])
abbrev mX0_speedOf : MD := (yX0_speedOf, cX0_speedOf, 3, some .int, ({ frames := 0, cells := 0, slots := 0, locals := 0 } : Room), [])
abbrev mL_lift : MD := (yL_lift, cL_lift, 5, some .int, ({ frames := 7, cells := 1, slots := 6, locals := 105 } : Room), [(0, 10, 13, 13), (0, 10, 17, 15)])
abbrev mX7_lift : MD := (yX7_lift, cX7_lift, 4, some .int, ({ frames := 6, cells := 1, slots := 6, locals := 82 } : Room), [])
abbrev mX0_liftAt : MD := (yX0_liftAt, cX0_liftAt, 2, some (.object "SlopeOperator$Lift"), ({ frames := 0, cells := 0, slots := 0, locals := 0 } : Room), [])
abbrev mX0_guestsWith : MD := (yX0_guestsWith, cX0_guestsWith, 5, some .int, ({ frames := 1, cells := 0, slots := 0, locals := 22 } : Room), [])
abbrev mX1_is : MD := (yX1_is, cX1_is, 3, some .boolean, ({ frames := 0, cells := 0, slots := 0, locals := 0 } : Room), [])
abbrev mL_piste : MD := (yL_piste, cL_piste, 5, some .int, ({ frames := 7, cells := 1, slots := 6, locals := 105 } : Room), [(0, 10, 13, 13), (0, 10, 17, 15)])
abbrev mX7_piste : MD := (yX7_piste, cX7_piste, 4, some .int, ({ frames := 6, cells := 1, slots := 6, locals := 82 } : Room), [])
abbrev mX0_pisteAt : MD := (yX0_pisteAt, cX0_pisteAt, 2, some (.object "SlopeOperator$Piste"), ({ frames := 0, cells := 0, slots := 0, locals := 0 } : Room), [])
abbrev mL_open : MD := (yL_open, cL_open, 5, some .int, ({ frames := 7, cells := 1, slots := 6, locals := 112 } : Room), [(0, 10, 13, 13), (0, 10, 17, 17)])
abbrev mX7_open : MD := (yX7_open, cX7_open, 5, some .int, ({ frames := 6, cells := 1, slots := 6, locals := 88 } : Room), [])
abbrev mL_groom : MD := (yL_groom, cL_groom, 4, some .int, ({ frames := 7, cells := 1, slots := 6, locals := 110 } : Room), [(0, 9, 12, 13), (0, 9, 15, 17)])
abbrev mX7_groom : MD := (yX7_groom, cX7_groom, 3, some .int, ({ frames := 6, cells := 1, slots := 6, locals := 88 } : Room), [])
abbrev mL_count : MD := (yL_count, cL_count, 4, some .int, ({ frames := 7, cells := 1, slots := 6, locals := 103 } : Room), [(0, 9, 12, 15)])
abbrev mX7_count : MD := (yX7_count, cX7_count, 2, some .int, ({ frames := 6, cells := 1, slots := 6, locals := 82 } : Room), [])
abbrev mX0_guestsIn : MD := (yX0_guestsIn, cX0_guestsIn, 4, some .int, ({ frames := 0, cells := 0, slots := 0, locals := 0 } : Room), [])
abbrev mX0_openPistes : MD := (yX0_openPistes, cX0_openPistes, 3, some .int, ({ frames := 0, cells := 0, slots := 0, locals := 0 } : Room), [])
abbrev mL_addGuest : MD := (yL_addGuest, cL_addGuest, 8, some .int, ({ frames := 7, cells := 1, slots := 6, locals := 113 } : Room), [(0, 16, 19, 13), (0, 16, 23, 15), (0, 16, 27, 17)])
abbrev mX7_addGuest : MD := (yX7_addGuest, cX7_addGuest, 6, some .int, ({ frames := 6, cells := 1, slots := 6, locals := 88 } : Room), [])
abbrev mX0_welcome : MD := (yX0_welcome, cX0_welcome, 6, some .int, ({ frames := 2, cells := 0, slots := 0, locals := 49 } : Room), [])
abbrev mX1_begin : MD := (yX1_begin, cX1_begin, 6, none, ({ frames := 1, cells := 0, slots := 0, locals := 24 } : Room), [])
abbrev mL_guest : MD := (yL_guest, cL_guest, 5, some .int, ({ frames := 7, cells := 1, slots := 6, locals := 105 } : Room), [(0, 10, 13, 13), (0, 10, 17, 15)])
abbrev mX7_guest : MD := (yX7_guest, cX7_guest, 4, some .int, ({ frames := 6, cells := 1, slots := 6, locals := 82 } : Room), [])
abbrev mX0_guestAt : MD := (yX0_guestAt, cX0_guestAt, 2, some (.object "SlopeOperator$Guest"), ({ frames := 0, cells := 0, slots := 0, locals := 0 } : Room), [])
abbrev mL_queue : MD := (yL_queue, cL_queue, 5, some .int, ({ frames := 7, cells := 1, slots := 6, locals := 113 } : Room), [(0, 10, 13, 13), (0, 10, 17, 54)])
abbrev mX7_queue : MD := (yX7_queue, cX7_queue, 6, some .int, ({ frames := 6, cells := 1, slots := 6, locals := 88 } : Room), [])
abbrev mX0_queueRefusal : MD := (yX0_queueRefusal, cX0_queueRefusal, 4, some .int, ({ frames := 2, cells := 0, slots := 0, locals := 46 } : Room), [])
abbrev mX0_isOpenedFor : MD := (yX0_isOpenedFor, cX0_isOpenedFor, 3, some .boolean, ({ frames := 0, cells := 0, slots := 0, locals := 0 } : Room), [])
abbrev mX7_keepRefusal : MD := (yX7_keepRefusal, cX7_keepRefusal, 3, none, ({ frames := 0, cells := 0, slots := 0, locals := 0 } : Room), [])
abbrev mX0_joinQueue : MD := (yX0_joinQueue, cX0_joinQueue, 3, some .int, ({ frames := 2, cells := 0, slots := 0, locals := 46 } : Room), [])
abbrev mL_ski : MD := (yL_ski, cL_ski, 5, some .int, ({ frames := 7, cells := 1, slots := 6, locals := 113 } : Room), [(0, 10, 13, 13), (0, 10, 17, 54)])
abbrev mX7_ski : MD := (yX7_ski, cX7_ski, 6, some .int, ({ frames := 6, cells := 1, slots := 6, locals := 88 } : Room), [])
abbrev mX0_skiRefusal : MD := (yX0_skiRefusal, cX0_skiRefusal, 3, some .int, ({ frames := 1, cells := 0, slots := 0, locals := 21 } : Room), [])
abbrev mX5_isTooDifficultFor : MD := (yX5_isTooDifficultFor, cX5_isTooDifficultFor, 2, some .boolean, ({ frames := 0, cells := 0, slots := 0, locals := 0 } : Room), [])
abbrev mX0_startPiste : MD := (yX0_startPiste, cX0_startPiste, 4, some .int, ({ frames := 1, cells := 0, slots := 0, locals := 24 } : Room), [])
abbrev mX5_restFor : MD := (yX5_restFor, cX5_restFor, 2, some .int, ({ frames := 0, cells := 0, slots := 0, locals := 0 } : Room), [])
abbrev mL_leave : MD := (yL_leave, cL_leave, 4, some .int, ({ frames := 7, cells := 1, slots := 6, locals := 110 } : Room), [(0, 9, 12, 13), (0, 9, 15, 17)])
abbrev mX7_leave : MD := (yX7_leave, cX7_leave, 3, some .int, ({ frames := 6, cells := 1, slots := 6, locals := 88 } : Room), [])
abbrev mX1_goAway : MD := (yX1_goAway, cX1_goAway, 1, none, ({ frames := 1, cells := 0, slots := 0, locals := 24 } : Room), [])
abbrev mX0_leaveQueue : MD := (yX0_leaveQueue, cX0_leaveQueue, 4, none, ({ frames := 2, cells := 0, slots := 0, locals := 45 } : Room), [])
abbrev mX1_standAt : MD := (yX1_standAt, cX1_standAt, 2, none, ({ frames := 1, cells := 0, slots := 0, locals := 24 } : Room), [])
abbrev mL_whyNotQueue : MD := (yL_whyNotQueue, cL_whyNotQueue, 5, some .int, ({ frames := 7, cells := 1, slots := 6, locals := 106 } : Room), [(0, 10, 13, 13)])
abbrev mX7_whyNotQueue : MD := (yX7_whyNotQueue, cX7_whyNotQueue, 5, some .int, ({ frames := 6, cells := 1, slots := 6, locals := 82 } : Room), [])
abbrev mL_whyNotSki : MD := (yL_whyNotSki, cL_whyNotSki, 5, some .int, ({ frames := 7, cells := 1, slots := 6, locals := 106 } : Room), [(0, 10, 13, 13)])
abbrev mX7_whyNotSki : MD := (yX7_whyNotSki, cX7_whyNotSki, 5, some .int, ({ frames := 6, cells := 1, slots := 6, locals := 82 } : Room), [])
abbrev mL_reason : MD := (yL_reason, cL_reason, 3, some .int, ({ frames := 7, cells := 1, slots := 6, locals := 102 } : Room), [(0, 8, 11, 72)])
abbrev mX7_reason : MD := (yX7_reason, cX7_reason, 1, some .int, ({ frames := 6, cells := 1, slots := 6, locals := 82 } : Room), [])
abbrev mL_opened : MD := (yL_opened, cL_opened, 4, some .int, ({ frames := 7, cells := 1, slots := 6, locals := 104 } : Room), [(0, 9, 12, 13)])
abbrev mX7_opened : MD := (yX7_opened, cX7_opened, 3, some .int, ({ frames := 6, cells := 1, slots := 6, locals := 82 } : Room), [])
abbrev mX0_liftsOpenedFor : MD := (yX0_liftsOpenedFor, cX0_liftsOpenedFor, 4, some .int, ({ frames := 1, cells := 0, slots := 0, locals := 22 } : Room), [])
abbrev mL_queued : MD := (yL_queued, cL_queued, 5, some .int, ({ frames := 7, cells := 1, slots := 6, locals := 105 } : Room), [(0, 10, 13, 13), (0, 10, 17, 72)])
abbrev mX7_queued : MD := (yX7_queued, cX7_queued, 4, some .int, ({ frames := 6, cells := 1, slots := 6, locals := 82 } : Room), [])
abbrev mX0_guestInQueue : MD := (yX0_guestInQueue, cX0_guestInQueue, 4, some .int, ({ frames := 1, cells := 0, slots := 0, locals := 22 } : Room), [])
abbrev mL_advance : MD := (yL_advance, cL_advance, 4, some .int, ({ frames := 7, cells := 1, slots := 6, locals := 114 } : Room), [(0, 9, 12, 15), (0, 9, 15, 17)])
abbrev mX7_advance : MD := (yX7_advance, cX7_advance, 2, some .int, ({ frames := 6, cells := 1, slots := 6, locals := 93 } : Room), [])
abbrev mX0_passTicks : MD := (yX0_passTicks, cX0_passTicks, 4, some .int, ({ frames := 3, cells := 0, slots := 0, locals := 70 } : Room), [])
abbrev mX0_moveRiders : MD := (yX0_moveRiders, cX0_moveRiders, 5, some .int, ({ frames := 2, cells := 0, slots := 0, locals := 45 } : Room), [])
abbrev mX0_moveSkiers : MD := (yX0_moveSkiers, cX0_moveSkiers, 5, some .int, ({ frames := 2, cells := 0, slots := 0, locals := 45 } : Room), [])
abbrev mX0_turnLifts : MD := (yX0_turnLifts, cX0_turnLifts, 3, none, ({ frames := 2, cells := 0, slots := 0, locals := 48 } : Room), [])
abbrev mX4_stepsToCabin : MD := (yX4_stepsToCabin, cX4_stepsToCabin, 2, some .int, ({ frames := 0, cells := 0, slots := 0, locals := 0 } : Room), [])
abbrev mX0_boardCabin : MD := (yX0_boardCabin, cX0_boardCabin, 5, none, ({ frames := 1, cells := 0, slots := 0, locals := 24 } : Room), [])
abbrev mX4_restOfRide : MD := (yX4_restOfRide, cX4_restOfRide, 1, some .int, ({ frames := 0, cells := 0, slots := 0, locals := 0 } : Room), [])
abbrev mX0_groomPistes : MD := (yX0_groomPistes, cX0_groomPistes, 3, none, ({ frames := 1, cells := 0, slots := 0, locals := 20 } : Room), [])
abbrev mX5_becomeFresh : MD := (yX5_becomeFresh, cX5_becomeFresh, 1, none, ({ frames := 0, cells := 0, slots := 0, locals := 0 } : Room), [])
abbrev mX0_closeWornPistes : MD := (yX0_closeWornPistes, cX0_closeWornPistes, 2, none, ({ frames := 0, cells := 0, slots := 0, locals := 0 } : Room), [])
abbrev mL_endDay : MD := (yL_endDay, cL_endDay, 3, some .int, ({ frames := 7, cells := 1, slots := 6, locals := 108 } : Room), [(0, 8, 11, 17)])
abbrev mX7_endDay : MD := (yX7_endDay, cX7_endDay, 1, some .int, ({ frames := 6, cells := 1, slots := 6, locals := 88 } : Room), [])
abbrev mX0_closeDay : MD := (yX0_closeDay, cX0_closeDay, 3, some .int, ({ frames := 2, cells := 0, slots := 0, locals := 44 } : Room), [])
abbrev mL_arrival : MD := (yL_arrival, cL_arrival, 4, some .int, ({ frames := 7, cells := 1, slots := 6, locals := 132 } : Room), [(0, 9, 12, 13), (0, 9, 15, 72)])
abbrev mX7_arrival : MD := (yX7_arrival, cX7_arrival, 4, some .int, ({ frames := 6, cells := 1, slots := 6, locals := 109 } : Room), [])
abbrev mX0_ticksToStation : MD := (yX0_ticksToStation, cX0_ticksToStation, 2, some .int, ({ frames := 4, cells := 0, slots := 0, locals := 88 } : Room), [])
abbrev mX0_ticksOnLift : MD := (yX0_ticksOnLift, cX0_ticksOnLift, 3, some .int, ({ frames := 2, cells := 0, slots := 0, locals := 43 } : Room), [])
abbrev mX7_ticksFor : MD := (yX7_ticksFor, cX7_ticksFor, 2, some .int, ({ frames := 0, cells := 0, slots := 0, locals := 0 } : Room), [])
abbrev mX0_ticksFromQueue : MD := (yX0_ticksFromQueue, cX0_ticksFromQueue, 4, some .int, ({ frames := 3, cells := 0, slots := 0, locals := 65 } : Room), [])
abbrev mL_nextCabin : MD := (yL_nextCabin, cL_nextCabin, 4, some .int, ({ frames := 7, cells := 1, slots := 6, locals := 105 } : Room), [(0, 9, 12, 13), (0, 9, 15, 72)])
abbrev mX7_nextCabin : MD := (yX7_nextCabin, cX7_nextCabin, 4, some .int, ({ frames := 6, cells := 1, slots := 6, locals := 82 } : Room), [])
abbrev mL_duration : MD := (yL_duration, cL_duration, 6, some .int, ({ frames := 7, cells := 1, slots := 6, locals := 139 } : Room), [(0, 12, 15, 13), (0, 12, 19, 72)])
abbrev mX7_duration : MD := (yX7_duration, cX7_duration, 6, some .int, ({ frames := 6, cells := 1, slots := 6, locals := 114 } : Room), [])
abbrev mX6_measure : MD := (yX6_measure, cX6_measure, 5, none, ({ frames := 4, cells := 0, slots := 0, locals := 90 } : Room), [])
abbrev mX6_shorten : MD := (yX6_shorten, cX6_shorten, 6, some .boolean, ({ frames := 3, cells := 0, slots := 0, locals := 65 } : Room), [])
abbrev mX0_isWayFor : MD := (yX0_isWayFor, cX0_isWayFor, 3, some .boolean, ({ frames := 2, cells := 0, slots := 0, locals := 43 } : Room), [])
abbrev mX6_durationFrom : MD := (yX6_durationFrom, cX6_durationFrom, 2, some .int, ({ frames := 2, cells := 0, slots := 0, locals := 42 } : Room), [])
abbrev mX6_shortenFrom : MD := (yX6_shortenFrom, cX6_shortenFrom, 3, some .boolean, ({ frames := 2, cells := 0, slots := 0, locals := 42 } : Room), [])
abbrev mX0_isWayFor_ : MD := (yX0_isWayFor_, cX0_isWayFor_, 3, some .boolean, ({ frames := 1, cells := 0, slots := 0, locals := 21 } : Room), [])
abbrev mL_firstPart : MD := (yL_firstPart, cL_firstPart, 6, some .int, ({ frames := 7, cells := 1, slots := 6, locals := 139 } : Room), [(0, 12, 15, 13), (0, 12, 19, 72)])
abbrev mX7_firstPart : MD := (yX7_firstPart, cX7_firstPart, 6, some .int, ({ frames := 6, cells := 1, slots := 6, locals := 114 } : Room), [])
abbrev mX6_bestPartFrom : MD := (yX6_bestPartFrom, cX6_bestPartFrom, 7, some .int, ({ frames := 3, cells := 0, slots := 0, locals := 65 } : Room), [])
abbrev mL_reachable : MD := (yL_reachable, cL_reachable, 5, some .int, ({ frames := 7, cells := 1, slots := 6, locals := 139 } : Room), [(0, 10, 13, 13)])
abbrev mX7_reachable : MD := (yX7_reachable, cX7_reachable, 4, some .int, ({ frames := 6, cells := 1, slots := 6, locals := 116 } : Room), [])
abbrev mX6_stationsFrom : MD := (yX6_stationsFrom, cX6_stationsFrom, 6, some .int, ({ frames := 4, cells := 0, slots := 0, locals := 91 } : Room), [])
abbrev mX6_spread : MD := (yX6_spread, cX6_spread, 7, some .int, ({ frames := 3, cells := 0, slots := 0, locals := 65 } : Room), [])
abbrev mL_stranded : MD := (yL_stranded, cL_stranded, 5, some .int, ({ frames := 7, cells := 1, slots := 6, locals := 137 } : Room), [(0, 10, 13, 13)])
abbrev mX7_stranded : MD := (yX7_stranded, cX7_stranded, 4, some .int, ({ frames := 6, cells := 1, slots := 6, locals := 114 } : Room), [])
abbrev mX6_stationsWithoutWay : MD := (yX6_stationsWithoutWay, cX6_stationsWithoutWay, 3, some .int, ({ frames := 0, cells := 0, slots := 0, locals := 0 } : Room), [])
abbrev mL_liftAccount : MD := (yL_liftAccount, cL_liftAccount, 5, some .int, ({ frames := 7, cells := 1, slots := 6, locals := 105 } : Room), [(0, 10, 13, 13), (0, 10, 17, 15)])
abbrev mX7_liftAccount : MD := (yX7_liftAccount, cX7_liftAccount, 4, some .int, ({ frames := 6, cells := 1, slots := 6, locals := 82 } : Room), [])
abbrev mL_guestAccount : MD := (yL_guestAccount, cL_guestAccount, 5, some .int, ({ frames := 7, cells := 1, slots := 6, locals := 105 } : Room), [(0, 10, 13, 13), (0, 10, 17, 15)])
abbrev mX7_guestAccount : MD := (yX7_guestAccount, cX7_guestAccount, 4, some .int, ({ frames := 6, cells := 1, slots := 6, locals := 82 } : Room), [])
abbrev mL_pisteAccount : MD := (yL_pisteAccount, cL_pisteAccount, 4, some .int, ({ frames := 7, cells := 1, slots := 6, locals := 104 } : Room), [(0, 9, 12, 13)])
abbrev mX7_pisteAccount : MD := (yX7_pisteAccount, cX7_pisteAccount, 3, some .int, ({ frames := 6, cells := 1, slots := 6, locals := 82 } : Room), [])
abbrev mL_busiest : MD := (yL_busiest, cL_busiest, 3, some .int, ({ frames := 7, cells := 1, slots := 6, locals := 103 } : Room), [(0, 8, 11, 72)])
abbrev mX7_busiest : MD := (yX7_busiest, cX7_busiest, 2, some .int, ({ frames := 6, cells := 1, slots := 6, locals := 82 } : Room), [])
abbrev mX0_liftWithMostRiders : MD := (yX0_liftWithMostRiders, cX0_liftWithMostRiders, 4, some .int, ({ frames := 0, cells := 0, slots := 0, locals := 0 } : Room), [])
abbrev mL_load : MD := (yL_load, cL_load, 4, some .int, ({ frames := 7, cells := 1, slots := 6, locals := 104 } : Room), [(0, 8, 11, 13), (0, 8, 14, 121)])
abbrev mX7_load : MD := (yX7_load, cX7_load, 3, some .double, ({ frames := 6, cells := 1, slots := 6, locals := 82 } : Room), [])
abbrev mL_append : MD := (yL_append, cL_append, 4, some .int, ({ frames := 7, cells := 1, slots := 6, locals := 103 } : Room), [(0, 9, 12, 15), (0, 9, 15, 17)])
abbrev mX7_append : MD := (yX7_append, cX7_append, 2, some .int, ({ frames := 6, cells := 1, slots := 6, locals := 82 } : Room), [])
abbrev mX3_put : MD := (yX3_put, cX3_put, 2, some .int, ({ frames := 0, cells := 0, slots := 0, locals := 0 } : Room), [])
abbrev mL_read : MD := (yL_read, cL_read, 3, some .int, ({ frames := 7, cells := 1, slots := 6, locals := 164 } : Room), [(0, 8, 11, 15), (0, 8, 14, 17)])
abbrev mX7_read : MD := (yX7_read, cX7_read, 3, some .int, ({ frames := 6, cells := 1, slots := 6, locals := 142 } : Room), [])
abbrev mX3_isText : MD := (yX3_isText, cX3_isText, 2, some .boolean, ({ frames := 5, cells := 0, slots := 0, locals := 108 } : Room), [])
abbrev mX3_takeEntry : MD := (yX3_takeEntry, cX3_takeEntry, 1, some .boolean, ({ frames := 4, cells := 0, slots := 0, locals := 88 } : Room), [])
abbrev mX3_isHere : MD := (yX3_isHere, cX3_isHere, 3, some .boolean, ({ frames := 0, cells := 0, slots := 0, locals := 0 } : Room), [])
abbrev mX3_takeNumber : MD := (yX3_takeNumber, cX3_takeNumber, 3, some .boolean, ({ frames := 2, cells := 0, slots := 0, locals := 45 } : Room), [])
abbrev mX3_takeDigit : MD := (yX3_takeDigit, cX3_takeDigit, 4, some .int, ({ frames := 1, cells := 0, slots := 0, locals := 22 } : Room), [])
abbrev mX3_takeTarget : MD := (yX3_takeTarget, cX3_takeTarget, 3, some .boolean, ({ frames := 2, cells := 0, slots := 0, locals := 45 } : Room), [])
abbrev mX3_takeSign : MD := (yX3_takeSign, cX3_takeSign, 2, some .boolean, ({ frames := 1, cells := 0, slots := 0, locals := 22 } : Room), [])
abbrev mX3_takeGuest : MD := (yX3_takeGuest, cX3_takeGuest, 2, some .boolean, ({ frames := 3, cells := 0, slots := 0, locals := 67 } : Room), [])
abbrev mX3_becomeEmpty : MD := (yX3_becomeEmpty, cX3_becomeEmpty, 1, none, ({ frames := 0, cells := 0, slots := 0, locals := 0 } : Room), [])
abbrev mX7_doEntries : MD := (yX7_doEntries, cX7_doEntries, 4, some .int, ({ frames := 5, cells := 0, slots := 0, locals := 119 } : Room), [])
abbrev mX7_doEntry : MD := (yX7_doEntry, cX7_doEntry, 4, some .int, ({ frames := 4, cells := 0, slots := 0, locals := 96 } : Room), [])
abbrev mX7_addGuestByText : MD := (yX7_addGuestByText, cX7_addGuestByText, 3, some .int, ({ frames := 3, cells := 0, slots := 0, locals := 74 } : Room), [])
abbrev mX7_queueByText : MD := (yX7_queueByText, cX7_queueByText, 6, some .int, ({ frames := 3, cells := 0, slots := 0, locals := 69 } : Room), [])
abbrev mX7_skiByText : MD := (yX7_skiByText, cX7_skiByText, 6, some .int, ({ frames := 2, cells := 0, slots := 0, locals := 47 } : Room), [])
abbrev mL_errorPosition : MD := (yL_errorPosition, cL_errorPosition, 3, some .int, ({ frames := 7, cells := 1, slots := 6, locals := 102 } : Room), [(0, 8, 11, 72)])
abbrev mX7_errorPosition : MD := (yX7_errorPosition, cX7_errorPosition, 1, some .int, ({ frames := 6, cells := 1, slots := 6, locals := 82 } : Room), [])
abbrev mL_undo : MD := (yL_undo, cL_undo, 3, some .int, ({ frames := 7, cells := 1, slots := 6, locals := 108 } : Room), [(0, 8, 11, 72)])
abbrev mX7_undo : MD := (yX7_undo, cX7_undo, 1, some .int, ({ frames := 6, cells := 1, slots := 6, locals := 88 } : Room), [])
abbrev mX2_takeBack : MD := (yX2_takeBack, cX2_takeBack, 2, none, ({ frames := 3, cells := 0, slots := 0, locals := 67 } : Room), [])
abbrev mL_restore : MD := (yL_restore, cL_restore, 3, some .int, ({ frames := 7, cells := 1, slots := 6, locals := 102 } : Room), [(0, 8, 11, 17)])
abbrev mX7_restore : MD := (yX7_restore, cX7_restore, 1, some .int, ({ frames := 6, cells := 1, slots := 6, locals := 82 } : Room), [])
abbrev mX8_init : MD := (yX8_init, cX8_init, 1, none, ({ frames := 0, cells := 0, slots := 0, locals := 0 } : Room), [])
abbrev mX8_thrown : MD := (yX8_thrown, cX8_thrown, 1, some .int, ({ frames := 0, cells := 0, slots := 0, locals := 0 } : Room), [])
abbrev mX8_clear : MD := (yX8_clear, cX8_clear, 3, some .int, ({ frames := 0, cells := 0, slots := 0, locals := 0 } : Room), [])
abbrev mX8_addLift : MD := (yX8_addLift, cX8_addLift, 10, some .int, ({ frames := 2, cells := 0, slots := 0, locals := 42 } : Room), [])
abbrev mX8_isStation : MD := (yX8_isStation, cX8_isStation, 1, some .boolean, ({ frames := 1, cells := 0, slots := 0, locals := 22 } : Room), [])
abbrev mX8_in : MD := (yX8_in, cX8_in, 3, some .boolean, ({ frames := 0, cells := 0, slots := 0, locals := 0 } : Room), [])
abbrev mX8_refuse : MD := (yX8_refuse, cX8_refuse, 2, some .int, ({ frames := 0, cells := 0, slots := 0, locals := 0 } : Room), [])
abbrev mX8_keep : MD := (yX8_keep, cX8_keep, 2, none, ({ frames := 0, cells := 0, slots := 0, locals := 0 } : Room), [])
abbrev mX8_lift0 : MD := (yX8_lift0, cX8_lift0, 1, some .int, ({ frames := 0, cells := 0, slots := 0, locals := 0 } : Room), [])
abbrev mX8_addPiste : MD := (yX8_addPiste, cX8_addPiste, 7, some .int, ({ frames := 2, cells := 0, slots := 0, locals := 42 } : Room), [])
abbrev mX8_piste0 : MD := (yX8_piste0, cX8_piste0, 1, some .int, ({ frames := 0, cells := 0, slots := 0, locals := 0 } : Room), [])
abbrev mX8_setWind : MD := (yX8_setWind, cX8_setWind, 4, some .int, ({ frames := 2, cells := 0, slots := 0, locals := 42 } : Room), [])
abbrev mX8_stateOf : MD := (yX8_stateOf, cX8_stateOf, 3, some .int, ({ frames := 1, cells := 0, slots := 0, locals := 20 } : Room), [])
abbrev mX8_lift : MD := (yX8_lift, cX8_lift, 3, some .int, ({ frames := 2, cells := 0, slots := 0, locals := 44 } : Room), [])
abbrev mX8_isLift : MD := (yX8_isLift, cX8_isLift, 2, some .boolean, ({ frames := 1, cells := 0, slots := 0, locals := 22 } : Room), [])
abbrev mX8_guestsWho : MD := (yX8_guestsWho, cX8_guestsWho, 5, some .int, ({ frames := 1, cells := 0, slots := 0, locals := 20 } : Room), [])
abbrev mX8_guest0 : MD := (yX8_guest0, cX8_guest0, 1, some .int, ({ frames := 0, cells := 0, slots := 0, locals := 0 } : Room), [])
abbrev mX8_piste : MD := (yX8_piste, cX8_piste, 3, some .int, ({ frames := 2, cells := 0, slots := 0, locals := 44 } : Room), [])
abbrev mX8_isPiste : MD := (yX8_isPiste, cX8_isPiste, 2, some .boolean, ({ frames := 1, cells := 0, slots := 0, locals := 22 } : Room), [])
abbrev mX8_open : MD := (yX8_open, cX8_open, 5, some .int, ({ frames := 2, cells := 0, slots := 0, locals := 43 } : Room), [])
abbrev mX8_groom : MD := (yX8_groom, cX8_groom, 3, some .int, ({ frames := 2, cells := 0, slots := 0, locals := 43 } : Room), [])
abbrev mX8_count : MD := (yX8_count, cX8_count, 2, some .int, ({ frames := 2, cells := 0, slots := 0, locals := 44 } : Room), [])
abbrev mX8_openPistes : MD := (yX8_openPistes, cX8_openPistes, 3, some .int, ({ frames := 1, cells := 0, slots := 0, locals := 20 } : Room), [])
abbrev mX8_addGuest : MD := (yX8_addGuest, cX8_addGuest, 6, some .int, ({ frames := 2, cells := 0, slots := 0, locals := 47 } : Room), [])
abbrev mX8_arrives : MD := (yX8_arrives, cX8_arrives, 8, none, ({ frames := 1, cells := 0, slots := 0, locals := 20 } : Room), [])
abbrev mX8_guest : MD := (yX8_guest, cX8_guest, 5, some .int, ({ frames := 2, cells := 0, slots := 0, locals := 43 } : Room), [])
abbrev mX8_isGuest : MD := (yX8_isGuest, cX8_isGuest, 2, some .boolean, ({ frames := 1, cells := 0, slots := 0, locals := 22 } : Room), [])
abbrev mX8_placeOf : MD := (yX8_placeOf, cX8_placeOf, 4, some .int, ({ frames := 1, cells := 0, slots := 0, locals := 20 } : Room), [])
abbrev mX8_queue : MD := (yX8_queue, cX8_queue, 4, some .int, ({ frames := 3, cells := 0, slots := 0, locals := 68 } : Room), [])
abbrev mX8_whyNoLift : MD := (yX8_whyNoLift, cX8_whyNoLift, 4, some .int, ({ frames := 2, cells := 0, slots := 0, locals := 45 } : Room), [])
abbrev mX8_isOpenTo : MD := (yX8_isOpenTo, cX8_isOpenTo, 4, some .boolean, ({ frames := 1, cells := 0, slots := 0, locals := 22 } : Room), [])
abbrev mX8_refuses : MD := (yX8_refuses, cX8_refuses, 3, some .int, ({ frames := 1, cells := 0, slots := 0, locals := 21 } : Room), [])
abbrev mX8_standIn : MD := (yX8_standIn, cX8_standIn, 4, some .int, ({ frames := 1, cells := 0, slots := 0, locals := 20 } : Room), [])
abbrev mX8_ski : MD := (yX8_ski, cX8_ski, 4, some .int, ({ frames := 3, cells := 0, slots := 0, locals := 66 } : Room), [])
abbrev mX8_whyNoPiste : MD := (yX8_whyNoPiste, cX8_whyNoPiste, 4, some .int, ({ frames := 1, cells := 0, slots := 0, locals := 20 } : Room), [])
abbrev mX8_goDown : MD := (yX8_goDown, cX8_goDown, 4, some .int, ({ frames := 2, cells := 0, slots := 0, locals := 43 } : Room), [])
abbrev mX8_skiTime : MD := (yX8_skiTime, cX8_skiTime, 4, some .int, ({ frames := 1, cells := 0, slots := 0, locals := 20 } : Room), [])
abbrev mX8_leave : MD := (yX8_leave, cX8_leave, 4, some .int, ({ frames := 2, cells := 0, slots := 0, locals := 45 } : Room), [])
abbrev mX8_drops : MD := (yX8_drops, cX8_drops, 6, none, ({ frames := 1, cells := 0, slots := 0, locals := 20 } : Room), [])
abbrev mX8_whyNotQueue : MD := (yX8_whyNotQueue, cX8_whyNotQueue, 3, some .int, ({ frames := 3, cells := 0, slots := 0, locals := 68 } : Room), [])
abbrev mX8_whyNotSki : MD := (yX8_whyNotSki, cX8_whyNotSki, 3, some .int, ({ frames := 2, cells := 0, slots := 0, locals := 43 } : Room), [])
abbrev mX8_reason : MD := (yX8_reason, cX8_reason, 1, some .int, ({ frames := 0, cells := 0, slots := 0, locals := 0 } : Room), [])
abbrev mX8_opened : MD := (yX8_opened, cX8_opened, 4, some .int, ({ frames := 2, cells := 0, slots := 0, locals := 45 } : Room), [])
abbrev mX8_queued : MD := (yX8_queued, cX8_queued, 3, some .int, ({ frames := 2, cells := 0, slots := 0, locals := 43 } : Room), [])
abbrev mX8_advance : MD := (yX8_advance, cX8_advance, 2, some .int, ({ frames := 5, cells := 0, slots := 0, locals := 114 } : Room), [])
abbrev mX8_ticks : MD := (yX8_ticks, cX8_ticks, 3, some .int, ({ frames := 4, cells := 0, slots := 0, locals := 92 } : Room), [])
abbrev mX8_tick : MD := (yX8_tick, cX8_tick, 3, none, ({ frames := 3, cells := 0, slots := 0, locals := 70 } : Room), [])
abbrev mX8_stepOf : MD := (yX8_stepOf, cX8_stepOf, 2, some .int, ({ frames := 2, cells := 0, slots := 0, locals := 42 } : Room), [])
abbrev mX8_comesTo : MD := (yX8_comesTo, cX8_comesTo, 3, none, ({ frames := 1, cells := 0, slots := 0, locals := 20 } : Room), [])
abbrev mX8_cabin : MD := (yX8_cabin, cX8_cabin, 6, none, ({ frames := 2, cells := 0, slots := 0, locals := 45 } : Room), [])
abbrev mX8_endDay : MD := (yX8_endDay, cX8_endDay, 4, some .int, ({ frames := 2, cells := 0, slots := 0, locals := 44 } : Room), [])
abbrev mX8_arrival : MD := (yX8_arrival, cX8_arrival, 4, some .int, ({ frames := 4, cells := 0, slots := 0, locals := 92 } : Room), [])
abbrev mX8_layAside : MD := (yX8_layAside, cX8_layAside, 2, none, ({ frames := 0, cells := 0, slots := 0, locals := 0 } : Room), [])
abbrev mX8_takeBack : MD := (yX8_takeBack, cX8_takeBack, 2, none, ({ frames := 0, cells := 0, slots := 0, locals := 0 } : Room), [])
abbrev mX8_nextCabin : MD := (yX8_nextCabin, cX8_nextCabin, 4, some .int, ({ frames := 3, cells := 0, slots := 0, locals := 63 } : Room), [])
abbrev mX8_duration : MD := (yX8_duration, cX8_duration, 4, some .int, ({ frames := 4, cells := 0, slots := 0, locals := 92 } : Room), [])
abbrev mX8_lacks : MD := (yX8_lacks, cX8_lacks, 4, some .int, ({ frames := 2, cells := 0, slots := 0, locals := 43 } : Room), [])
abbrev mX8_layWays : MD := (yX8_layWays, cX8_layWays, 6, none, ({ frames := 3, cells := 0, slots := 0, locals := 67 } : Room), [])
abbrev mX8_isWayLift : MD := (yX8_isWayLift, cX8_isWayLift, 3, some .boolean, ({ frames := 2, cells := 0, slots := 0, locals := 45 } : Room), [])
abbrev mX8_isWayPiste : MD := (yX8_isWayPiste, cX8_isWayPiste, 3, some .boolean, ({ frames := 1, cells := 0, slots := 0, locals := 20 } : Room), [])
abbrev mX8_firstPart : MD := (yX8_firstPart, cX8_firstPart, 6, some .int, ({ frames := 4, cells := 0, slots := 0, locals := 92 } : Room), [])
abbrev mX8_reachable : MD := (yX8_reachable, cX8_reachable, 5, some .int, ({ frames := 4, cells := 0, slots := 0, locals := 92 } : Room), [])
abbrev mX8_stranded : MD := (yX8_stranded, cX8_stranded, 5, some .int, ({ frames := 4, cells := 0, slots := 0, locals := 92 } : Room), [])
abbrev mX8_liftAccount : MD := (yX8_liftAccount, cX8_liftAccount, 3, some .int, ({ frames := 2, cells := 0, slots := 0, locals := 43 } : Room), [])
abbrev mX8_guestAccount : MD := (yX8_guestAccount, cX8_guestAccount, 3, some .int, ({ frames := 2, cells := 0, slots := 0, locals := 43 } : Room), [])
abbrev mX8_pisteAccount : MD := (yX8_pisteAccount, cX8_pisteAccount, 2, some .int, ({ frames := 2, cells := 0, slots := 0, locals := 43 } : Room), [])
abbrev mX8_audit : MD := (yX8_audit, cX8_audit, 4, some .int, ({ frames := 1, cells := 0, slots := 0, locals := 20 } : Room), [])
abbrev mX8_busiest : MD := (yX8_busiest, cX8_busiest, 4, some .int, ({ frames := 1, cells := 0, slots := 0, locals := 20 } : Room), [])
abbrev mX8_load : MD := (yX8_load, cX8_load, 2, some .double, ({ frames := 2, cells := 0, slots := 0, locals := 43 } : Room), [])
abbrev mX8_append : MD := (yX8_append, cX8_append, 2, some .int, ({ frames := 1, cells := 0, slots := 0, locals := 22 } : Room), [])
abbrev mX8_read : MD := (yX8_read, cX8_read, 3, some .int, ({ frames := 6, cells := 0, slots := 0, locals := 140 } : Room), [])
abbrev mX8_isText : MD := (yX8_isText, cX8_isText, 1, some .boolean, ({ frames := 4, cells := 0, slots := 0, locals := 86 } : Room), [])
abbrev mX8_entry : MD := (yX8_entry, cX8_entry, 2, none, ({ frames := 3, cells := 0, slots := 0, locals := 65 } : Room), [])
abbrev mX8_here : MD := (yX8_here, cX8_here, 1, some .int, ({ frames := 0, cells := 0, slots := 0, locals := 0 } : Room), [])
abbrev mX8_guestNumber : MD := (yX8_guestNumber, cX8_guestNumber, 2, some .int, ({ frames := 2, cells := 0, slots := 0, locals := 44 } : Room), [])
abbrev mX8_digit : MD := (yX8_digit, cX8_digit, 3, some .int, ({ frames := 1, cells := 0, slots := 0, locals := 22 } : Room), [])
abbrev mX8_take : MD := (yX8_take, cX8_take, 2, none, ({ frames := 1, cells := 0, slots := 0, locals := 20 } : Room), [])
abbrev mX8_does : MD := (yX8_does, cX8_does, 7, some .boolean, ({ frames := 5, cells := 0, slots := 0, locals := 114 } : Room), [])
abbrev mX8_errorPosition : MD := (yX8_errorPosition, cX8_errorPosition, 1, some .int, ({ frames := 0, cells := 0, slots := 0, locals := 0 } : Room), [])
abbrev mX8_undo : MD := (yX8_undo, cX8_undo, 2, some .int, ({ frames := 1, cells := 0, slots := 0, locals := 21 } : Room), [])
abbrev mX8_save : MD := (yX8_save, cX8_save, 2, some .int, ({ frames := 0, cells := 0, slots := 0, locals := 0 } : Room), [])
abbrev mX8_restore : MD := (yX8_restore, cX8_restore, 2, some .int, ({ frames := 1, cells := 0, slots := 0, locals := 21 } : Room), [])
theorem iw_X0 : ∀ w ∈ u_ws RX0 TX0 9, w ∈ GW := GW_ps [228, 230, 232, 234, 236, 238, 240, 242, 244] (by decide +kernel) (by decide +kernel)
theorem iw_X1 : ∀ w ∈ u_ws RX1 TX1 11, w ∈ GW := GW_ps [184, 186, 188, 190, 192, 194, 196, 198, 200, 202, 204] (by decide +kernel) (by decide +kernel)
theorem iw_X2 : ∀ w ∈ u_ws RX2 TX2 3, w ∈ GW := GW_ps [260, 262, 264] (by decide +kernel) (by decide +kernel)
theorem iw_X3 : ∀ w ∈ u_ws RX3 TX3 7, w ∈ GW := GW_ps [286, 288, 290, 292, 294, 296, 298] (by decide +kernel) (by decide +kernel)
theorem iw_X4 : ∀ w ∈ u_ws RX4 TX4 10, w ∈ GW := GW_ps [75, 77, 79, 81, 83, 85, 87, 89, 91, 93] (by decide +kernel) (by decide +kernel)
theorem iw_X5 : ∀ w ∈ u_ws RX5 TX5 8, w ∈ GW := GW_ps [128, 130, 132, 134, 136, 138, 140, 142] (by decide +kernel) (by decide +kernel)
theorem iw_X6 : ∀ w ∈ u_ws RX6 TX6 1, w ∈ GW := GW_ps [309] (by decide +kernel) (by decide +kernel)
theorem iw_X7 : ∀ w ∈ u_ws RX7 TX7 9, w ∈ GW := GW_ps [322, 324, 326, 328, 330, 332, 334, 336, 338] (by decide +kernel) (by decide +kernel)
theorem iw_X8 : ∀ w ∈ u_ws RX8 TX8 20, w ∈ GW := GW_ps [1186, 1188, 1190, 1192, 1194, 1196, 1198, 1200, 1202, 1204, 1206, 1208, 1210, 1212, 1214, 1216, 1218, 1220, 1222, 1224] (by decide +kernel) (by decide +kernel)
theorem fl_X7_12 : FL RX7 12 9 0 := ⟨by decide, RX7, TX7, 9, tyX7, rfl, by decide, iw_X7, tyX7_ok, nmX7, rfl, GW_q2 73 (by decide +kernel) rfl⟩
theorem fl_X7_16 : FL RX7 16 9 1 := ⟨by decide, RX7, TX7, 9, tyX7, rfl, by decide, iw_X7, tyX7_ok, nmX7, rfl, GW_q2 74 (by decide +kernel) rfl⟩
theorem fl_X7_19 : FL RX7 19 9 2 := ⟨by decide, RX7, TX7, 9, tyX7, rfl, by decide, iw_X7, tyX7_ok, nmX7, rfl, GW_q2 75 (by decide +kernel) rfl⟩
theorem fl_X7_25 : FL RX7 25 9 3 := ⟨by decide, RX7, TX7, 9, tyX7, rfl, by decide, iw_X7, tyX7_ok, nmX7, rfl, GW_q2 76 (by decide +kernel) rfl⟩
theorem fl_X7_32 : FL RX7 32 9 4 := ⟨by decide, RX7, TX7, 9, tyX7, rfl, by decide, iw_X7, tyX7_ok, nmX7, rfl, GW_q2 77 (by decide +kernel) rfl⟩
theorem fl_X7_39 : FL RX7 39 9 5 := ⟨by decide, RX7, TX7, 9, tyX7, rfl, by decide, iw_X7, tyX7_ok, nmX7, rfl, GW_q2 78 (by decide +kernel) rfl⟩
theorem fl_X7_43 : FL RX7 43 9 6 := ⟨by decide, RX7, TX7, 9, tyX7, rfl, by decide, iw_X7, tyX7_ok, nmX7, rfl, GW_q2 79 (by decide +kernel) rfl⟩
theorem fw_X7_43 : FLw RX7 43 9 6 .boolean := ⟨by decide, RX7, TX7, 9, tyX7, rfl, by decide, iw_X7, tyX7_ok, nmX7, rfl, GW_q2 79 (by decide +kernel) rfl, rfl, rfl⟩
theorem fl_X7_47 : FL RX7 47 9 7 := ⟨by decide, RX7, TX7, 9, tyX7, rfl, by decide, iw_X7, tyX7_ok, nmX7, rfl, GW_q2 80 (by decide +kernel) rfl⟩
theorem fw_X7_47 : FLw RX7 47 9 7 .int := ⟨by decide, RX7, TX7, 9, tyX7, rfl, by decide, iw_X7, tyX7_ok, nmX7, rfl, GW_q2 80 (by decide +kernel) rfl, rfl, rfl⟩
theorem fl_X7_51 : FL RX7 51 9 8 := ⟨by decide, RX7, TX7, 9, tyX7, rfl, by decide, iw_X7, tyX7_ok, nmX7, rfl, GW_q2 81 (by decide +kernel) rfl⟩
theorem fw_X7_51 : FLw RX7 51 9 8 .int := ⟨by decide, RX7, TX7, 9, tyX7, rfl, by decide, iw_X7, tyX7_ok, nmX7, rfl, GW_q2 81 (by decide +kernel) rfl, rfl, rfl⟩
theorem fl_X7_54 : FL RX7 54 2 5 := ⟨by decide, RX0, TX0, 9, tyX0, rfl, by decide, iw_X0, tyX0_ok, nmX0, rfl, GW_q1 220 (by decide +kernel) rfl⟩
theorem fw_X7_54 : FLw RX7 54 2 5 .int := ⟨by decide, RX0, TX0, 9, tyX0, rfl, by decide, iw_X0, tyX0_ok, nmX0, rfl, GW_q1 220 (by decide +kernel) rfl, rfl, rfl⟩
theorem fl_X7_83 : FL RX7 83 2 3 := ⟨by decide, RX0, TX0, 9, tyX0, rfl, by decide, iw_X0, tyX0_ok, nmX0, rfl, GW_q1 215 (by decide +kernel) rfl⟩
theorem fw_X7_83 : FLw RX7 83 2 3 .int := ⟨by decide, RX0, TX0, 9, tyX0, rfl, by decide, iw_X0, tyX0_ok, nmX0, rfl, GW_q1 215 (by decide +kernel) rfl, rfl, rfl⟩
theorem fl_X7_95 : FL RX7 95 2 0 := ⟨by decide, RX0, TX0, 9, tyX0, rfl, by decide, iw_X0, tyX0_ok, nmX0, rfl, GW_q1 208 (by decide +kernel) rfl⟩
theorem fl_X7_107 : FL RX7 107 2 4 := ⟨by decide, RX0, TX0, 9, tyX0, rfl, by decide, iw_X0, tyX0_ok, nmX0, rfl, GW_q1 218 (by decide +kernel) rfl⟩
theorem fw_X7_107 : FLw RX7 107 2 4 .int := ⟨by decide, RX0, TX0, 9, tyX0, rfl, by decide, iw_X0, tyX0_ok, nmX0, rfl, GW_q1 218 (by decide +kernel) rfl, rfl, rfl⟩
theorem fl_X7_112 : FL RX7 112 2 1 := ⟨by decide, RX0, TX0, 9, tyX0, rfl, by decide, iw_X0, tyX0_ok, nmX0, rfl, GW_q1 212 (by decide +kernel) rfl⟩
theorem fl_X7_123 : FL RX7 123 2 6 := ⟨by decide, RX0, TX0, 9, tyX0, rfl, by decide, iw_X0, tyX0_ok, nmX0, rfl, GW_q1 223 (by decide +kernel) rfl⟩
theorem fw_X7_123 : FLw RX7 123 2 6 .int := ⟨by decide, RX0, TX0, 9, tyX0, rfl, by decide, iw_X0, tyX0_ok, nmX0, rfl, GW_q1 223 (by decide +kernel) rfl, rfl, rfl⟩
theorem fl_X7_136 : FL RX7 136 6 0 := ⟨by decide, RX4, TX4, 10, tyX4, rfl, by decide, iw_X4, tyX4_ok, nmX4, rfl, GW_q1 45 (by decide +kernel) rfl⟩
theorem fw_X7_136 : FLw RX7 136 6 0 .int := ⟨by decide, RX4, TX4, 10, tyX4, rfl, by decide, iw_X4, tyX4_ok, nmX4, rfl, GW_q1 45 (by decide +kernel) rfl, rfl, rfl⟩
theorem fl_X7_139 : FL RX7 139 6 1 := ⟨by decide, RX4, TX4, 10, tyX4, rfl, by decide, iw_X4, tyX4_ok, nmX4, rfl, GW_q1 49 (by decide +kernel) rfl⟩
theorem fw_X7_139 : FLw RX7 139 6 1 .int := ⟨by decide, RX4, TX4, 10, tyX4, rfl, by decide, iw_X4, tyX4_ok, nmX4, rfl, GW_q1 49 (by decide +kernel) rfl, rfl, rfl⟩
theorem fl_X7_142 : FL RX7 142 6 2 := ⟨by decide, RX4, TX4, 10, tyX4, rfl, by decide, iw_X4, tyX4_ok, nmX4, rfl, GW_q1 52 (by decide +kernel) rfl⟩
theorem fw_X7_142 : FLw RX7 142 6 2 .int := ⟨by decide, RX4, TX4, 10, tyX4, rfl, by decide, iw_X4, tyX4_ok, nmX4, rfl, GW_q1 52 (by decide +kernel) rfl, rfl, rfl⟩
theorem fl_X7_145 : FL RX7 145 6 3 := ⟨by decide, RX4, TX4, 10, tyX4, rfl, by decide, iw_X4, tyX4_ok, nmX4, rfl, GW_q1 55 (by decide +kernel) rfl⟩
theorem fw_X7_145 : FLw RX7 145 6 3 .int := ⟨by decide, RX4, TX4, 10, tyX4, rfl, by decide, iw_X4, tyX4_ok, nmX4, rfl, GW_q1 55 (by decide +kernel) rfl, rfl, rfl⟩
theorem fl_X7_148 : FL RX7 148 6 4 := ⟨by decide, RX4, TX4, 10, tyX4, rfl, by decide, iw_X4, tyX4_ok, nmX4, rfl, GW_q1 58 (by decide +kernel) rfl⟩
theorem fw_X7_148 : FLw RX7 148 6 4 .int := ⟨by decide, RX4, TX4, 10, tyX4, rfl, by decide, iw_X4, tyX4_ok, nmX4, rfl, GW_q1 58 (by decide +kernel) rfl, rfl, rfl⟩
theorem fl_X7_151 : FL RX7 151 6 5 := ⟨by decide, RX4, TX4, 10, tyX4, rfl, by decide, iw_X4, tyX4_ok, nmX4, rfl, GW_q1 62 (by decide +kernel) rfl⟩
theorem fw_X7_151 : FLw RX7 151 6 5 .int := ⟨by decide, RX4, TX4, 10, tyX4, rfl, by decide, iw_X4, tyX4_ok, nmX4, rfl, GW_q1 62 (by decide +kernel) rfl, rfl, rfl⟩
theorem fl_X7_154 : FL RX7 154 6 6 := ⟨by decide, RX4, TX4, 10, tyX4, rfl, by decide, iw_X4, tyX4_ok, nmX4, rfl, GW_q1 64 (by decide +kernel) rfl⟩
theorem fw_X7_154 : FLw RX7 154 6 6 .int := ⟨by decide, RX4, TX4, 10, tyX4, rfl, by decide, iw_X4, tyX4_ok, nmX4, rfl, GW_q1 64 (by decide +kernel) rfl, rfl, rfl⟩
theorem fl_X7_161 : FL RX7 161 6 7 := ⟨by decide, RX4, TX4, 10, tyX4, rfl, by decide, iw_X4, tyX4_ok, nmX4, rfl, GW_q1 67 (by decide +kernel) rfl⟩
theorem fw_X7_161 : FLw RX7 161 6 7 .int := ⟨by decide, RX4, TX4, 10, tyX4, rfl, by decide, iw_X4, tyX4_ok, nmX4, rfl, GW_q1 67 (by decide +kernel) rfl, rfl, rfl⟩
theorem fl_X7_176 : FL RX7 176 7 0 := ⟨by decide, RX5, TX5, 8, tyX5, rfl, by decide, iw_X5, tyX5_ok, nmX5, rfl, GW_q1 105 (by decide +kernel) rfl⟩
theorem fw_X7_176 : FLw RX7 176 7 0 .int := ⟨by decide, RX5, TX5, 8, tyX5, rfl, by decide, iw_X5, tyX5_ok, nmX5, rfl, GW_q1 105 (by decide +kernel) rfl, rfl, rfl⟩
theorem fl_X7_179 : FL RX7 179 7 1 := ⟨by decide, RX5, TX5, 8, tyX5, rfl, by decide, iw_X5, tyX5_ok, nmX5, rfl, GW_q1 109 (by decide +kernel) rfl⟩
theorem fw_X7_179 : FLw RX7 179 7 1 .int := ⟨by decide, RX5, TX5, 8, tyX5, rfl, by decide, iw_X5, tyX5_ok, nmX5, rfl, GW_q1 109 (by decide +kernel) rfl, rfl, rfl⟩
theorem fl_X7_182 : FL RX7 182 7 2 := ⟨by decide, RX5, TX5, 8, tyX5, rfl, by decide, iw_X5, tyX5_ok, nmX5, rfl, GW_q1 112 (by decide +kernel) rfl⟩
theorem fw_X7_182 : FLw RX7 182 7 2 .int := ⟨by decide, RX5, TX5, 8, tyX5, rfl, by decide, iw_X5, tyX5_ok, nmX5, rfl, GW_q1 112 (by decide +kernel) rfl, rfl, rfl⟩
theorem fl_X7_185 : FL RX7 185 7 3 := ⟨by decide, RX5, TX5, 8, tyX5, rfl, by decide, iw_X5, tyX5_ok, nmX5, rfl, GW_q1 115 (by decide +kernel) rfl⟩
theorem fw_X7_185 : FLw RX7 185 7 3 .int := ⟨by decide, RX5, TX5, 8, tyX5, rfl, by decide, iw_X5, tyX5_ok, nmX5, rfl, GW_q1 115 (by decide +kernel) rfl, rfl, rfl⟩
theorem fl_X7_188 : FL RX7 188 7 4 := ⟨by decide, RX5, TX5, 8, tyX5, rfl, by decide, iw_X5, tyX5_ok, nmX5, rfl, GW_q1 117 (by decide +kernel) rfl⟩
theorem fw_X7_188 : FLw RX7 188 7 4 .int := ⟨by decide, RX5, TX5, 8, tyX5, rfl, by decide, iw_X5, tyX5_ok, nmX5, rfl, GW_q1 117 (by decide +kernel) rfl, rfl, rfl⟩
theorem fl_X7_191 : FL RX7 191 7 5 := ⟨by decide, RX5, TX5, 8, tyX5, rfl, by decide, iw_X5, tyX5_ok, nmX5, rfl, GW_q1 120 (by decide +kernel) rfl⟩
theorem fw_X7_191 : FLw RX7 191 7 5 .int := ⟨by decide, RX5, TX5, 8, tyX5, rfl, by decide, iw_X5, tyX5_ok, nmX5, rfl, GW_q1 120 (by decide +kernel) rfl, rfl, rfl⟩
theorem fl_X7_194 : FL RX7 194 7 6 := ⟨by decide, RX5, TX5, 8, tyX5, rfl, by decide, iw_X5, tyX5_ok, nmX5, rfl, GW_q1 123 (by decide +kernel) rfl⟩
theorem fw_X7_194 : FLw RX7 194 7 6 .int := ⟨by decide, RX5, TX5, 8, tyX5, rfl, by decide, iw_X5, tyX5_ok, nmX5, rfl, GW_q1 123 (by decide +kernel) rfl, rfl, rfl⟩
theorem fl_X7_203 : FL RX7 203 2 7 := ⟨by decide, RX0, TX0, 9, tyX0, rfl, by decide, iw_X0, tyX0_ok, nmX0, rfl, GW_q1 225 (by decide +kernel) rfl⟩
theorem fw_X7_203 : FLw RX7 203 2 7 .int := ⟨by decide, RX0, TX0, 9, tyX0, rfl, by decide, iw_X0, tyX0_ok, nmX0, rfl, GW_q1 225 (by decide +kernel) rfl, rfl, rfl⟩
theorem fl_X7_206 : FL RX7 206 2 8 := ⟨by decide, RX0, TX0, 9, tyX0, rfl, by decide, iw_X0, tyX0_ok, nmX0, rfl, GW_q1 227 (by decide +kernel) rfl⟩
theorem fw_X7_206 : FLw RX7 206 2 8 .int := ⟨by decide, RX0, TX0, 9, tyX0, rfl, by decide, iw_X0, tyX0_ok, nmX0, rfl, GW_q1 227 (by decide +kernel) rfl, rfl, rfl⟩
theorem fl_X7_232 : FL RX7 232 3 4 := ⟨by decide, RX1, TX1, 11, tyX1, rfl, by decide, iw_X1, tyX1_ok, nmX1, rfl, GW_q1 165 (by decide +kernel) rfl⟩
theorem fw_X7_232 : FLw RX7 232 3 4 .int := ⟨by decide, RX1, TX1, 11, tyX1, rfl, by decide, iw_X1, tyX1_ok, nmX1, rfl, GW_q1 165 (by decide +kernel) rfl, rfl, rfl⟩
theorem fl_X7_235 : FL RX7 235 3 5 := ⟨by decide, RX1, TX1, 11, tyX1, rfl, by decide, iw_X1, tyX1_ok, nmX1, rfl, GW_q1 168 (by decide +kernel) rfl⟩
theorem fw_X7_235 : FLw RX7 235 3 5 .int := ⟨by decide, RX1, TX1, 11, tyX1, rfl, by decide, iw_X1, tyX1_ok, nmX1, rfl, GW_q1 168 (by decide +kernel) rfl, rfl, rfl⟩
theorem fl_X7_238 : FL RX7 238 3 7 := ⟨by decide, RX1, TX1, 11, tyX1, rfl, by decide, iw_X1, tyX1_ok, nmX1, rfl, GW_q1 174 (by decide +kernel) rfl⟩
theorem fw_X7_238 : FLw RX7 238 3 7 .int := ⟨by decide, RX1, TX1, 11, tyX1, rfl, by decide, iw_X1, tyX1_ok, nmX1, rfl, GW_q1 174 (by decide +kernel) rfl, rfl, rfl⟩
theorem fl_X7_241 : FL RX7 241 3 6 := ⟨by decide, RX1, TX1, 11, tyX1, rfl, by decide, iw_X1, tyX1_ok, nmX1, rfl, GW_q1 171 (by decide +kernel) rfl⟩
theorem fw_X7_241 : FLw RX7 241 3 6 .int := ⟨by decide, RX1, TX1, 11, tyX1, rfl, by decide, iw_X1, tyX1_ok, nmX1, rfl, GW_q1 171 (by decide +kernel) rfl, rfl, rfl⟩
theorem fl_X7_242 : FL RX7 242 3 0 := ⟨by decide, RX1, TX1, 11, tyX1, rfl, by decide, iw_X1, tyX1_ok, nmX1, rfl, GW_q1 154 (by decide +kernel) rfl⟩
theorem fw_X7_242 : FLw RX7 242 3 0 .int := ⟨by decide, RX1, TX1, 11, tyX1, rfl, by decide, iw_X1, tyX1_ok, nmX1, rfl, GW_q1 154 (by decide +kernel) rfl, rfl, rfl⟩
theorem fl_X7_245 : FL RX7 245 3 1 := ⟨by decide, RX1, TX1, 11, tyX1, rfl, by decide, iw_X1, tyX1_ok, nmX1, rfl, GW_q1 157 (by decide +kernel) rfl⟩
theorem fw_X7_245 : FLw RX7 245 3 1 .int := ⟨by decide, RX1, TX1, 11, tyX1, rfl, by decide, iw_X1, tyX1_ok, nmX1, rfl, GW_q1 157 (by decide +kernel) rfl, rfl, rfl⟩
theorem fl_X7_248 : FL RX7 248 3 2 := ⟨by decide, RX1, TX1, 11, tyX1, rfl, by decide, iw_X1, tyX1_ok, nmX1, rfl, GW_q1 160 (by decide +kernel) rfl⟩
theorem fw_X7_248 : FLw RX7 248 3 2 .int := ⟨by decide, RX1, TX1, 11, tyX1, rfl, by decide, iw_X1, tyX1_ok, nmX1, rfl, GW_q1 160 (by decide +kernel) rfl, rfl, rfl⟩
theorem fl_X7_251 : FL RX7 251 3 3 := ⟨by decide, RX1, TX1, 11, tyX1, rfl, by decide, iw_X1, tyX1_ok, nmX1, rfl, GW_q1 163 (by decide +kernel) rfl⟩
theorem fw_X7_251 : FLw RX7 251 3 3 .int := ⟨by decide, RX1, TX1, 11, tyX1, rfl, by decide, iw_X1, tyX1_ok, nmX1, rfl, GW_q1 163 (by decide +kernel) rfl, rfl, rfl⟩
theorem fl_X7_355 : FL RX7 355 6 8 := ⟨by decide, RX4, TX4, 10, tyX4, rfl, by decide, iw_X4, tyX4_ok, nmX4, rfl, GW_q1 71 (by decide +kernel) rfl⟩
theorem fw_X7_355 : FLw RX7 355 6 8 .int := ⟨by decide, RX4, TX4, 10, tyX4, rfl, by decide, iw_X4, tyX4_ok, nmX4, rfl, GW_q1 71 (by decide +kernel) rfl, rfl, rfl⟩
theorem fl_X7_358 : FL RX7 358 6 9 := ⟨by decide, RX4, TX4, 10, tyX4, rfl, by decide, iw_X4, tyX4_ok, nmX4, rfl, GW_q1 74 (by decide +kernel) rfl⟩
theorem fw_X7_358 : FLw RX7 358 6 9 .int := ⟨by decide, RX4, TX4, 10, tyX4, rfl, by decide, iw_X4, tyX4_ok, nmX4, rfl, GW_q1 74 (by decide +kernel) rfl, rfl, rfl⟩
theorem fl_X7_363 : FL RX7 363 3 8 := ⟨by decide, RX1, TX1, 11, tyX1, rfl, by decide, iw_X1, tyX1_ok, nmX1, rfl, GW_q1 178 (by decide +kernel) rfl⟩
theorem fw_X7_363 : FLw RX7 363 3 8 .int := ⟨by decide, RX1, TX1, 11, tyX1, rfl, by decide, iw_X1, tyX1_ok, nmX1, rfl, GW_q1 178 (by decide +kernel) rfl, rfl, rfl⟩
theorem fl_X7_366 : FL RX7 366 3 9 := ⟨by decide, RX1, TX1, 11, tyX1, rfl, by decide, iw_X1, tyX1_ok, nmX1, rfl, GW_q1 181 (by decide +kernel) rfl⟩
theorem fw_X7_366 : FLw RX7 366 3 9 .int := ⟨by decide, RX1, TX1, 11, tyX1, rfl, by decide, iw_X1, tyX1_ok, nmX1, rfl, GW_q1 181 (by decide +kernel) rfl, rfl, rfl⟩
theorem fl_X7_369 : FL RX7 369 3 10 := ⟨by decide, RX1, TX1, 11, tyX1, rfl, by decide, iw_X1, tyX1_ok, nmX1, rfl, GW_q1 183 (by decide +kernel) rfl⟩
theorem fw_X7_369 : FLw RX7 369 3 10 .int := ⟨by decide, RX1, TX1, 11, tyX1, rfl, by decide, iw_X1, tyX1_ok, nmX1, rfl, GW_q1 183 (by decide +kernel) rfl, rfl, rfl⟩
theorem fl_X7_374 : FL RX7 374 7 7 := ⟨by decide, RX5, TX5, 8, tyX5, rfl, by decide, iw_X5, tyX5_ok, nmX5, rfl, GW_q1 127 (by decide +kernel) rfl⟩
theorem fw_X7_374 : FLw RX7 374 7 7 .int := ⟨by decide, RX5, TX5, 8, tyX5, rfl, by decide, iw_X5, tyX5_ok, nmX5, rfl, GW_q1 127 (by decide +kernel) rfl, rfl, rfl⟩
theorem fl_X7_392 : FL RX7 392 5 1 := ⟨by decide, RX3, TX3, 7, tyX3, rfl, by decide, iw_X3, tyX3_ok, nmX3, rfl, GW_q2 35 (by decide +kernel) rfl⟩
theorem fw_X7_392 : FLw RX7 392 5 1 .int := ⟨by decide, RX3, TX3, 7, tyX3, rfl, by decide, iw_X3, tyX3_ok, nmX3, rfl, GW_q2 35 (by decide +kernel) rfl, rfl, rfl⟩
theorem fl_X7_403 : FL RX7 403 5 2 := ⟨by decide, RX3, TX3, 7, tyX3, rfl, by decide, iw_X3, tyX3_ok, nmX3, rfl, GW_q2 37 (by decide +kernel) rfl⟩
theorem fw_X7_403 : FLw RX7 403 5 2 .int := ⟨by decide, RX3, TX3, 7, tyX3, rfl, by decide, iw_X3, tyX3_ok, nmX3, rfl, GW_q2 37 (by decide +kernel) rfl, rfl, rfl⟩
theorem fl_X7_409 : FL RX7 409 5 3 := ⟨by decide, RX3, TX3, 7, tyX3, rfl, by decide, iw_X3, tyX3_ok, nmX3, rfl, GW_q2 39 (by decide +kernel) rfl⟩
theorem fw_X7_409 : FLw RX7 409 5 3 .int := ⟨by decide, RX3, TX3, 7, tyX3, rfl, by decide, iw_X3, tyX3_ok, nmX3, rfl, GW_q2 39 (by decide +kernel) rfl, rfl, rfl⟩
theorem fl_X7_422 : FL RX7 422 4 2 := ⟨by decide, RX2, TX2, 3, tyX2, rfl, by decide, iw_X2, tyX2_ok, nmX2, rfl, GW_q2 19 (by decide +kernel) rfl⟩
theorem fw_X7_422 : FLw RX7 422 4 2 .int := ⟨by decide, RX2, TX2, 3, tyX2, rfl, by decide, iw_X2, tyX2_ok, nmX2, rfl, GW_q2 19 (by decide +kernel) rfl, rfl, rfl⟩
theorem fl_X7_435 : FL RX7 435 5 4 := ⟨by decide, RX3, TX3, 7, tyX3, rfl, by decide, iw_X3, tyX3_ok, nmX3, rfl, GW_q2 41 (by decide +kernel) rfl⟩
theorem fw_X7_435 : FLw RX7 435 5 4 .int := ⟨by decide, RX3, TX3, 7, tyX3, rfl, by decide, iw_X3, tyX3_ok, nmX3, rfl, GW_q2 41 (by decide +kernel) rfl, rfl, rfl⟩
theorem fl_X7_438 : FL RX7 438 5 5 := ⟨by decide, RX3, TX3, 7, tyX3, rfl, by decide, iw_X3, tyX3_ok, nmX3, rfl, GW_q2 43 (by decide +kernel) rfl⟩
theorem fw_X7_438 : FLw RX7 438 5 5 .int := ⟨by decide, RX3, TX3, 7, tyX3, rfl, by decide, iw_X3, tyX3_ok, nmX3, rfl, GW_q2 43 (by decide +kernel) rfl, rfl, rfl⟩
theorem fl_X7_441 : FL RX7 441 5 6 := ⟨by decide, RX3, TX3, 7, tyX3, rfl, by decide, iw_X3, tyX3_ok, nmX3, rfl, GW_q2 45 (by decide +kernel) rfl⟩
theorem fw_X7_441 : FLw RX7 441 5 6 .int := ⟨by decide, RX3, TX3, 7, tyX3, rfl, by decide, iw_X3, tyX3_ok, nmX3, rfl, GW_q2 45 (by decide +kernel) rfl, rfl, rfl⟩
theorem fl_X0_11 : FL RX0 11 2 0 := ⟨by decide, RX0, TX0, 9, tyX0, rfl, by decide, iw_X0, tyX0_ok, nmX0, rfl, GW_q1 207 (by decide +kernel) rfl⟩
theorem fl_X0_20 : FL RX0 20 2 1 := ⟨by decide, RX0, TX0, 9, tyX0, rfl, by decide, iw_X0, tyX0_ok, nmX0, rfl, GW_q1 210 (by decide +kernel) rfl⟩
theorem fl_X0_27 : FL RX0 27 2 2 := ⟨by decide, RX0, TX0, 9, tyX0, rfl, by decide, iw_X0, tyX0_ok, nmX0, rfl, GW_q1 213 (by decide +kernel) rfl⟩
theorem fl_X0_32 : FL RX0 32 2 3 := ⟨by decide, RX0, TX0, 9, tyX0, rfl, by decide, iw_X0, tyX0_ok, nmX0, rfl, GW_q1 214 (by decide +kernel) rfl⟩
theorem fw_X0_32 : FLw RX0 32 2 3 .int := ⟨by decide, RX0, TX0, 9, tyX0, rfl, by decide, iw_X0, tyX0_ok, nmX0, rfl, GW_q1 214 (by decide +kernel) rfl, rfl, rfl⟩
theorem fl_X0_36 : FL RX0 36 2 4 := ⟨by decide, RX0, TX0, 9, tyX0, rfl, by decide, iw_X0, tyX0_ok, nmX0, rfl, GW_q1 217 (by decide +kernel) rfl⟩
theorem fw_X0_36 : FLw RX0 36 2 4 .int := ⟨by decide, RX0, TX0, 9, tyX0, rfl, by decide, iw_X0, tyX0_ok, nmX0, rfl, GW_q1 217 (by decide +kernel) rfl, rfl, rfl⟩
theorem fl_X0_39 : FL RX0 39 2 5 := ⟨by decide, RX0, TX0, 9, tyX0, rfl, by decide, iw_X0, tyX0_ok, nmX0, rfl, GW_q1 221 (by decide +kernel) rfl⟩
theorem fw_X0_39 : FLw RX0 39 2 5 .int := ⟨by decide, RX0, TX0, 9, tyX0, rfl, by decide, iw_X0, tyX0_ok, nmX0, rfl, GW_q1 221 (by decide +kernel) rfl, rfl, rfl⟩
theorem fl_X0_42 : FL RX0 42 2 6 := ⟨by decide, RX0, TX0, 9, tyX0, rfl, by decide, iw_X0, tyX0_ok, nmX0, rfl, GW_q1 222 (by decide +kernel) rfl⟩
theorem fw_X0_42 : FLw RX0 42 2 6 .int := ⟨by decide, RX0, TX0, 9, tyX0, rfl, by decide, iw_X0, tyX0_ok, nmX0, rfl, GW_q1 222 (by decide +kernel) rfl, rfl, rfl⟩
theorem fl_X0_45 : FL RX0 45 2 7 := ⟨by decide, RX0, TX0, 9, tyX0, rfl, by decide, iw_X0, tyX0_ok, nmX0, rfl, GW_q1 224 (by decide +kernel) rfl⟩
theorem fw_X0_45 : FLw RX0 45 2 7 .int := ⟨by decide, RX0, TX0, 9, tyX0, rfl, by decide, iw_X0, tyX0_ok, nmX0, rfl, GW_q1 224 (by decide +kernel) rfl, rfl, rfl⟩
theorem fl_X0_48 : FL RX0 48 2 8 := ⟨by decide, RX0, TX0, 9, tyX0, rfl, by decide, iw_X0, tyX0_ok, nmX0, rfl, GW_q1 226 (by decide +kernel) rfl⟩
theorem fw_X0_48 : FLw RX0 48 2 8 .int := ⟨by decide, RX0, TX0, 9, tyX0, rfl, by decide, iw_X0, tyX0_ok, nmX0, rfl, GW_q1 226 (by decide +kernel) rfl, rfl, rfl⟩
theorem fl_X0_61 : FL RX0 61 6 6 := ⟨by decide, RX4, TX4, 10, tyX4, rfl, by decide, iw_X4, tyX4_ok, nmX4, rfl, GW_q1 65 (by decide +kernel) rfl⟩
theorem fw_X0_61 : FLw RX0 61 6 6 .int := ⟨by decide, RX4, TX4, 10, tyX4, rfl, by decide, iw_X4, tyX4_ok, nmX4, rfl, GW_q1 65 (by decide +kernel) rfl, rfl, rfl⟩
theorem fl_X0_68 : FL RX0 68 3 1 := ⟨by decide, RX1, TX1, 11, tyX1, rfl, by decide, iw_X1, tyX1_ok, nmX1, rfl, GW_q1 156 (by decide +kernel) rfl⟩
theorem fw_X0_68 : FLw RX0 68 3 1 .int := ⟨by decide, RX1, TX1, 11, tyX1, rfl, by decide, iw_X1, tyX1_ok, nmX1, rfl, GW_q1 156 (by decide +kernel) rfl, rfl, rfl⟩
theorem fl_X0_71 : FL RX0 71 6 2 := ⟨by decide, RX4, TX4, 10, tyX4, rfl, by decide, iw_X4, tyX4_ok, nmX4, rfl, GW_q1 53 (by decide +kernel) rfl⟩
theorem fw_X0_71 : FLw RX0 71 6 2 .int := ⟨by decide, RX4, TX4, 10, tyX4, rfl, by decide, iw_X4, tyX4_ok, nmX4, rfl, GW_q1 53 (by decide +kernel) rfl, rfl, rfl⟩
theorem fl_X0_74 : FL RX0 74 3 2 := ⟨by decide, RX1, TX1, 11, tyX1, rfl, by decide, iw_X1, tyX1_ok, nmX1, rfl, GW_q1 159 (by decide +kernel) rfl⟩
theorem fw_X0_74 : FLw RX0 74 3 2 .int := ⟨by decide, RX1, TX1, 11, tyX1, rfl, by decide, iw_X1, tyX1_ok, nmX1, rfl, GW_q1 159 (by decide +kernel) rfl, rfl, rfl⟩
theorem fl_X0_77 : FL RX0 77 3 3 := ⟨by decide, RX1, TX1, 11, tyX1, rfl, by decide, iw_X1, tyX1_ok, nmX1, rfl, GW_q1 162 (by decide +kernel) rfl⟩
theorem fw_X0_77 : FLw RX0 77 3 3 .int := ⟨by decide, RX1, TX1, 11, tyX1, rfl, by decide, iw_X1, tyX1_ok, nmX1, rfl, GW_q1 162 (by decide +kernel) rfl, rfl, rfl⟩
theorem fl_X0_88 : FL RX0 88 7 4 := ⟨by decide, RX5, TX5, 8, tyX5, rfl, by decide, iw_X5, tyX5_ok, nmX5, rfl, GW_q1 118 (by decide +kernel) rfl⟩
theorem fw_X0_88 : FLw RX0 88 7 4 .int := ⟨by decide, RX5, TX5, 8, tyX5, rfl, by decide, iw_X5, tyX5_ok, nmX5, rfl, GW_q1 118 (by decide +kernel) rfl, rfl, rfl⟩
theorem fl_X0_95 : FL RX0 95 3 4 := ⟨by decide, RX1, TX1, 11, tyX1, rfl, by decide, iw_X1, tyX1_ok, nmX1, rfl, GW_q1 166 (by decide +kernel) rfl⟩
theorem fw_X0_95 : FLw RX0 95 3 4 .int := ⟨by decide, RX1, TX1, 11, tyX1, rfl, by decide, iw_X1, tyX1_ok, nmX1, rfl, GW_q1 166 (by decide +kernel) rfl, rfl, rfl⟩
theorem fl_X0_100 : FL RX0 100 3 7 := ⟨by decide, RX1, TX1, 11, tyX1, rfl, by decide, iw_X1, tyX1_ok, nmX1, rfl, GW_q1 175 (by decide +kernel) rfl⟩
theorem fw_X0_100 : FLw RX0 100 3 7 .int := ⟨by decide, RX1, TX1, 11, tyX1, rfl, by decide, iw_X1, tyX1_ok, nmX1, rfl, GW_q1 175 (by decide +kernel) rfl, rfl, rfl⟩
theorem fl_X0_107 : FL RX0 107 3 5 := ⟨by decide, RX1, TX1, 11, tyX1, rfl, by decide, iw_X1, tyX1_ok, nmX1, rfl, GW_q1 169 (by decide +kernel) rfl⟩
theorem fw_X0_107 : FLw RX0 107 3 5 .int := ⟨by decide, RX1, TX1, 11, tyX1, rfl, by decide, iw_X1, tyX1_ok, nmX1, rfl, GW_q1 169 (by decide +kernel) rfl, rfl, rfl⟩
theorem fl_X0_110 : FL RX0 110 6 0 := ⟨by decide, RX4, TX4, 10, tyX4, rfl, by decide, iw_X4, tyX4_ok, nmX4, rfl, GW_q1 46 (by decide +kernel) rfl⟩
theorem fw_X0_110 : FLw RX0 110 6 0 .int := ⟨by decide, RX4, TX4, 10, tyX4, rfl, by decide, iw_X4, tyX4_ok, nmX4, rfl, GW_q1 46 (by decide +kernel) rfl, rfl, rfl⟩
theorem fl_X0_117 : FL RX0 117 7 0 := ⟨by decide, RX5, TX5, 8, tyX5, rfl, by decide, iw_X5, tyX5_ok, nmX5, rfl, GW_q1 106 (by decide +kernel) rfl⟩
theorem fw_X0_117 : FLw RX0 117 7 0 .int := ⟨by decide, RX5, TX5, 8, tyX5, rfl, by decide, iw_X5, tyX5_ok, nmX5, rfl, GW_q1 106 (by decide +kernel) rfl, rfl, rfl⟩
theorem fl_X0_136 : FL RX0 136 3 9 := ⟨by decide, RX1, TX1, 11, tyX1, rfl, by decide, iw_X1, tyX1_ok, nmX1, rfl, GW_q1 180 (by decide +kernel) rfl⟩
theorem fw_X0_136 : FLw RX0 136 3 9 .int := ⟨by decide, RX1, TX1, 11, tyX1, rfl, by decide, iw_X1, tyX1_ok, nmX1, rfl, GW_q1 180 (by decide +kernel) rfl, rfl, rfl⟩
theorem fl_X0_139 : FL RX0 139 7 7 := ⟨by decide, RX5, TX5, 8, tyX5, rfl, by decide, iw_X5, tyX5_ok, nmX5, rfl, GW_q1 126 (by decide +kernel) rfl⟩
theorem fw_X0_139 : FLw RX0 139 7 7 .int := ⟨by decide, RX5, TX5, 8, tyX5, rfl, by decide, iw_X5, tyX5_ok, nmX5, rfl, GW_q1 126 (by decide +kernel) rfl, rfl, rfl⟩
theorem fl_X0_142 : FL RX0 142 7 5 := ⟨by decide, RX5, TX5, 8, tyX5, rfl, by decide, iw_X5, tyX5_ok, nmX5, rfl, GW_q1 121 (by decide +kernel) rfl⟩
theorem fw_X0_142 : FLw RX0 142 7 5 .int := ⟨by decide, RX5, TX5, 8, tyX5, rfl, by decide, iw_X5, tyX5_ok, nmX5, rfl, GW_q1 121 (by decide +kernel) rfl, rfl, rfl⟩
theorem fl_X0_145 : FL RX0 145 7 2 := ⟨by decide, RX5, TX5, 8, tyX5, rfl, by decide, iw_X5, tyX5_ok, nmX5, rfl, GW_q1 113 (by decide +kernel) rfl⟩
theorem fw_X0_145 : FLw RX0 145 7 2 .int := ⟨by decide, RX5, TX5, 8, tyX5, rfl, by decide, iw_X5, tyX5_ok, nmX5, rfl, GW_q1 113 (by decide +kernel) rfl, rfl, rfl⟩
theorem fl_X0_148 : FL RX0 148 3 6 := ⟨by decide, RX1, TX1, 11, tyX1, rfl, by decide, iw_X1, tyX1_ok, nmX1, rfl, GW_q1 172 (by decide +kernel) rfl⟩
theorem fw_X0_148 : FLw RX0 148 3 6 .int := ⟨by decide, RX1, TX1, 11, tyX1, rfl, by decide, iw_X1, tyX1_ok, nmX1, rfl, GW_q1 172 (by decide +kernel) rfl, rfl, rfl⟩
theorem fl_X0_167 : FL RX0 167 6 1 := ⟨by decide, RX4, TX4, 10, tyX4, rfl, by decide, iw_X4, tyX4_ok, nmX4, rfl, GW_q1 50 (by decide +kernel) rfl⟩
theorem fw_X0_167 : FLw RX0 167 6 1 .int := ⟨by decide, RX4, TX4, 10, tyX4, rfl, by decide, iw_X4, tyX4_ok, nmX4, rfl, GW_q1 50 (by decide +kernel) rfl, rfl, rfl⟩
theorem fl_X0_174 : FL RX0 174 7 1 := ⟨by decide, RX5, TX5, 8, tyX5, rfl, by decide, iw_X5, tyX5_ok, nmX5, rfl, GW_q1 110 (by decide +kernel) rfl⟩
theorem fw_X0_174 : FLw RX0 174 7 1 .int := ⟨by decide, RX5, TX5, 8, tyX5, rfl, by decide, iw_X5, tyX5_ok, nmX5, rfl, GW_q1 110 (by decide +kernel) rfl, rfl, rfl⟩
theorem fl_X0_177 : FL RX0 177 6 7 := ⟨by decide, RX4, TX4, 10, tyX4, rfl, by decide, iw_X4, tyX4_ok, nmX4, rfl, GW_q1 68 (by decide +kernel) rfl⟩
theorem fw_X0_177 : FLw RX0 177 6 7 .int := ⟨by decide, RX4, TX4, 10, tyX4, rfl, by decide, iw_X4, tyX4_ok, nmX4, rfl, GW_q1 68 (by decide +kernel) rfl, rfl, rfl⟩
theorem fl_X0_184 : FL RX0 184 6 3 := ⟨by decide, RX4, TX4, 10, tyX4, rfl, by decide, iw_X4, tyX4_ok, nmX4, rfl, GW_q1 56 (by decide +kernel) rfl⟩
theorem fw_X0_184 : FLw RX0 184 6 3 .int := ⟨by decide, RX4, TX4, 10, tyX4, rfl, by decide, iw_X4, tyX4_ok, nmX4, rfl, GW_q1 56 (by decide +kernel) rfl, rfl, rfl⟩
theorem fl_X0_187 : FL RX0 187 6 9 := ⟨by decide, RX4, TX4, 10, tyX4, rfl, by decide, iw_X4, tyX4_ok, nmX4, rfl, GW_q1 73 (by decide +kernel) rfl⟩
theorem fw_X0_187 : FLw RX0 187 6 9 .int := ⟨by decide, RX4, TX4, 10, tyX4, rfl, by decide, iw_X4, tyX4_ok, nmX4, rfl, GW_q1 73 (by decide +kernel) rfl, rfl, rfl⟩
theorem fl_X0_194 : FL RX0 194 6 4 := ⟨by decide, RX4, TX4, 10, tyX4, rfl, by decide, iw_X4, tyX4_ok, nmX4, rfl, GW_q1 59 (by decide +kernel) rfl⟩
theorem fw_X0_194 : FLw RX0 194 6 4 .int := ⟨by decide, RX4, TX4, 10, tyX4, rfl, by decide, iw_X4, tyX4_ok, nmX4, rfl, GW_q1 59 (by decide +kernel) rfl, rfl, rfl⟩
theorem fl_X0_200 : FL RX0 200 3 8 := ⟨by decide, RX1, TX1, 11, tyX1, rfl, by decide, iw_X1, tyX1_ok, nmX1, rfl, GW_q1 177 (by decide +kernel) rfl⟩
theorem fw_X0_200 : FLw RX0 200 3 8 .int := ⟨by decide, RX1, TX1, 11, tyX1, rfl, by decide, iw_X1, tyX1_ok, nmX1, rfl, GW_q1 177 (by decide +kernel) rfl, rfl, rfl⟩
theorem fl_X0_203 : FL RX0 203 6 8 := ⟨by decide, RX4, TX4, 10, tyX4, rfl, by decide, iw_X4, tyX4_ok, nmX4, rfl, GW_q1 70 (by decide +kernel) rfl⟩
theorem fw_X0_203 : FLw RX0 203 6 8 .int := ⟨by decide, RX4, TX4, 10, tyX4, rfl, by decide, iw_X4, tyX4_ok, nmX4, rfl, GW_q1 70 (by decide +kernel) rfl, rfl, rfl⟩
theorem fl_X0_206 : FL RX0 206 7 6 := ⟨by decide, RX5, TX5, 8, tyX5, rfl, by decide, iw_X5, tyX5_ok, nmX5, rfl, GW_q1 124 (by decide +kernel) rfl⟩
theorem fw_X0_206 : FLw RX0 206 7 6 .int := ⟨by decide, RX5, TX5, 8, tyX5, rfl, by decide, iw_X5, tyX5_ok, nmX5, rfl, GW_q1 124 (by decide +kernel) rfl, rfl, rfl⟩
theorem fl_X1_9 : FL RX1 9 3 0 := ⟨by decide, RX1, TX1, 11, tyX1, rfl, by decide, iw_X1, tyX1_ok, nmX1, rfl, GW_q1 152 (by decide +kernel) rfl⟩
theorem fw_X1_9 : FLw RX1 9 3 0 .int := ⟨by decide, RX1, TX1, 11, tyX1, rfl, by decide, iw_X1, tyX1_ok, nmX1, rfl, GW_q1 152 (by decide +kernel) rfl, rfl, rfl⟩
theorem fl_X1_15 : FL RX1 15 3 1 := ⟨by decide, RX1, TX1, 11, tyX1, rfl, by decide, iw_X1, tyX1_ok, nmX1, rfl, GW_q1 155 (by decide +kernel) rfl⟩
theorem fw_X1_15 : FLw RX1 15 3 1 .int := ⟨by decide, RX1, TX1, 11, tyX1, rfl, by decide, iw_X1, tyX1_ok, nmX1, rfl, GW_q1 155 (by decide +kernel) rfl, rfl, rfl⟩
theorem fl_X1_18 : FL RX1 18 3 2 := ⟨by decide, RX1, TX1, 11, tyX1, rfl, by decide, iw_X1, tyX1_ok, nmX1, rfl, GW_q1 158 (by decide +kernel) rfl⟩
theorem fw_X1_18 : FLw RX1 18 3 2 .int := ⟨by decide, RX1, TX1, 11, tyX1, rfl, by decide, iw_X1, tyX1_ok, nmX1, rfl, GW_q1 158 (by decide +kernel) rfl, rfl, rfl⟩
theorem fl_X1_21 : FL RX1 21 3 3 := ⟨by decide, RX1, TX1, 11, tyX1, rfl, by decide, iw_X1, tyX1_ok, nmX1, rfl, GW_q1 161 (by decide +kernel) rfl⟩
theorem fw_X1_21 : FLw RX1 21 3 3 .int := ⟨by decide, RX1, TX1, 11, tyX1, rfl, by decide, iw_X1, tyX1_ok, nmX1, rfl, GW_q1 161 (by decide +kernel) rfl, rfl, rfl⟩
theorem fl_X1_24 : FL RX1 24 3 8 := ⟨by decide, RX1, TX1, 11, tyX1, rfl, by decide, iw_X1, tyX1_ok, nmX1, rfl, GW_q1 176 (by decide +kernel) rfl⟩
theorem fw_X1_24 : FLw RX1 24 3 8 .int := ⟨by decide, RX1, TX1, 11, tyX1, rfl, by decide, iw_X1, tyX1_ok, nmX1, rfl, GW_q1 176 (by decide +kernel) rfl, rfl, rfl⟩
theorem fl_X1_27 : FL RX1 27 3 9 := ⟨by decide, RX1, TX1, 11, tyX1, rfl, by decide, iw_X1, tyX1_ok, nmX1, rfl, GW_q1 179 (by decide +kernel) rfl⟩
theorem fw_X1_27 : FLw RX1 27 3 9 .int := ⟨by decide, RX1, TX1, 11, tyX1, rfl, by decide, iw_X1, tyX1_ok, nmX1, rfl, GW_q1 179 (by decide +kernel) rfl, rfl, rfl⟩
theorem fl_X1_30 : FL RX1 30 3 10 := ⟨by decide, RX1, TX1, 11, tyX1, rfl, by decide, iw_X1, tyX1_ok, nmX1, rfl, GW_q1 182 (by decide +kernel) rfl⟩
theorem fw_X1_30 : FLw RX1 30 3 10 .int := ⟨by decide, RX1, TX1, 11, tyX1, rfl, by decide, iw_X1, tyX1_ok, nmX1, rfl, GW_q1 182 (by decide +kernel) rfl, rfl, rfl⟩
theorem fl_X1_37 : FL RX1 37 3 4 := ⟨by decide, RX1, TX1, 11, tyX1, rfl, by decide, iw_X1, tyX1_ok, nmX1, rfl, GW_q1 164 (by decide +kernel) rfl⟩
theorem fw_X1_37 : FLw RX1 37 3 4 .int := ⟨by decide, RX1, TX1, 11, tyX1, rfl, by decide, iw_X1, tyX1_ok, nmX1, rfl, GW_q1 164 (by decide +kernel) rfl, rfl, rfl⟩
theorem fl_X1_40 : FL RX1 40 3 5 := ⟨by decide, RX1, TX1, 11, tyX1, rfl, by decide, iw_X1, tyX1_ok, nmX1, rfl, GW_q1 167 (by decide +kernel) rfl⟩
theorem fw_X1_40 : FLw RX1 40 3 5 .int := ⟨by decide, RX1, TX1, 11, tyX1, rfl, by decide, iw_X1, tyX1_ok, nmX1, rfl, GW_q1 167 (by decide +kernel) rfl, rfl, rfl⟩
theorem fl_X1_43 : FL RX1 43 3 6 := ⟨by decide, RX1, TX1, 11, tyX1, rfl, by decide, iw_X1, tyX1_ok, nmX1, rfl, GW_q1 170 (by decide +kernel) rfl⟩
theorem fw_X1_43 : FLw RX1 43 3 6 .int := ⟨by decide, RX1, TX1, 11, tyX1, rfl, by decide, iw_X1, tyX1_ok, nmX1, rfl, GW_q1 170 (by decide +kernel) rfl, rfl, rfl⟩
theorem fl_X1_46 : FL RX1 46 3 7 := ⟨by decide, RX1, TX1, 11, tyX1, rfl, by decide, iw_X1, tyX1_ok, nmX1, rfl, GW_q1 173 (by decide +kernel) rfl⟩
theorem fw_X1_46 : FLw RX1 46 3 7 .int := ⟨by decide, RX1, TX1, 11, tyX1, rfl, by decide, iw_X1, tyX1_ok, nmX1, rfl, GW_q1 173 (by decide +kernel) rfl, rfl, rfl⟩
theorem fl_X2_11 : FL RX2 11 4 0 := ⟨by decide, RX2, TX2, 3, tyX2, rfl, by decide, iw_X2, tyX2_ok, nmX2, rfl, GW_q2 16 (by decide +kernel) rfl⟩
theorem fl_X2_18 : FL RX2 18 4 2 := ⟨by decide, RX2, TX2, 3, tyX2, rfl, by decide, iw_X2, tyX2_ok, nmX2, rfl, GW_q2 18 (by decide +kernel) rfl⟩
theorem fw_X2_18 : FLw RX2 18 4 2 .int := ⟨by decide, RX2, TX2, 3, tyX2, rfl, by decide, iw_X2, tyX2_ok, nmX2, rfl, GW_q2 18 (by decide +kernel) rfl, rfl, rfl⟩
theorem fl_X2_22 : FL RX2 22 4 1 := ⟨by decide, RX2, TX2, 3, tyX2, rfl, by decide, iw_X2, tyX2_ok, nmX2, rfl, GW_q2 17 (by decide +kernel) rfl⟩
theorem fw_X2_22 : FLw RX2 22 4 1 .int := ⟨by decide, RX2, TX2, 3, tyX2, rfl, by decide, iw_X2, tyX2_ok, nmX2, rfl, GW_q2 17 (by decide +kernel) rfl, rfl, rfl⟩
theorem fl_X3_9 : FL RX3 9 5 0 := ⟨by decide, RX3, TX3, 7, tyX3, rfl, by decide, iw_X3, tyX3_ok, nmX3, rfl, GW_q2 33 (by decide +kernel) rfl⟩
theorem fl_X3_15 : FL RX3 15 5 1 := ⟨by decide, RX3, TX3, 7, tyX3, rfl, by decide, iw_X3, tyX3_ok, nmX3, rfl, GW_q2 34 (by decide +kernel) rfl⟩
theorem fw_X3_15 : FLw RX3 15 5 1 .int := ⟨by decide, RX3, TX3, 7, tyX3, rfl, by decide, iw_X3, tyX3_ok, nmX3, rfl, GW_q2 34 (by decide +kernel) rfl, rfl, rfl⟩
theorem fl_X3_19 : FL RX3 19 5 2 := ⟨by decide, RX3, TX3, 7, tyX3, rfl, by decide, iw_X3, tyX3_ok, nmX3, rfl, GW_q2 36 (by decide +kernel) rfl⟩
theorem fw_X3_19 : FLw RX3 19 5 2 .int := ⟨by decide, RX3, TX3, 7, tyX3, rfl, by decide, iw_X3, tyX3_ok, nmX3, rfl, GW_q2 36 (by decide +kernel) rfl, rfl, rfl⟩
theorem fl_X3_22 : FL RX3 22 5 3 := ⟨by decide, RX3, TX3, 7, tyX3, rfl, by decide, iw_X3, tyX3_ok, nmX3, rfl, GW_q2 38 (by decide +kernel) rfl⟩
theorem fw_X3_22 : FLw RX3 22 5 3 .int := ⟨by decide, RX3, TX3, 7, tyX3, rfl, by decide, iw_X3, tyX3_ok, nmX3, rfl, GW_q2 38 (by decide +kernel) rfl, rfl, rfl⟩
theorem fl_X3_33 : FL RX3 33 5 4 := ⟨by decide, RX3, TX3, 7, tyX3, rfl, by decide, iw_X3, tyX3_ok, nmX3, rfl, GW_q2 40 (by decide +kernel) rfl⟩
theorem fw_X3_33 : FLw RX3 33 5 4 .int := ⟨by decide, RX3, TX3, 7, tyX3, rfl, by decide, iw_X3, tyX3_ok, nmX3, rfl, GW_q2 40 (by decide +kernel) rfl, rfl, rfl⟩
theorem fl_X3_53 : FL RX3 53 5 5 := ⟨by decide, RX3, TX3, 7, tyX3, rfl, by decide, iw_X3, tyX3_ok, nmX3, rfl, GW_q2 42 (by decide +kernel) rfl⟩
theorem fw_X3_53 : FLw RX3 53 5 5 .int := ⟨by decide, RX3, TX3, 7, tyX3, rfl, by decide, iw_X3, tyX3_ok, nmX3, rfl, GW_q2 42 (by decide +kernel) rfl, rfl, rfl⟩
theorem fl_X3_56 : FL RX3 56 5 6 := ⟨by decide, RX3, TX3, 7, tyX3, rfl, by decide, iw_X3, tyX3_ok, nmX3, rfl, GW_q2 44 (by decide +kernel) rfl⟩
theorem fw_X3_56 : FLw RX3 56 5 6 .int := ⟨by decide, RX3, TX3, 7, tyX3, rfl, by decide, iw_X3, tyX3_ok, nmX3, rfl, GW_q2 44 (by decide +kernel) rfl, rfl, rfl⟩
theorem fl_X4_7 : FL RX4 7 6 0 := ⟨by decide, RX4, TX4, 10, tyX4, rfl, by decide, iw_X4, tyX4_ok, nmX4, rfl, GW_q1 43 (by decide +kernel) rfl⟩
theorem fw_X4_7 : FLw RX4 7 6 0 .int := ⟨by decide, RX4, TX4, 10, tyX4, rfl, by decide, iw_X4, tyX4_ok, nmX4, rfl, GW_q1 43 (by decide +kernel) rfl, rfl, rfl⟩
theorem fl_X4_13 : FL RX4 13 6 1 := ⟨by decide, RX4, TX4, 10, tyX4, rfl, by decide, iw_X4, tyX4_ok, nmX4, rfl, GW_q1 47 (by decide +kernel) rfl⟩
theorem fw_X4_13 : FLw RX4 13 6 1 .int := ⟨by decide, RX4, TX4, 10, tyX4, rfl, by decide, iw_X4, tyX4_ok, nmX4, rfl, GW_q1 47 (by decide +kernel) rfl, rfl, rfl⟩
theorem fl_X4_16 : FL RX4 16 6 2 := ⟨by decide, RX4, TX4, 10, tyX4, rfl, by decide, iw_X4, tyX4_ok, nmX4, rfl, GW_q1 51 (by decide +kernel) rfl⟩
theorem fw_X4_16 : FLw RX4 16 6 2 .int := ⟨by decide, RX4, TX4, 10, tyX4, rfl, by decide, iw_X4, tyX4_ok, nmX4, rfl, GW_q1 51 (by decide +kernel) rfl, rfl, rfl⟩
theorem fl_X4_19 : FL RX4 19 6 3 := ⟨by decide, RX4, TX4, 10, tyX4, rfl, by decide, iw_X4, tyX4_ok, nmX4, rfl, GW_q1 54 (by decide +kernel) rfl⟩
theorem fw_X4_19 : FLw RX4 19 6 3 .int := ⟨by decide, RX4, TX4, 10, tyX4, rfl, by decide, iw_X4, tyX4_ok, nmX4, rfl, GW_q1 54 (by decide +kernel) rfl, rfl, rfl⟩
theorem fl_X4_22 : FL RX4 22 6 4 := ⟨by decide, RX4, TX4, 10, tyX4, rfl, by decide, iw_X4, tyX4_ok, nmX4, rfl, GW_q1 57 (by decide +kernel) rfl⟩
theorem fw_X4_22 : FLw RX4 22 6 4 .int := ⟨by decide, RX4, TX4, 10, tyX4, rfl, by decide, iw_X4, tyX4_ok, nmX4, rfl, GW_q1 57 (by decide +kernel) rfl, rfl, rfl⟩
theorem fl_X4_25 : FL RX4 25 6 5 := ⟨by decide, RX4, TX4, 10, tyX4, rfl, by decide, iw_X4, tyX4_ok, nmX4, rfl, GW_q1 60 (by decide +kernel) rfl⟩
theorem fw_X4_25 : FLw RX4 25 6 5 .int := ⟨by decide, RX4, TX4, 10, tyX4, rfl, by decide, iw_X4, tyX4_ok, nmX4, rfl, GW_q1 60 (by decide +kernel) rfl, rfl, rfl⟩
theorem fl_X4_28 : FL RX4 28 6 6 := ⟨by decide, RX4, TX4, 10, tyX4, rfl, by decide, iw_X4, tyX4_ok, nmX4, rfl, GW_q1 63 (by decide +kernel) rfl⟩
theorem fw_X4_28 : FLw RX4 28 6 6 .int := ⟨by decide, RX4, TX4, 10, tyX4, rfl, by decide, iw_X4, tyX4_ok, nmX4, rfl, GW_q1 63 (by decide +kernel) rfl, rfl, rfl⟩
theorem fl_X4_31 : FL RX4 31 6 7 := ⟨by decide, RX4, TX4, 10, tyX4, rfl, by decide, iw_X4, tyX4_ok, nmX4, rfl, GW_q1 66 (by decide +kernel) rfl⟩
theorem fw_X4_31 : FLw RX4 31 6 7 .int := ⟨by decide, RX4, TX4, 10, tyX4, rfl, by decide, iw_X4, tyX4_ok, nmX4, rfl, GW_q1 66 (by decide +kernel) rfl, rfl, rfl⟩
theorem fl_X4_34 : FL RX4 34 6 8 := ⟨by decide, RX4, TX4, 10, tyX4, rfl, by decide, iw_X4, tyX4_ok, nmX4, rfl, GW_q1 69 (by decide +kernel) rfl⟩
theorem fw_X4_34 : FLw RX4 34 6 8 .int := ⟨by decide, RX4, TX4, 10, tyX4, rfl, by decide, iw_X4, tyX4_ok, nmX4, rfl, GW_q1 69 (by decide +kernel) rfl, rfl, rfl⟩
theorem fl_X4_37 : FL RX4 37 6 9 := ⟨by decide, RX4, TX4, 10, tyX4, rfl, by decide, iw_X4, tyX4_ok, nmX4, rfl, GW_q1 72 (by decide +kernel) rfl⟩
theorem fw_X4_37 : FLw RX4 37 6 9 .int := ⟨by decide, RX4, TX4, 10, tyX4, rfl, by decide, iw_X4, tyX4_ok, nmX4, rfl, GW_q1 72 (by decide +kernel) rfl, rfl, rfl⟩
theorem fl_X5_9 : FL RX5 9 7 0 := ⟨by decide, RX5, TX5, 8, tyX5, rfl, by decide, iw_X5, tyX5_ok, nmX5, rfl, GW_q1 103 (by decide +kernel) rfl⟩
theorem fw_X5_9 : FLw RX5 9 7 0 .int := ⟨by decide, RX5, TX5, 8, tyX5, rfl, by decide, iw_X5, tyX5_ok, nmX5, rfl, GW_q1 103 (by decide +kernel) rfl, rfl, rfl⟩
theorem fl_X5_15 : FL RX5 15 7 1 := ⟨by decide, RX5, TX5, 8, tyX5, rfl, by decide, iw_X5, tyX5_ok, nmX5, rfl, GW_q1 107 (by decide +kernel) rfl⟩
theorem fw_X5_15 : FLw RX5 15 7 1 .int := ⟨by decide, RX5, TX5, 8, tyX5, rfl, by decide, iw_X5, tyX5_ok, nmX5, rfl, GW_q1 107 (by decide +kernel) rfl, rfl, rfl⟩
theorem fl_X5_18 : FL RX5 18 7 2 := ⟨by decide, RX5, TX5, 8, tyX5, rfl, by decide, iw_X5, tyX5_ok, nmX5, rfl, GW_q1 111 (by decide +kernel) rfl⟩
theorem fw_X5_18 : FLw RX5 18 7 2 .int := ⟨by decide, RX5, TX5, 8, tyX5, rfl, by decide, iw_X5, tyX5_ok, nmX5, rfl, GW_q1 111 (by decide +kernel) rfl, rfl, rfl⟩
theorem fl_X5_21 : FL RX5 21 7 3 := ⟨by decide, RX5, TX5, 8, tyX5, rfl, by decide, iw_X5, tyX5_ok, nmX5, rfl, GW_q1 114 (by decide +kernel) rfl⟩
theorem fw_X5_21 : FLw RX5 21 7 3 .int := ⟨by decide, RX5, TX5, 8, tyX5, rfl, by decide, iw_X5, tyX5_ok, nmX5, rfl, GW_q1 114 (by decide +kernel) rfl, rfl, rfl⟩
theorem fl_X5_24 : FL RX5 24 7 4 := ⟨by decide, RX5, TX5, 8, tyX5, rfl, by decide, iw_X5, tyX5_ok, nmX5, rfl, GW_q1 116 (by decide +kernel) rfl⟩
theorem fw_X5_24 : FLw RX5 24 7 4 .int := ⟨by decide, RX5, TX5, 8, tyX5, rfl, by decide, iw_X5, tyX5_ok, nmX5, rfl, GW_q1 116 (by decide +kernel) rfl, rfl, rfl⟩
theorem fl_X5_27 : FL RX5 27 7 5 := ⟨by decide, RX5, TX5, 8, tyX5, rfl, by decide, iw_X5, tyX5_ok, nmX5, rfl, GW_q1 119 (by decide +kernel) rfl⟩
theorem fw_X5_27 : FLw RX5 27 7 5 .int := ⟨by decide, RX5, TX5, 8, tyX5, rfl, by decide, iw_X5, tyX5_ok, nmX5, rfl, GW_q1 119 (by decide +kernel) rfl, rfl, rfl⟩
theorem fl_X5_30 : FL RX5 30 7 6 := ⟨by decide, RX5, TX5, 8, tyX5, rfl, by decide, iw_X5, tyX5_ok, nmX5, rfl, GW_q1 122 (by decide +kernel) rfl⟩
theorem fw_X5_30 : FLw RX5 30 7 6 .int := ⟨by decide, RX5, TX5, 8, tyX5, rfl, by decide, iw_X5, tyX5_ok, nmX5, rfl, GW_q1 122 (by decide +kernel) rfl, rfl, rfl⟩
theorem fl_X5_33 : FL RX5 33 7 7 := ⟨by decide, RX5, TX5, 8, tyX5, rfl, by decide, iw_X5, tyX5_ok, nmX5, rfl, GW_q1 125 (by decide +kernel) rfl⟩
theorem fw_X5_33 : FLw RX5 33 7 7 .int := ⟨by decide, RX5, TX5, 8, tyX5, rfl, by decide, iw_X5, tyX5_ok, nmX5, rfl, GW_q1 125 (by decide +kernel) rfl, rfl, rfl⟩
theorem fl_X5_36 : FL RX5 36 3 0 := ⟨by decide, RX1, TX1, 11, tyX1, rfl, by decide, iw_X1, tyX1_ok, nmX1, rfl, GW_q1 153 (by decide +kernel) rfl⟩
theorem fw_X5_36 : FLw RX5 36 3 0 .int := ⟨by decide, RX1, TX1, 11, tyX1, rfl, by decide, iw_X1, tyX1_ok, nmX1, rfl, GW_q1 153 (by decide +kernel) rfl, rfl, rfl⟩
theorem fl_X6_9 : FL RX6 9 8 0 := ⟨by decide, RX6, TX6, 1, tyX6, rfl, by decide, iw_X6, tyX6_ok, nmX6, rfl, GW_q2 68 (by decide +kernel) rfl⟩
theorem fl_X6_24 : FL RX6 24 2 3 := ⟨by decide, RX0, TX0, 9, tyX0, rfl, by decide, iw_X0, tyX0_ok, nmX0, rfl, GW_q1 216 (by decide +kernel) rfl⟩
theorem fw_X6_24 : FLw RX6 24 2 3 .int := ⟨by decide, RX0, TX0, 9, tyX0, rfl, by decide, iw_X0, tyX0_ok, nmX0, rfl, GW_q1 216 (by decide +kernel) rfl, rfl, rfl⟩
theorem fl_X6_30 : FL RX6 30 2 0 := ⟨by decide, RX0, TX0, 9, tyX0, rfl, by decide, iw_X0, tyX0_ok, nmX0, rfl, GW_q1 209 (by decide +kernel) rfl⟩
theorem fl_X6_38 : FL RX6 38 6 0 := ⟨by decide, RX4, TX4, 10, tyX4, rfl, by decide, iw_X4, tyX4_ok, nmX4, rfl, GW_q1 44 (by decide +kernel) rfl⟩
theorem fw_X6_38 : FLw RX6 38 6 0 .int := ⟨by decide, RX4, TX4, 10, tyX4, rfl, by decide, iw_X4, tyX4_ok, nmX4, rfl, GW_q1 44 (by decide +kernel) rfl, rfl, rfl⟩
theorem fl_X6_43 : FL RX6 43 6 5 := ⟨by decide, RX4, TX4, 10, tyX4, rfl, by decide, iw_X4, tyX4_ok, nmX4, rfl, GW_q1 61 (by decide +kernel) rfl⟩
theorem fw_X6_43 : FLw RX6 43 6 5 .int := ⟨by decide, RX4, TX4, 10, tyX4, rfl, by decide, iw_X4, tyX4_ok, nmX4, rfl, GW_q1 61 (by decide +kernel) rfl, rfl, rfl⟩
theorem fl_X6_46 : FL RX6 46 6 1 := ⟨by decide, RX4, TX4, 10, tyX4, rfl, by decide, iw_X4, tyX4_ok, nmX4, rfl, GW_q1 48 (by decide +kernel) rfl⟩
theorem fw_X6_46 : FLw RX6 46 6 1 .int := ⟨by decide, RX4, TX4, 10, tyX4, rfl, by decide, iw_X4, tyX4_ok, nmX4, rfl, GW_q1 48 (by decide +kernel) rfl, rfl, rfl⟩
theorem fl_X6_57 : FL RX6 57 2 4 := ⟨by decide, RX0, TX0, 9, tyX0, rfl, by decide, iw_X0, tyX0_ok, nmX0, rfl, GW_q1 219 (by decide +kernel) rfl⟩
theorem fw_X6_57 : FLw RX6 57 2 4 .int := ⟨by decide, RX0, TX0, 9, tyX0, rfl, by decide, iw_X0, tyX0_ok, nmX0, rfl, GW_q1 219 (by decide +kernel) rfl, rfl, rfl⟩
theorem fl_X6_60 : FL RX6 60 2 1 := ⟨by decide, RX0, TX0, 9, tyX0, rfl, by decide, iw_X0, tyX0_ok, nmX0, rfl, GW_q1 211 (by decide +kernel) rfl⟩
theorem fl_X6_67 : FL RX6 67 7 0 := ⟨by decide, RX5, TX5, 8, tyX5, rfl, by decide, iw_X5, tyX5_ok, nmX5, rfl, GW_q1 104 (by decide +kernel) rfl⟩
theorem fw_X6_67 : FLw RX6 67 7 0 .int := ⟨by decide, RX5, TX5, 8, tyX5, rfl, by decide, iw_X5, tyX5_ok, nmX5, rfl, GW_q1 104 (by decide +kernel) rfl, rfl, rfl⟩
theorem fl_X6_76 : FL RX6 76 7 1 := ⟨by decide, RX5, TX5, 8, tyX5, rfl, by decide, iw_X5, tyX5_ok, nmX5, rfl, GW_q1 108 (by decide +kernel) rfl⟩
theorem fw_X6_76 : FLw RX6 76 7 1 .int := ⟨by decide, RX5, TX5, 8, tyX5, rfl, by decide, iw_X5, tyX5_ok, nmX5, rfl, GW_q1 108 (by decide +kernel) rfl, rfl, rfl⟩
theorem fl_X8_9 : FL RX8 9 10 0 := ⟨by decide, RX8, TX8, 20, tyX8, rfl, by decide, iw_X8, tyX8_ok, nmX8, rfl, GW_q5 206 (by decide +kernel) rfl⟩
theorem fl_X8_13 : FL RX8 13 10 1 := ⟨by decide, RX8, TX8, 20, tyX8, rfl, by decide, iw_X8, tyX8_ok, nmX8, rfl, GW_q5 207 (by decide +kernel) rfl⟩
theorem fl_X8_16 : FL RX8 16 10 3 := ⟨by decide, RX8, TX8, 20, tyX8, rfl, by decide, iw_X8, tyX8_ok, nmX8, rfl, GW_q5 209 (by decide +kernel) rfl⟩
theorem fl_X8_19 : FL RX8 19 10 8 := ⟨by decide, RX8, TX8, 20, tyX8, rfl, by decide, iw_X8, tyX8_ok, nmX8, rfl, GW_q5 214 (by decide +kernel) rfl⟩
theorem fl_X8_22 : FL RX8 22 10 9 := ⟨by decide, RX8, TX8, 20, tyX8, rfl, by decide, iw_X8, tyX8_ok, nmX8, rfl, GW_q5 215 (by decide +kernel) rfl⟩
theorem fl_X8_25 : FL RX8 25 10 11 := ⟨by decide, RX8, TX8, 20, tyX8, rfl, by decide, iw_X8, tyX8_ok, nmX8, rfl, GW_q5 217 (by decide +kernel) rfl⟩
theorem fl_X8_28 : FL RX8 28 10 17 := ⟨by decide, RX8, TX8, 20, tyX8, rfl, by decide, iw_X8, tyX8_ok, nmX8, rfl, GW_q5 223 (by decide +kernel) rfl⟩
theorem fl_X8_31 : FL RX8 31 10 18 := ⟨by decide, RX8, TX8, 20, tyX8, rfl, by decide, iw_X8, tyX8_ok, nmX8, rfl, GW_q5 224 (by decide +kernel) rfl⟩
theorem fl_X8_34 : FL RX8 34 10 19 := ⟨by decide, RX8, TX8, 20, tyX8, rfl, by decide, iw_X8, tyX8_ok, nmX8, rfl, GW_q5 225 (by decide +kernel) rfl⟩
theorem fl_X8_37 : FL RX8 37 10 5 := ⟨by decide, RX8, TX8, 20, tyX8, rfl, by decide, iw_X8, tyX8_ok, nmX8, rfl, GW_q5 211 (by decide +kernel) rfl⟩
theorem fw_X8_37 : FLw RX8 37 10 5 .int := ⟨by decide, RX8, TX8, 20, tyX8, rfl, by decide, iw_X8, tyX8_ok, nmX8, rfl, GW_q5 211 (by decide +kernel) rfl, rfl, rfl⟩
theorem fl_X8_41 : FL RX8 41 10 6 := ⟨by decide, RX8, TX8, 20, tyX8, rfl, by decide, iw_X8, tyX8_ok, nmX8, rfl, GW_q5 212 (by decide +kernel) rfl⟩
theorem fw_X8_41 : FLw RX8 41 10 6 .int := ⟨by decide, RX8, TX8, 20, tyX8, rfl, by decide, iw_X8, tyX8_ok, nmX8, rfl, GW_q5 212 (by decide +kernel) rfl, rfl, rfl⟩
theorem fl_X8_44 : FL RX8 44 10 4 := ⟨by decide, RX8, TX8, 20, tyX8, rfl, by decide, iw_X8, tyX8_ok, nmX8, rfl, GW_q5 210 (by decide +kernel) rfl⟩
theorem fw_X8_44 : FLw RX8 44 10 4 .int := ⟨by decide, RX8, TX8, 20, tyX8, rfl, by decide, iw_X8, tyX8_ok, nmX8, rfl, GW_q5 210 (by decide +kernel) rfl, rfl, rfl⟩
theorem fl_X8_124 : FL RX8 124 10 7 := ⟨by decide, RX8, TX8, 20, tyX8, rfl, by decide, iw_X8, tyX8_ok, nmX8, rfl, GW_q5 213 (by decide +kernel) rfl⟩
theorem fw_X8_124 : FLw RX8 124 10 7 .int := ⟨by decide, RX8, TX8, 20, tyX8, rfl, by decide, iw_X8, tyX8_ok, nmX8, rfl, GW_q5 213 (by decide +kernel) rfl, rfl, rfl⟩
theorem fl_X8_172 : FL RX8 172 10 10 := ⟨by decide, RX8, TX8, 20, tyX8, rfl, by decide, iw_X8, tyX8_ok, nmX8, rfl, GW_q5 216 (by decide +kernel) rfl⟩
theorem fw_X8_172 : FLw RX8 172 10 10 .int := ⟨by decide, RX8, TX8, 20, tyX8, rfl, by decide, iw_X8, tyX8_ok, nmX8, rfl, GW_q5 216 (by decide +kernel) rfl, rfl, rfl⟩
theorem fl_X8_175 : FL RX8 175 10 12 := ⟨by decide, RX8, TX8, 20, tyX8, rfl, by decide, iw_X8, tyX8_ok, nmX8, rfl, GW_q5 218 (by decide +kernel) rfl⟩
theorem fw_X8_175 : FLw RX8 175 10 12 .int := ⟨by decide, RX8, TX8, 20, tyX8, rfl, by decide, iw_X8, tyX8_ok, nmX8, rfl, GW_q5 218 (by decide +kernel) rfl, rfl, rfl⟩
theorem fl_X8_178 : FL RX8 178 10 13 := ⟨by decide, RX8, TX8, 20, tyX8, rfl, by decide, iw_X8, tyX8_ok, nmX8, rfl, GW_q5 219 (by decide +kernel) rfl⟩
theorem fw_X8_178 : FLw RX8 178 10 13 .boolean := ⟨by decide, RX8, TX8, 20, tyX8, rfl, by decide, iw_X8, tyX8_ok, nmX8, rfl, GW_q5 219 (by decide +kernel) rfl, rfl, rfl⟩
theorem fl_X8_188 : FL RX8 188 10 16 := ⟨by decide, RX8, TX8, 20, tyX8, rfl, by decide, iw_X8, tyX8_ok, nmX8, rfl, GW_q5 222 (by decide +kernel) rfl⟩
theorem fw_X8_188 : FLw RX8 188 10 16 .int := ⟨by decide, RX8, TX8, 20, tyX8, rfl, by decide, iw_X8, tyX8_ok, nmX8, rfl, GW_q5 222 (by decide +kernel) rfl, rfl, rfl⟩
theorem fl_X8_204 : FL RX8 204 10 14 := ⟨by decide, RX8, TX8, 20, tyX8, rfl, by decide, iw_X8, tyX8_ok, nmX8, rfl, GW_q5 220 (by decide +kernel) rfl⟩
theorem fw_X8_204 : FLw RX8 204 10 14 .boolean := ⟨by decide, RX8, TX8, 20, tyX8, rfl, by decide, iw_X8, tyX8_ok, nmX8, rfl, GW_q5 220 (by decide +kernel) rfl, rfl, rfl⟩
theorem fl_X8_207 : FL RX8 207 10 15 := ⟨by decide, RX8, TX8, 20, tyX8, rfl, by decide, iw_X8, tyX8_ok, nmX8, rfl, GW_q5 221 (by decide +kernel) rfl⟩
theorem fw_X8_207 : FLw RX8 207 10 15 .int := ⟨by decide, RX8, TX8, 20, tyX8, rfl, by decide, iw_X8, tyX8_ok, nmX8, rfl, GW_q5 221 (by decide +kernel) rfl, rfl, rfl⟩
theorem fl_X8_213 : FL RX8 213 10 2 := ⟨by decide, RX8, TX8, 20, tyX8, rfl, by decide, iw_X8, tyX8_ok, nmX8, rfl, GW_q5 208 (by decide +kernel) rfl⟩
theorem fw_X8_213 : FLw RX8 213 10 2 .boolean := ⟨by decide, RX8, TX8, 20, tyX8, rfl, by decide, iw_X8, tyX8_ok, nmX8, rfl, GW_q5 208 (by decide +kernel) rfl, rfl, rfl⟩
theorem mk_X0_becomeEmpty : MVok mX0_becomeEmpty 2 0 := ⟨by decide, ⟨TX0, 9, rfl⟩, GW_q2 106 (by decide +kernel) rfl, GW_q2 107 (by decide +kernel) rfl, ini_RX0, GW_q2 108 (by decide +kernel) rfl, by decide, by decide, by decide +kernel⟩
theorem lk_X7_57 : LKV RX7 57 mX0_becomeEmpty 2 0 := lkv mk_X0_becomeEmpty (GW_q2 105 (by decide +kernel) rfl)
theorem mk_X2_forgetAll : MVok mX2_forgetAll 4 0 := ⟨by decide, ⟨TX2, 3, rfl⟩, GW_q2 110 (by decide +kernel) rfl, GW_q2 111 (by decide +kernel) rfl, ini_RX2, GW_q2 112 (by decide +kernel) rfl, by decide, by decide, by decide +kernel⟩
theorem lk_X7_60 : LKV RX7 60 mX2_forgetAll 4 0 := lkv mk_X2_forgetAll (GW_q2 109 (by decide +kernel) rfl)
theorem mk_X7_isStation : MSok mX7_isStation 1 := ⟨GW_q2 238 (by decide +kernel) rfl, ini_RX7, GW_q2 239 (by decide +kernel) rfl, by decide, by decide, by decide +kernel⟩
theorem lk_X7_63 : LKS RX7 63 mX7_isStation 1 := ⟨GW_q2 237 (by decide +kernel) rfl, mk_X7_isStation⟩
theorem mk_X7_isBetween : MSok mX7_isBetween 3 := ⟨GW_q3 1 (by decide +kernel) rfl, ini_RX7, GW_q3 2 (by decide +kernel) rfl, by decide, by decide, by decide +kernel⟩
theorem lk_X7_74 : LKS RX7 74 mX7_isBetween 3 := ⟨GW_q3 0 (by decide +kernel) rfl, mk_X7_isBetween⟩
theorem mk_X2_remember : MVok mX2_remember 4 1 := ⟨by decide, ⟨TX2, 3, rfl⟩, GW_q3 49 (by decide +kernel) rfl, GW_q3 50 (by decide +kernel) rfl, ini_RX2, GW_q3 51 (by decide +kernel) rfl, by decide, by decide, by decide +kernel⟩
theorem lk_X7_91 : LKV RX7 91 mX2_remember 4 1 := lkv mk_X2_remember (GW_q3 48 (by decide +kernel) rfl)
theorem mk_X4_begin : MVok mX4_begin 6 6 := ⟨by decide, ⟨TX4, 10, rfl⟩, GW_q3 60 (by decide +kernel) rfl, GW_q3 61 (by decide +kernel) rfl, ini_RX4, GW_q3 62 (by decide +kernel) rfl, by decide, by decide, by decide +kernel⟩
theorem lk_X7_99 : LKV RX7 99 mX4_begin 6 6 := lkv mk_X4_begin (GW_q3 59 (by decide +kernel) rfl)
theorem mk_X5_begin : MVok mX5_begin 7 4 := ⟨by decide, ⟨TX5, 8, rfl⟩, GW_q3 73 (by decide +kernel) rfl, GW_q3 74 (by decide +kernel) rfl, ini_RX5, GW_q3 75 (by decide +kernel) rfl, by decide, by decide, by decide +kernel⟩
theorem lk_X7_116 : LKV RX7 116 mX5_begin 7 4 := lkv mk_X5_begin (GW_q3 72 (by decide +kernel) rfl)
theorem mk_X0_heldLifts : MVok mX0_heldLifts 2 0 := ⟨by decide, ⟨TX0, 9, rfl⟩, GW_q3 85 (by decide +kernel) rfl, GW_q3 86 (by decide +kernel) rfl, ini_RX0, GW_q3 87 (by decide +kernel) rfl, by decide, by decide, by decide +kernel⟩
theorem lk_X7_126 : LKV RX7 126 mX0_heldLifts 2 0 := lkv mk_X0_heldLifts (GW_q3 84 (by decide +kernel) rfl)
theorem mk_X0_liftAt : MVok mX0_liftAt 2 1 := ⟨by decide, ⟨TX0, 9, rfl⟩, GW_q3 104 (by decide +kernel) rfl, GW_q3 105 (by decide +kernel) rfl, ini_RX0, GW_q3 106 (by decide +kernel) rfl, by decide, by decide, by decide +kernel⟩
theorem lk_X7_130 : LKV RX7 130 mX0_liftAt 2 1 := lkv mk_X0_liftAt (GW_q3 103 (by decide +kernel) rfl)
theorem mk_X0_speedOf : MVok mX0_speedOf 2 1 := ⟨by decide, ⟨TX0, 9, rfl⟩, GW_q3 93 (by decide +kernel) rfl, GW_q3 94 (by decide +kernel) rfl, ini_RX0, GW_q3 95 (by decide +kernel) rfl, by decide, by decide, by decide +kernel⟩
theorem lk_X7_157 : LKV RX7 157 mX0_speedOf 2 1 := lkv mk_X0_speedOf (GW_q3 108 (by decide +kernel) rfl)
theorem mk_X0_guestsWith : MVok mX0_guestsWith 2 2 := ⟨by decide, ⟨TX0, 9, rfl⟩, GW_q3 110 (by decide +kernel) rfl, GW_q3 111 (by decide +kernel) rfl, ini_RX0, GW_q3 112 (by decide +kernel) rfl, by decide, by decide, by decide +kernel⟩
theorem lk_X7_164 : LKV RX7 164 mX0_guestsWith 2 2 := lkv mk_X0_guestsWith (GW_q3 109 (by decide +kernel) rfl)
theorem mk_X0_pisteAt : MVok mX0_pisteAt 2 1 := ⟨by decide, ⟨TX0, 9, rfl⟩, GW_q3 126 (by decide +kernel) rfl, GW_q3 127 (by decide +kernel) rfl, ini_RX0, GW_q3 128 (by decide +kernel) rfl, by decide, by decide, by decide +kernel⟩
theorem lk_X7_170 : LKV RX7 170 mX0_pisteAt 2 1 := lkv mk_X0_pisteAt (GW_q3 125 (by decide +kernel) rfl)
theorem mk_X0_guestsIn : MVok mX0_guestsIn 2 1 := ⟨by decide, ⟨TX0, 9, rfl⟩, GW_q3 155 (by decide +kernel) rfl, GW_q3 156 (by decide +kernel) rfl, ini_RX0, GW_q3 157 (by decide +kernel) rfl, by decide, by decide, by decide +kernel⟩
theorem lk_X7_209 : LKV RX7 209 mX0_guestsIn 2 1 := lkv mk_X0_guestsIn (GW_q3 154 (by decide +kernel) rfl)
theorem mk_X0_openPistes : MVok mX0_openPistes 2 0 := ⟨by decide, ⟨TX0, 9, rfl⟩, GW_q3 159 (by decide +kernel) rfl, GW_q3 160 (by decide +kernel) rfl, ini_RX0, GW_q3 161 (by decide +kernel) rfl, by decide, by decide, by decide +kernel⟩
theorem lk_X7_213 : LKV RX7 213 mX0_openPistes 2 0 := lkv mk_X0_openPistes (GW_q3 158 (by decide +kernel) rfl)
theorem mk_X0_welcome : MVok mX0_welcome 2 5 := ⟨by decide, ⟨TX0, 9, rfl⟩, GW_q3 173 (by decide +kernel) rfl, GW_q3 174 (by decide +kernel) rfl, ini_RX0, GW_q3 175 (by decide +kernel) rfl, by decide, by decide, by decide +kernel⟩
theorem lk_X7_222 : LKV RX7 222 mX0_welcome 2 5 := lkv mk_X0_welcome (GW_q3 172 (by decide +kernel) rfl)
theorem mk_X0_guestAt : MVok mX0_guestAt 2 1 := ⟨by decide, ⟨TX0, 9, rfl⟩, GW_q3 188 (by decide +kernel) rfl, GW_q3 189 (by decide +kernel) rfl, ini_RX0, GW_q3 190 (by decide +kernel) rfl, by decide, by decide, by decide +kernel⟩
theorem lk_X7_226 : LKV RX7 226 mX0_guestAt 2 1 := lkv mk_X0_guestAt (GW_q3 187 (by decide +kernel) rfl)
theorem mk_X0_queueRefusal : MVok mX0_queueRefusal 2 3 := ⟨by decide, ⟨TX0, 9, rfl⟩, GW_q3 203 (by decide +kernel) rfl, GW_q3 204 (by decide +kernel) rfl, ini_RX0, GW_q3 205 (by decide +kernel) rfl, by decide, by decide, by decide +kernel⟩
theorem lk_X7_258 : LKV RX7 258 mX0_queueRefusal 2 3 := lkv mk_X0_queueRefusal (GW_q3 202 (by decide +kernel) rfl)
theorem mk_X7_keepRefusal : MVok mX7_keepRefusal 9 2 := ⟨by decide, ⟨TX7, 9, rfl⟩, GW_q3 213 (by decide +kernel) rfl, GW_sel 1 (by decide +kernel) rfl, ini_RX7, GW_q3 214 (by decide +kernel) rfl, by decide, by decide, by decide +kernel⟩
theorem lk_X7_262 : LKV RX7 262 mX7_keepRefusal 9 2 := lkv mk_X7_keepRefusal (GW_q3 211 (by decide +kernel) rfl)
theorem mk_X0_joinQueue : MVok mX0_joinQueue 2 2 := ⟨by decide, ⟨TX0, 9, rfl⟩, GW_q3 232 (by decide +kernel) rfl, GW_q3 233 (by decide +kernel) rfl, ini_RX0, GW_q3 234 (by decide +kernel) rfl, by decide, by decide, by decide +kernel⟩
theorem lk_X7_271 : LKV RX7 271 mX0_joinQueue 2 2 := lkv mk_X0_joinQueue (GW_q3 231 (by decide +kernel) rfl)
theorem mk_X0_skiRefusal : MVok mX0_skiRefusal 2 2 := ⟨by decide, ⟨TX0, 9, rfl⟩, GW_q4 5 (by decide +kernel) rfl, GW_q4 6 (by decide +kernel) rfl, ini_RX0, GW_q4 7 (by decide +kernel) rfl, by decide, by decide, by decide +kernel⟩
theorem lk_X7_277 : LKV RX7 277 mX0_skiRefusal 2 2 := lkv mk_X0_skiRefusal (GW_q4 4 (by decide +kernel) rfl)
theorem mk_X0_startPiste : MVok mX0_startPiste 2 3 := ⟨by decide, ⟨TX0, 9, rfl⟩, GW_q4 13 (by decide +kernel) rfl, GW_q4 14 (by decide +kernel) rfl, ini_RX0, GW_q4 15 (by decide +kernel) rfl, by decide, by decide, by decide +kernel⟩
theorem lk_X7_281 : LKV RX7 281 mX0_startPiste 2 3 := lkv mk_X0_startPiste (GW_q4 12 (by decide +kernel) rfl)
theorem mk_X1_goAway : MVok mX1_goAway 3 0 := ⟨by decide, ⟨TX1, 11, rfl⟩, GW_q4 29 (by decide +kernel) rfl, GW_q4 30 (by decide +kernel) rfl, ini_RX1, GW_q4 31 (by decide +kernel) rfl, by decide, by decide, by decide +kernel⟩
theorem lk_X7_287 : LKV RX7 287 mX1_goAway 3 0 := lkv mk_X1_goAway (GW_q4 28 (by decide +kernel) rfl)
theorem mk_X0_leaveQueue : MVok mX0_leaveQueue 2 1 := ⟨by decide, ⟨TX0, 9, rfl⟩, GW_q4 33 (by decide +kernel) rfl, GW_q4 34 (by decide +kernel) rfl, ini_RX0, GW_q4 35 (by decide +kernel) rfl, by decide, by decide, by decide +kernel⟩
theorem lk_X7_290 : LKV RX7 290 mX0_leaveQueue 2 1 := lkv mk_X0_leaveQueue (GW_q4 32 (by decide +kernel) rfl)
theorem mk_X0_liftsOpenedFor : MVok mX0_liftsOpenedFor 2 1 := ⟨by decide, ⟨TX0, 9, rfl⟩, GW_q4 87 (by decide +kernel) rfl, GW_q4 88 (by decide +kernel) rfl, ini_RX0, GW_q4 89 (by decide +kernel) rfl, by decide, by decide, by decide +kernel⟩
theorem lk_X7_299 : LKV RX7 299 mX0_liftsOpenedFor 2 1 := lkv mk_X0_liftsOpenedFor (GW_q4 86 (by decide +kernel) rfl)
theorem mk_X0_guestInQueue : MVok mX0_guestInQueue 2 2 := ⟨by decide, ⟨TX0, 9, rfl⟩, GW_q4 98 (by decide +kernel) rfl, GW_q4 99 (by decide +kernel) rfl, ini_RX0, GW_q4 100 (by decide +kernel) rfl, by decide, by decide, by decide +kernel⟩
theorem lk_X7_303 : LKV RX7 303 mX0_guestInQueue 2 2 := lkv mk_X0_guestInQueue (GW_q4 97 (by decide +kernel) rfl)
theorem mk_X0_passTicks : MVok mX0_passTicks 2 1 := ⟨by decide, ⟨TX0, 9, rfl⟩, GW_q4 112 (by decide +kernel) rfl, GW_q4 113 (by decide +kernel) rfl, ini_RX0, GW_q4 114 (by decide +kernel) rfl, by decide, by decide, by decide +kernel⟩
theorem lk_X7_312 : LKV RX7 312 mX0_passTicks 2 1 := lkv mk_X0_passTicks (GW_q4 111 (by decide +kernel) rfl)
theorem mk_X0_closeDay : MVok mX0_closeDay 2 0 := ⟨by decide, ⟨TX0, 9, rfl⟩, GW_q4 161 (by decide +kernel) rfl, GW_q4 162 (by decide +kernel) rfl, ini_RX0, GW_q4 163 (by decide +kernel) rfl, by decide, by decide, by decide +kernel⟩
theorem lk_X7_317 : LKV RX7 317 mX0_closeDay 2 0 := lkv mk_X0_closeDay (GW_q4 160 (by decide +kernel) rfl)
theorem mk_X0_ticksToStation : MVok mX0_ticksToStation 2 1 := ⟨by decide, ⟨TX0, 9, rfl⟩, GW_q4 174 (by decide +kernel) rfl, GW_q4 175 (by decide +kernel) rfl, ini_RX0, GW_q4 176 (by decide +kernel) rfl, by decide, by decide, by decide +kernel⟩
theorem lk_X7_320 : LKV RX7 320 mX0_ticksToStation 2 1 := lkv mk_X0_ticksToStation (GW_q4 173 (by decide +kernel) rfl)
theorem mk_X4_stepsToCabin : MVok mX4_stepsToCabin 6 1 := ⟨by decide, ⟨TX4, 10, rfl⟩, GW_q4 129 (by decide +kernel) rfl, GW_q4 130 (by decide +kernel) rfl, ini_RX4, GW_q4 131 (by decide +kernel) rfl, by decide, by decide, by decide +kernel⟩
theorem lk_X7_327 : LKV RX7 327 mX4_stepsToCabin 6 1 := lkv mk_X4_stepsToCabin (GW_q4 197 (by decide +kernel) rfl)
theorem mk_X7_ticksFor : MSok mX7_ticksFor 2 := ⟨GW_q4 182 (by decide +kernel) rfl, ini_RX7, GW_q4 183 (by decide +kernel) rfl, by decide, by decide, by decide +kernel⟩
theorem lk_X7_330 : LKS RX7 330 mX7_ticksFor 2 := ⟨GW_q4 198 (by decide +kernel) rfl, mk_X7_ticksFor⟩
theorem mk_X6_measure : MVok mX6_measure 8 3 := ⟨by decide, ⟨TX6, 1, rfl⟩, GW_q4 208 (by decide +kernel) rfl, GW_q4 209 (by decide +kernel) rfl, ini_RX6, GW_q4 210 (by decide +kernel) rfl, by decide, by decide, by decide +kernel⟩
theorem lk_X7_335 : LKV RX7 335 mX6_measure 8 3 := lkv mk_X6_measure (GW_q4 207 (by decide +kernel) rfl)
theorem mk_X6_durationFrom : MVok mX6_durationFrom 8 1 := ⟨by decide, ⟨TX6, 1, rfl⟩, GW_q4 221 (by decide +kernel) rfl, GW_q4 222 (by decide +kernel) rfl, ini_RX6, GW_q4 223 (by decide +kernel) rfl, by decide, by decide, by decide +kernel⟩
theorem lk_X7_339 : LKV RX7 339 mX6_durationFrom 8 1 := lkv mk_X6_durationFrom (GW_q4 234 (by decide +kernel) rfl)
theorem mk_X6_bestPartFrom : MVok mX6_bestPartFrom 8 3 := ⟨by decide, ⟨TX6, 1, rfl⟩, GW_q5 5 (by decide +kernel) rfl, GW_q5 6 (by decide +kernel) rfl, ini_RX6, GW_q5 7 (by decide +kernel) rfl, by decide, by decide, by decide +kernel⟩
theorem lk_X7_345 : LKV RX7 345 mX6_bestPartFrom 8 3 := lkv mk_X6_bestPartFrom (GW_q5 4 (by decide +kernel) rfl)
theorem mk_X6_stationsFrom : MVok mX6_stationsFrom 8 3 := ⟨by decide, ⟨TX6, 1, rfl⟩, GW_q5 16 (by decide +kernel) rfl, GW_q5 17 (by decide +kernel) rfl, ini_RX6, GW_q5 18 (by decide +kernel) rfl, by decide, by decide, by decide +kernel⟩
theorem lk_X7_349 : LKV RX7 349 mX6_stationsFrom 8 3 := lkv mk_X6_stationsFrom (GW_q5 15 (by decide +kernel) rfl)
theorem mk_X6_stationsWithoutWay : MVok mX6_stationsWithoutWay 8 0 := ⟨by decide, ⟨TX6, 1, rfl⟩, GW_q5 31 (by decide +kernel) rfl, GW_q5 32 (by decide +kernel) rfl, ini_RX6, GW_q5 33 (by decide +kernel) rfl, by decide, by decide, by decide +kernel⟩
theorem lk_X7_352 : LKV RX7 352 mX6_stationsWithoutWay 8 0 := lkv mk_X6_stationsWithoutWay (GW_q5 30 (by decide +kernel) rfl)
theorem mk_X0_accountsGap : MVok mX0_accountsGap 2 0 := ⟨by decide, ⟨TX0, 9, rfl⟩, GW_q2 118 (by decide +kernel) rfl, GW_q2 119 (by decide +kernel) rfl, ini_RX0, GW_q2 120 (by decide +kernel) rfl, by decide, by decide, by decide +kernel⟩
theorem lk_X7_377 : LKV RX7 377 mX0_accountsGap 2 0 := lkv mk_X0_accountsGap (GW_q2 117 (by decide +kernel) rfl)
theorem mk_X0_liftWithMostRiders : MVok mX0_liftWithMostRiders 2 0 := ⟨by decide, ⟨TX0, 9, rfl⟩, GW_q5 65 (by decide +kernel) rfl, GW_q5 66 (by decide +kernel) rfl, ini_RX0, GW_q5 67 (by decide +kernel) rfl, by decide, by decide, by decide +kernel⟩
theorem lk_X7_380 : LKV RX7 380 mX0_liftWithMostRiders 2 0 := lkv mk_X0_liftWithMostRiders (GW_q5 64 (by decide +kernel) rfl)
theorem mk_X3_put : MVok mX3_put 5 1 := ⟨by decide, ⟨TX3, 7, rfl⟩, GW_q5 103 (by decide +kernel) rfl, GW_q5 104 (by decide +kernel) rfl, ini_RX3, GW_q5 105 (by decide +kernel) rfl, by decide, by decide, by decide +kernel⟩
theorem lk_X7_395 : LKV RX7 395 mX3_put 5 1 := lkv mk_X3_put (GW_q5 102 (by decide +kernel) rfl)
theorem mk_X3_isText : MVok mX3_isText 5 0 := ⟨by decide, ⟨TX3, 7, rfl⟩, GW_q5 114 (by decide +kernel) rfl, GW_q5 115 (by decide +kernel) rfl, ini_RX3, GW_q5 116 (by decide +kernel) rfl, by decide, by decide, by decide +kernel⟩
theorem lk_X7_399 : LKV RX7 399 mX3_isText 5 0 := lkv mk_X3_isText (GW_q5 113 (by decide +kernel) rfl)
theorem mk_X3_becomeEmpty : MVok mX3_becomeEmpty 5 0 := ⟨by decide, ⟨TX3, 7, rfl⟩, GW_q5 146 (by decide +kernel) rfl, GW_q5 147 (by decide +kernel) rfl, ini_RX3, GW_q5 148 (by decide +kernel) rfl, by decide, by decide, by decide +kernel⟩
theorem lk_X7_406 : LKV RX7 406 mX3_becomeEmpty 5 0 := lkv mk_X3_becomeEmpty (GW_q5 145 (by decide +kernel) rfl)
theorem mk_X0_copyFrom : MVok mX0_copyFrom 2 1 := ⟨by decide, ⟨TX0, 9, rfl⟩, GW_q2 129 (by decide +kernel) rfl, GW_q2 130 (by decide +kernel) rfl, ini_RX0, GW_q2 131 (by decide +kernel) rfl, by decide, by decide, by decide +kernel⟩
theorem lk_X7_412 : LKV RX7 412 mX0_copyFrom 2 1 := lkv mk_X0_copyFrom (GW_q2 128 (by decide +kernel) rfl)
theorem mk_X7_doEntries : MVok mX7_doEntries 9 1 := ⟨by decide, ⟨TX7, 9, rfl⟩, GW_q5 152 (by decide +kernel) rfl, GW_sel 19 (by decide +kernel) rfl, ini_RX7, GW_q5 153 (by decide +kernel) rfl, by decide, by decide, by decide +kernel⟩
theorem lk_X7_415 : LKV RX7 415 mX7_doEntries 9 1 := lkv mk_X7_doEntries (GW_q5 150 (by decide +kernel) rfl)
theorem mk_X2_takeBack : MVok mX2_takeBack 4 1 := ⟨by decide, ⟨TX2, 3, rfl⟩, GW_q5 189 (by decide +kernel) rfl, GW_q5 190 (by decide +kernel) rfl, ini_RX2, GW_q5 191 (by decide +kernel) rfl, by decide, by decide, by decide +kernel⟩
theorem lk_X7_427 : LKV RX7 427 mX2_takeBack 4 1 := lkv mk_X2_takeBack (GW_q5 188 (by decide +kernel) rfl)
theorem mk_X3_takeEntry : MVok mX3_takeEntry 5 0 := ⟨by decide, ⟨TX3, 7, rfl⟩, GW_q5 118 (by decide +kernel) rfl, GW_q5 119 (by decide +kernel) rfl, ini_RX3, GW_q5 120 (by decide +kernel) rfl, by decide, by decide, by decide +kernel⟩
theorem lk_X7_432 : LKV RX7 432 mX3_takeEntry 5 0 := lkv mk_X3_takeEntry (GW_q5 154 (by decide +kernel) rfl)
theorem mk_X7_doEntry : MVok mX7_doEntry 9 3 := ⟨by decide, ⟨TX7, 9, rfl⟩, GW_q5 157 (by decide +kernel) rfl, GW_sel 20 (by decide +kernel) rfl, ini_RX7, GW_q5 158 (by decide +kernel) rfl, by decide, by decide, by decide +kernel⟩
theorem lk_X7_444 : LKV RX7 444 mX7_doEntry 9 3 := lkv mk_X7_doEntry (GW_q5 155 (by decide +kernel) rfl)
theorem mk_X7_addGuestByText : MVok mX7_addGuestByText 9 2 := ⟨by decide, ⟨TX7, 9, rfl⟩, GW_q5 161 (by decide +kernel) rfl, GW_sel 21 (by decide +kernel) rfl, ini_RX7, GW_q5 162 (by decide +kernel) rfl, by decide, by decide, by decide +kernel⟩
theorem lk_X7_448 : LKV RX7 448 mX7_addGuestByText 9 2 := lkv mk_X7_addGuestByText (GW_q5 159 (by decide +kernel) rfl)
theorem mk_X7_queueByText : MVok mX7_queueByText 9 2 := ⟨by decide, ⟨TX7, 9, rfl⟩, GW_q5 165 (by decide +kernel) rfl, GW_sel 22 (by decide +kernel) rfl, ini_RX7, GW_q5 166 (by decide +kernel) rfl, by decide, by decide, by decide +kernel⟩
theorem lk_X7_451 : LKV RX7 451 mX7_queueByText 9 2 := lkv mk_X7_queueByText (GW_q5 163 (by decide +kernel) rfl)
theorem mk_X7_skiByText : MVok mX7_skiByText 9 2 := ⟨by decide, ⟨TX7, 9, rfl⟩, GW_q5 169 (by decide +kernel) rfl, GW_sel 23 (by decide +kernel) rfl, ini_RX7, GW_q5 170 (by decide +kernel) rfl, by decide, by decide, by decide +kernel⟩
theorem lk_X7_454 : LKV RX7 454 mX7_skiByText 9 2 := lkv mk_X7_skiByText (GW_q5 167 (by decide +kernel) rfl)
theorem mk_X4_copyFrom : MVok mX4_copyFrom 6 1 := ⟨by decide, ⟨TX4, 10, rfl⟩, GW_q2 133 (by decide +kernel) rfl, GW_q2 134 (by decide +kernel) rfl, ini_RX4, GW_q2 135 (by decide +kernel) rfl, by decide, by decide, by decide +kernel⟩
theorem lk_X0_51 : LKV RX0 51 mX4_copyFrom 6 1 := lkv mk_X4_copyFrom (GW_q2 132 (by decide +kernel) rfl)
theorem mk_X5_copyFrom : MVok mX5_copyFrom 7 1 := ⟨by decide, ⟨TX5, 8, rfl⟩, GW_q2 137 (by decide +kernel) rfl, GW_q2 138 (by decide +kernel) rfl, ini_RX5, GW_q2 139 (by decide +kernel) rfl, by decide, by decide, by decide +kernel⟩
theorem lk_X0_55 : LKV RX0 55 mX5_copyFrom 7 1 := lkv mk_X5_copyFrom (GW_q2 136 (by decide +kernel) rfl)
theorem mk_X1_copyFrom : MVok mX1_copyFrom 3 1 := ⟨by decide, ⟨TX1, 11, rfl⟩, GW_q2 141 (by decide +kernel) rfl, GW_q2 142 (by decide +kernel) rfl, ini_RX1, GW_q2 143 (by decide +kernel) rfl, by decide, by decide, by decide +kernel⟩
theorem lk_X0_58 : LKV RX0 58 mX1_copyFrom 3 1 := lkv mk_X1_copyFrom (GW_q2 140 (by decide +kernel) rfl)
theorem lk_X0_64 : LKV RX0 64 mX0_speedOf 2 1 := lkv mk_X0_speedOf (GW_q3 92 (by decide +kernel) rfl)
theorem mk_X0_isOpenedFor : MVok mX0_isOpenedFor 2 2 := ⟨by decide, ⟨TX0, 9, rfl⟩, GW_q3 207 (by decide +kernel) rfl, GW_q3 208 (by decide +kernel) rfl, ini_RX0, GW_q3 209 (by decide +kernel) rfl, by decide, by decide, by decide +kernel⟩
theorem lk_X0_80 : LKV RX0 80 mX0_isOpenedFor 2 2 := lkv mk_X0_isOpenedFor (GW_q3 206 (by decide +kernel) rfl)
theorem mk_X0_isHeld : MVok mX0_isHeld 2 1 := ⟨by decide, ⟨TX0, 9, rfl⟩, GW_q3 89 (by decide +kernel) rfl, GW_q3 90 (by decide +kernel) rfl, ini_RX0, GW_q3 91 (by decide +kernel) rfl, by decide, by decide, by decide +kernel⟩
theorem lk_X0_84 : LKV RX0 84 mX0_isHeld 2 1 := lkv mk_X0_isHeld (GW_q3 88 (by decide +kernel) rfl)
theorem mk_X5_isTooDifficultFor : MVok mX5_isTooDifficultFor 7 1 := ⟨by decide, ⟨TX5, 8, rfl⟩, GW_q4 9 (by decide +kernel) rfl, GW_q4 10 (by decide +kernel) rfl, ini_RX5, GW_q4 11 (by decide +kernel) rfl, by decide, by decide, by decide +kernel⟩
theorem lk_X0_91 : LKV RX0 91 mX5_isTooDifficultFor 7 1 := lkv mk_X5_isTooDifficultFor (GW_q4 8 (by decide +kernel) rfl)
theorem mk_X1_is : MVok mX1_is 3 2 := ⟨by decide, ⟨TX1, 11, rfl⟩, GW_q3 114 (by decide +kernel) rfl, GW_q3 115 (by decide +kernel) rfl, ini_RX1, GW_q3 116 (by decide +kernel) rfl, by decide, by decide, by decide +kernel⟩
theorem lk_X0_96 : LKV RX0 96 mX1_is 3 2 := lkv mk_X1_is (GW_q3 113 (by decide +kernel) rfl)
theorem mk_X1_begin : MVok mX1_begin 3 5 := ⟨by decide, ⟨TX1, 11, rfl⟩, GW_q3 177 (by decide +kernel) rfl, GW_q3 178 (by decide +kernel) rfl, ini_RX1, GW_q3 179 (by decide +kernel) rfl, by decide, by decide, by decide +kernel⟩
theorem lk_X0_103 : LKV RX0 103 mX1_begin 3 5 := lkv mk_X1_begin (GW_q3 176 (by decide +kernel) rfl)
theorem lk_X0_113 : LKV RX0 113 mX0_guestsWith 2 2 := lkv mk_X0_guestsWith (GW_q3 210 (by decide +kernel) rfl)
theorem mk_X1_become : MVok mX1_become 3 4 := ⟨by decide, ⟨TX1, 11, rfl⟩, GW_q2 145 (by decide +kernel) rfl, GW_q2 146 (by decide +kernel) rfl, ini_RX1, GW_q2 147 (by decide +kernel) rfl, by decide, by decide, by decide +kernel⟩
theorem lk_X0_120 : LKV RX0 120 mX1_become 3 4 := lkv mk_X1_become (GW_q3 235 (by decide +kernel) rfl)
theorem lk_X0_124 : LKV RX0 124 mX0_liftAt 2 1 := lkv mk_X0_liftAt (GW_q4 36 (by decide +kernel) rfl)
theorem mk_X1_standAt : MVok mX1_standAt 3 1 := ⟨by decide, ⟨TX1, 11, rfl⟩, GW_q4 38 (by decide +kernel) rfl, GW_q4 39 (by decide +kernel) rfl, ini_RX1, GW_q4 40 (by decide +kernel) rfl, by decide, by decide, by decide +kernel⟩
theorem lk_X0_128 : LKV RX0 128 mX1_standAt 3 1 := lkv mk_X1_standAt (GW_q4 37 (by decide +kernel) rfl)
theorem mk_X5_restFor : MVok mX5_restFor 7 1 := ⟨by decide, ⟨TX5, 8, rfl⟩, GW_q4 17 (by decide +kernel) rfl, GW_q4 18 (by decide +kernel) rfl, ini_RX5, GW_q4 19 (by decide +kernel) rfl, by decide, by decide, by decide +kernel⟩
theorem lk_X0_132 : LKV RX0 132 mX5_restFor 7 1 := lkv mk_X5_restFor (GW_q4 16 (by decide +kernel) rfl)
theorem mk_X0_moveRiders : MVok mX0_moveRiders 2 0 := ⟨by decide, ⟨TX0, 9, rfl⟩, GW_q4 117 (by decide +kernel) rfl, GW_sel 2 (by decide +kernel) rfl, ini_RX0, GW_q4 118 (by decide +kernel) rfl, by decide, by decide, by decide +kernel⟩
theorem lk_X0_151 : LKV RX0 151 mX0_moveRiders 2 0 := lkv mk_X0_moveRiders (GW_q4 115 (by decide +kernel) rfl)
theorem mk_X0_moveSkiers : MVok mX0_moveSkiers 2 0 := ⟨by decide, ⟨TX0, 9, rfl⟩, GW_q4 121 (by decide +kernel) rfl, GW_sel 3 (by decide +kernel) rfl, ini_RX0, GW_q4 122 (by decide +kernel) rfl, by decide, by decide, by decide +kernel⟩
theorem lk_X0_155 : LKV RX0 155 mX0_moveSkiers 2 0 := lkv mk_X0_moveSkiers (GW_q4 119 (by decide +kernel) rfl)
theorem mk_X0_turnLifts : MVok mX0_turnLifts 2 0 := ⟨by decide, ⟨TX0, 9, rfl⟩, GW_q4 126 (by decide +kernel) rfl, GW_sel 4 (by decide +kernel) rfl, ini_RX0, GW_q4 127 (by decide +kernel) rfl, by decide, by decide, by decide +kernel⟩
theorem lk_X0_158 : LKV RX0 158 mX0_turnLifts 2 0 := lkv mk_X0_turnLifts (GW_q4 124 (by decide +kernel) rfl)
theorem mk_X0_groomPistes : MVok mX0_groomPistes 2 0 := ⟨by decide, ⟨TX0, 9, rfl⟩, GW_q4 142 (by decide +kernel) rfl, GW_sel 6 (by decide +kernel) rfl, ini_RX0, GW_q4 143 (by decide +kernel) rfl, by decide, by decide, by decide +kernel⟩
theorem lk_X0_161 : LKV RX0 161 mX0_groomPistes 2 0 := lkv mk_X0_groomPistes (GW_q4 140 (by decide +kernel) rfl)
theorem mk_X0_closeWornPistes : MVok mX0_closeWornPistes 2 0 := ⟨by decide, ⟨TX0, 9, rfl⟩, GW_q4 150 (by decide +kernel) rfl, GW_sel 7 (by decide +kernel) rfl, ini_RX0, GW_q4 151 (by decide +kernel) rfl, by decide, by decide, by decide +kernel⟩
theorem lk_X0_164 : LKV RX0 164 mX0_closeWornPistes 2 0 := lkv mk_X0_closeWornPistes (GW_q4 148 (by decide +kernel) rfl)
theorem lk_X0_170 : LKV RX0 170 mX0_pisteAt 2 1 := lkv mk_X0_pisteAt (GW_q4 123 (by decide +kernel) rfl)
theorem lk_X0_180 : LKV RX0 180 mX4_stepsToCabin 6 1 := lkv mk_X4_stepsToCabin (GW_q4 128 (by decide +kernel) rfl)
theorem mk_X0_boardCabin : MVok mX0_boardCabin 2 2 := ⟨by decide, ⟨TX0, 9, rfl⟩, GW_q4 134 (by decide +kernel) rfl, GW_sel 5 (by decide +kernel) rfl, ini_RX0, GW_q4 135 (by decide +kernel) rfl, by decide, by decide, by decide +kernel⟩
theorem lk_X0_190 : LKV RX0 190 mX0_boardCabin 2 2 := lkv mk_X0_boardCabin (GW_q4 132 (by decide +kernel) rfl)
theorem mk_X4_restOfRide : MVok mX4_restOfRide 6 0 := ⟨by decide, ⟨TX4, 10, rfl⟩, GW_q4 137 (by decide +kernel) rfl, GW_q4 138 (by decide +kernel) rfl, ini_RX4, GW_q4 139 (by decide +kernel) rfl, by decide, by decide, by decide +kernel⟩
theorem lk_X0_197 : LKV RX0 197 mX4_restOfRide 6 0 := lkv mk_X4_restOfRide (GW_q4 136 (by decide +kernel) rfl)
theorem mk_X5_becomeFresh : MVok mX5_becomeFresh 7 0 := ⟨by decide, ⟨TX5, 8, rfl⟩, GW_q4 145 (by decide +kernel) rfl, GW_q4 146 (by decide +kernel) rfl, ini_RX5, GW_q4 147 (by decide +kernel) rfl, by decide, by decide, by decide +kernel⟩
theorem lk_X0_207 : LKV RX0 207 mX5_becomeFresh 7 0 := lkv mk_X5_becomeFresh (GW_q4 144 (by decide +kernel) rfl)
theorem lk_X0_210 : LKV RX0 210 mX0_guestsIn 2 1 := lkv mk_X0_guestsIn (GW_q4 164 (by decide +kernel) rfl)
theorem lk_X0_213 : LKV RX0 213 mX1_goAway 3 0 := lkv mk_X1_goAway (GW_q4 165 (by decide +kernel) rfl)
theorem mk_X0_ticksOnLift : MVok mX0_ticksOnLift 2 2 := ⟨by decide, ⟨TX0, 9, rfl⟩, GW_q4 179 (by decide +kernel) rfl, GW_sel 8 (by decide +kernel) rfl, ini_RX0, GW_q4 180 (by decide +kernel) rfl, by decide, by decide, by decide +kernel⟩
theorem lk_X0_216 : LKV RX0 216 mX0_ticksOnLift 2 2 := lkv mk_X0_ticksOnLift (GW_q4 177 (by decide +kernel) rfl)
theorem mk_X0_ticksFromQueue : MVok mX0_ticksFromQueue 2 2 := ⟨by decide, ⟨TX0, 9, rfl⟩, GW_q4 186 (by decide +kernel) rfl, GW_sel 9 (by decide +kernel) rfl, ini_RX0, GW_q4 187 (by decide +kernel) rfl, by decide, by decide, by decide +kernel⟩
theorem lk_X0_220 : LKV RX0 220 mX0_ticksFromQueue 2 2 := lkv mk_X0_ticksFromQueue (GW_q4 184 (by decide +kernel) rfl)
theorem mk_J9_abs_0f7a4 : MSok mJ9_abs_0f7a4 1 := ⟨GW_q2 122 (by decide +kernel) rfl, ini_JMath, GW_q2 123 (by decide +kernel) rfl, by decide, by decide, by decide +kernel⟩
theorem lk_X0_226 : LKS RX0 226 mJ9_abs_0f7a4 1 := ⟨GW_q2 121 (by decide +kernel) rfl, mk_J9_abs_0f7a4⟩
theorem lk_X1_33 : LKV RX1 33 mX1_become 3 4 := lkv mk_X1_become (GW_q2 144 (by decide +kernel) rfl)
theorem mk_J9_floorMod_7cf53 : MSok mJ9_floorMod_7cf53 2 := ⟨GW_q3 53 (by decide +kernel) rfl, ini_JMath, GW_q3 54 (by decide +kernel) rfl, by decide, by decide, by decide +kernel⟩
theorem lk_X2_25 : LKS RX2 25 mJ9_floorMod_7cf53 2 := ⟨GW_q3 52 (by decide +kernel) rfl, mk_J9_floorMod_7cf53⟩
theorem lk_X2_31 : LKV RX2 31 mX0_copyFrom 2 1 := lkv mk_X0_copyFrom (GW_q3 55 (by decide +kernel) rfl)
theorem mk_J9_min_7cf53 : MSok mJ9_min_7cf53 2 := ⟨GW_q3 57 (by decide +kernel) rfl, ini_JMath, GW_q3 58 (by decide +kernel) rfl, by decide, by decide, by decide +kernel⟩
theorem lk_X2_35 : LKS RX2 35 mJ9_min_7cf53 2 := ⟨GW_q3 56 (by decide +kernel) rfl, mk_J9_min_7cf53⟩
theorem lk_X3_25 : LKV RX3 25 mX3_takeEntry 5 0 := lkv mk_X3_takeEntry (GW_q5 117 (by decide +kernel) rfl)
theorem mk_X3_isHere : MVok mX3_isHere 5 2 := ⟨by decide, ⟨TX3, 7, rfl⟩, GW_q5 123 (by decide +kernel) rfl, GW_sel 13 (by decide +kernel) rfl, ini_RX3, GW_q5 124 (by decide +kernel) rfl, by decide, by decide, by decide +kernel⟩
theorem lk_X3_29 : LKV RX3 29 mX3_isHere 5 2 := lkv mk_X3_isHere (GW_q5 121 (by decide +kernel) rfl)
theorem mk_X3_takeNumber : MVok mX3_takeNumber 5 2 := ⟨by decide, ⟨TX3, 7, rfl⟩, GW_q5 127 (by decide +kernel) rfl, GW_sel 14 (by decide +kernel) rfl, ini_RX3, GW_q5 128 (by decide +kernel) rfl, by decide, by decide, by decide +kernel⟩
theorem lk_X3_36 : LKV RX3 36 mX3_takeNumber 5 2 := lkv mk_X3_takeNumber (GW_q5 125 (by decide +kernel) rfl)
theorem mk_X3_takeTarget : MVok mX3_takeTarget 5 2 := ⟨by decide, ⟨TX3, 7, rfl⟩, GW_q5 135 (by decide +kernel) rfl, GW_sel 16 (by decide +kernel) rfl, ini_RX3, GW_q5 136 (by decide +kernel) rfl, by decide, by decide, by decide +kernel⟩
theorem lk_X3_39 : LKV RX3 39 mX3_takeTarget 5 2 := lkv mk_X3_takeTarget (GW_q5 133 (by decide +kernel) rfl)
theorem mk_X3_takeSign : MVok mX3_takeSign 5 1 := ⟨by decide, ⟨TX3, 7, rfl⟩, GW_q5 139 (by decide +kernel) rfl, GW_sel 17 (by decide +kernel) rfl, ini_RX3, GW_q5 140 (by decide +kernel) rfl, by decide, by decide, by decide +kernel⟩
theorem lk_X3_42 : LKV RX3 42 mX3_takeSign 5 1 := lkv mk_X3_takeSign (GW_q5 137 (by decide +kernel) rfl)
theorem mk_X3_takeGuest : MVok mX3_takeGuest 5 0 := ⟨by decide, ⟨TX3, 7, rfl⟩, GW_q5 143 (by decide +kernel) rfl, GW_sel 18 (by decide +kernel) rfl, ini_RX3, GW_q5 144 (by decide +kernel) rfl, by decide, by decide, by decide +kernel⟩
theorem lk_X3_46 : LKV RX3 46 mX3_takeGuest 5 0 := lkv mk_X3_takeGuest (GW_q5 141 (by decide +kernel) rfl)
theorem mk_X3_takeDigit : MVok mX3_takeDigit 5 2 := ⟨by decide, ⟨TX3, 7, rfl⟩, GW_q5 131 (by decide +kernel) rfl, GW_sel 15 (by decide +kernel) rfl, ini_RX3, GW_q5 132 (by decide +kernel) rfl, by decide, by decide, by decide +kernel⟩
theorem lk_X3_49 : LKV RX3 49 mX3_takeDigit 5 2 := lkv mk_X3_takeDigit (GW_q5 129 (by decide +kernel) rfl)
theorem mk_X6_shorten : MVok mX6_shorten 8 2 := ⟨by decide, ⟨TX6, 1, rfl⟩, GW_q4 214 (by decide +kernel) rfl, GW_sel 10 (by decide +kernel) rfl, ini_RX6, GW_q4 215 (by decide +kernel) rfl, by decide, by decide, by decide +kernel⟩
theorem lk_X6_20 : LKV RX6 20 mX6_shorten 8 2 := lkv mk_X6_shorten (GW_q4 212 (by decide +kernel) rfl)
theorem mk_X0_isWayFor : MVok mX0_isWayFor 2 2 := ⟨by decide, ⟨TX0, 9, rfl⟩, GW_q4 217 (by decide +kernel) rfl, GW_q4 218 (by decide +kernel) rfl, ini_RX0, GW_q4 219 (by decide +kernel) rfl, by decide, by decide, by decide +kernel⟩
theorem lk_X6_34 : LKV RX6 34 mX0_isWayFor 2 2 := lkv mk_X0_isWayFor (GW_q4 216 (by decide +kernel) rfl)
theorem lk_X6_49 : LKV RX6 49 mX6_durationFrom 8 1 := lkv mk_X6_durationFrom (GW_q4 220 (by decide +kernel) rfl)
theorem mk_X6_shortenFrom : MVok mX6_shortenFrom 8 2 := ⟨by decide, ⟨TX6, 1, rfl⟩, GW_q4 227 (by decide +kernel) rfl, GW_sel 11 (by decide +kernel) rfl, ini_RX6, GW_q4 228 (by decide +kernel) rfl, by decide, by decide, by decide +kernel⟩
theorem lk_X6_53 : LKV RX6 53 mX6_shortenFrom 8 2 := lkv mk_X6_shortenFrom (GW_q4 225 (by decide +kernel) rfl)
theorem mk_X0_isWayFor_ : MVok mX0_isWayFor_ 2 2 := ⟨by decide, ⟨TX0, 9, rfl⟩, GW_q4 230 (by decide +kernel) rfl, GW_q4 231 (by decide +kernel) rfl, ini_RX0, GW_q4 232 (by decide +kernel) rfl, by decide, by decide, by decide +kernel⟩
theorem lk_X6_64 : LKV RX6 64 mX0_isWayFor_ 2 2 := lkv mk_X0_isWayFor_ (GW_q4 229 (by decide +kernel) rfl)
theorem lk_X6_72 : LKV RX6 72 mX5_restFor 7 1 := lkv mk_X5_restFor (GW_q4 233 (by decide +kernel) rfl)
theorem mk_X6_spread : MVok mX6_spread 8 3 := ⟨by decide, ⟨TX6, 1, rfl⟩, GW_q5 21 (by decide +kernel) rfl, GW_sel 12 (by decide +kernel) rfl, ini_RX6, GW_q5 22 (by decide +kernel) rfl, by decide, by decide, by decide +kernel⟩
theorem lk_X6_79 : LKV RX6 79 mX6_spread 8 3 := lkv mk_X6_spread (GW_q5 19 (by decide +kernel) rfl)
theorem mk_X7_addLift : MVok mX7_addLift 9 6 := ⟨by decide, ⟨TX7, 9, rfl⟩, GW_q2 234 (by decide +kernel) rfl, GW_q2 235 (by decide +kernel) rfl, ini_RX7, GW_q2 236 (by decide +kernel) rfl, by decide, by decide, by decide +kernel⟩
theorem lk_L_7 : LKV RL 7 mX7_addLift 9 6 := lkv mk_X7_addLift (GW_q2 233 (by decide +kernel) rfl)
theorem mk_X7_addPiste : MVok mX7_addPiste 9 4 := ⟨by decide, ⟨TX7, 9, rfl⟩, GW_q3 67 (by decide +kernel) rfl, GW_q3 68 (by decide +kernel) rfl, ini_RX7, GW_q3 69 (by decide +kernel) rfl, by decide, by decide, by decide +kernel⟩
theorem lk_L_19 : LKV RL 19 mX7_addPiste 9 4 := lkv mk_X7_addPiste (GW_q3 66 (by decide +kernel) rfl)
theorem mk_X7_setWind : MVok mX7_setWind 9 1 := ⟨by decide, ⟨TX7, 9, rfl⟩, GW_q3 80 (by decide +kernel) rfl, GW_q3 81 (by decide +kernel) rfl, ini_RX7, GW_q3 82 (by decide +kernel) rfl, by decide, by decide, by decide +kernel⟩
theorem lk_L_23 : LKV RL 23 mX7_setWind 9 1 := lkv mk_X7_setWind (GW_q3 79 (by decide +kernel) rfl)
theorem mk_X7_lift : MVok mX7_lift 9 2 := ⟨by decide, ⟨TX7, 9, rfl⟩, GW_q3 100 (by decide +kernel) rfl, GW_q3 101 (by decide +kernel) rfl, ini_RX7, GW_q3 102 (by decide +kernel) rfl, by decide, by decide, by decide +kernel⟩
theorem lk_L_27 : LKV RL 27 mX7_lift 9 2 := lkv mk_X7_lift (GW_q3 99 (by decide +kernel) rfl)
theorem mk_X7_piste : MVok mX7_piste 9 2 := ⟨by decide, ⟨TX7, 9, rfl⟩, GW_q3 122 (by decide +kernel) rfl, GW_q3 123 (by decide +kernel) rfl, ini_RX7, GW_q3 124 (by decide +kernel) rfl, by decide, by decide, by decide +kernel⟩
theorem lk_L_31 : LKV RL 31 mX7_piste 9 2 := lkv mk_X7_piste (GW_q3 121 (by decide +kernel) rfl)
theorem mk_X7_open : MVok mX7_open 9 2 := ⟨by decide, ⟨TX7, 9, rfl⟩, GW_q3 135 (by decide +kernel) rfl, GW_q3 136 (by decide +kernel) rfl, ini_RX7, GW_q3 137 (by decide +kernel) rfl, by decide, by decide, by decide +kernel⟩
theorem lk_L_34 : LKV RL 34 mX7_open 9 2 := lkv mk_X7_open (GW_q3 134 (by decide +kernel) rfl)
theorem mk_X7_groom : MVok mX7_groom 9 1 := ⟨by decide, ⟨TX7, 9, rfl⟩, GW_q3 143 (by decide +kernel) rfl, GW_q3 144 (by decide +kernel) rfl, ini_RX7, GW_q3 145 (by decide +kernel) rfl, by decide, by decide, by decide +kernel⟩
theorem lk_L_38 : LKV RL 38 mX7_groom 9 1 := lkv mk_X7_groom (GW_q3 142 (by decide +kernel) rfl)
theorem mk_X7_count : MVok mX7_count 9 1 := ⟨by decide, ⟨TX7, 9, rfl⟩, GW_q3 151 (by decide +kernel) rfl, GW_q3 152 (by decide +kernel) rfl, ini_RX7, GW_q3 153 (by decide +kernel) rfl, by decide, by decide, by decide +kernel⟩
theorem lk_L_41 : LKV RL 41 mX7_count 9 1 := lkv mk_X7_count (GW_q3 150 (by decide +kernel) rfl)
theorem mk_X7_addGuest : MVok mX7_addGuest 9 5 := ⟨by decide, ⟨TX7, 9, rfl⟩, GW_q3 167 (by decide +kernel) rfl, GW_q3 168 (by decide +kernel) rfl, ini_RX7, GW_q3 169 (by decide +kernel) rfl, by decide, by decide, by decide +kernel⟩
theorem lk_L_44 : LKV RL 44 mX7_addGuest 9 5 := lkv mk_X7_addGuest (GW_q3 166 (by decide +kernel) rfl)
theorem mk_X7_guest : MVok mX7_guest 9 2 := ⟨by decide, ⟨TX7, 9, rfl⟩, GW_q3 184 (by decide +kernel) rfl, GW_q3 185 (by decide +kernel) rfl, ini_RX7, GW_q3 186 (by decide +kernel) rfl, by decide, by decide, by decide +kernel⟩
theorem lk_L_48 : LKV RL 48 mX7_guest 9 2 := lkv mk_X7_guest (GW_q3 183 (by decide +kernel) rfl)
theorem mk_X7_queue : MVok mX7_queue 9 2 := ⟨by decide, ⟨TX7, 9, rfl⟩, GW_q3 198 (by decide +kernel) rfl, GW_q3 199 (by decide +kernel) rfl, ini_RX7, GW_q3 200 (by decide +kernel) rfl, by decide, by decide, by decide +kernel⟩
theorem lk_L_51 : LKV RL 51 mX7_queue 9 2 := lkv mk_X7_queue (GW_q3 197 (by decide +kernel) rfl)
theorem mk_X7_ski : MVok mX7_ski 9 2 := ⟨by decide, ⟨TX7, 9, rfl⟩, GW_q4 0 (by decide +kernel) rfl, GW_q4 1 (by decide +kernel) rfl, ini_RX7, GW_q4 2 (by decide +kernel) rfl, by decide, by decide, by decide +kernel⟩
theorem lk_L_56 : LKV RL 56 mX7_ski 9 2 := lkv mk_X7_ski (GW_q3 239 (by decide +kernel) rfl)
theorem mk_X7_leave : MVok mX7_leave 9 1 := ⟨by decide, ⟨TX7, 9, rfl⟩, GW_q4 24 (by decide +kernel) rfl, GW_q4 25 (by decide +kernel) rfl, ini_RX7, GW_q4 26 (by decide +kernel) rfl, by decide, by decide, by decide +kernel⟩
theorem lk_L_59 : LKV RL 59 mX7_leave 9 1 := lkv mk_X7_leave (GW_q4 23 (by decide +kernel) rfl)
theorem mk_X7_whyNotQueue : MVok mX7_whyNotQueue 9 2 := ⟨by decide, ⟨TX7, 9, rfl⟩, GW_q4 45 (by decide +kernel) rfl, GW_q4 46 (by decide +kernel) rfl, ini_RX7, GW_q4 47 (by decide +kernel) rfl, by decide, by decide, by decide +kernel⟩
theorem lk_L_62 : LKV RL 62 mX7_whyNotQueue 9 2 := lkv mk_X7_whyNotQueue (GW_q4 44 (by decide +kernel) rfl)
theorem mk_X7_whyNotSki : MVok mX7_whyNotSki 9 2 := ⟨by decide, ⟨TX7, 9, rfl⟩, GW_q4 52 (by decide +kernel) rfl, GW_q4 53 (by decide +kernel) rfl, ini_RX7, GW_q4 54 (by decide +kernel) rfl, by decide, by decide, by decide +kernel⟩
theorem lk_L_65 : LKV RL 65 mX7_whyNotSki 9 2 := lkv mk_X7_whyNotSki (GW_q4 51 (by decide +kernel) rfl)
theorem mk_X7_reason : MVok mX7_reason 9 0 := ⟨by decide, ⟨TX7, 9, rfl⟩, GW_q4 60 (by decide +kernel) rfl, GW_q4 61 (by decide +kernel) rfl, ini_RX7, GW_q4 62 (by decide +kernel) rfl, by decide, by decide, by decide +kernel⟩
theorem lk_L_68 : LKV RL 68 mX7_reason 9 0 := lkv mk_X7_reason (GW_q4 59 (by decide +kernel) rfl)
theorem mk_X7_opened : MVok mX7_opened 9 1 := ⟨by decide, ⟨TX7, 9, rfl⟩, GW_q4 83 (by decide +kernel) rfl, GW_q4 84 (by decide +kernel) rfl, ini_RX7, GW_q4 85 (by decide +kernel) rfl, by decide, by decide, by decide +kernel⟩
theorem lk_L_74 : LKV RL 74 mX7_opened 9 1 := lkv mk_X7_opened (GW_q4 82 (by decide +kernel) rfl)
theorem mk_X7_queued : MVok mX7_queued 9 2 := ⟨by decide, ⟨TX7, 9, rfl⟩, GW_q4 94 (by decide +kernel) rfl, GW_q4 95 (by decide +kernel) rfl, ini_RX7, GW_q4 96 (by decide +kernel) rfl, by decide, by decide, by decide +kernel⟩
theorem lk_L_77 : LKV RL 77 mX7_queued 9 2 := lkv mk_X7_queued (GW_q4 93 (by decide +kernel) rfl)
theorem mk_X7_advance : MVok mX7_advance 9 1 := ⟨by decide, ⟨TX7, 9, rfl⟩, GW_q4 106 (by decide +kernel) rfl, GW_q4 107 (by decide +kernel) rfl, ini_RX7, GW_q4 108 (by decide +kernel) rfl, by decide, by decide, by decide +kernel⟩
theorem lk_L_80 : LKV RL 80 mX7_advance 9 1 := lkv mk_X7_advance (GW_q4 105 (by decide +kernel) rfl)
theorem mk_X7_endDay : MVok mX7_endDay 9 0 := ⟨by decide, ⟨TX7, 9, rfl⟩, GW_q4 156 (by decide +kernel) rfl, GW_q4 157 (by decide +kernel) rfl, ini_RX7, GW_q4 158 (by decide +kernel) rfl, by decide, by decide, by decide +kernel⟩
theorem lk_L_83 : LKV RL 83 mX7_endDay 9 0 := lkv mk_X7_endDay (GW_q4 155 (by decide +kernel) rfl)
theorem mk_X7_arrival : MVok mX7_arrival 9 1 := ⟨by decide, ⟨TX7, 9, rfl⟩, GW_q4 170 (by decide +kernel) rfl, GW_q4 171 (by decide +kernel) rfl, ini_RX7, GW_q4 172 (by decide +kernel) rfl, by decide, by decide, by decide +kernel⟩
theorem lk_L_86 : LKV RL 86 mX7_arrival 9 1 := lkv mk_X7_arrival (GW_q4 169 (by decide +kernel) rfl)
theorem mk_X7_nextCabin : MVok mX7_nextCabin 9 1 := ⟨by decide, ⟨TX7, 9, rfl⟩, GW_q4 193 (by decide +kernel) rfl, GW_q4 194 (by decide +kernel) rfl, ini_RX7, GW_q4 195 (by decide +kernel) rfl, by decide, by decide, by decide +kernel⟩
theorem lk_L_89 : LKV RL 89 mX7_nextCabin 9 1 := lkv mk_X7_nextCabin (GW_q4 192 (by decide +kernel) rfl)
theorem mk_X7_duration : MVok mX7_duration 9 3 := ⟨by decide, ⟨TX7, 9, rfl⟩, GW_q4 203 (by decide +kernel) rfl, GW_q4 204 (by decide +kernel) rfl, ini_RX7, GW_q4 205 (by decide +kernel) rfl, by decide, by decide, by decide +kernel⟩
theorem lk_L_92 : LKV RL 92 mX7_duration 9 3 := lkv mk_X7_duration (GW_q4 202 (by decide +kernel) rfl)
theorem mk_X7_firstPart : MVok mX7_firstPart 9 3 := ⟨by decide, ⟨TX7, 9, rfl⟩, GW_q5 1 (by decide +kernel) rfl, GW_q5 2 (by decide +kernel) rfl, ini_RX7, GW_q5 3 (by decide +kernel) rfl, by decide, by decide, by decide +kernel⟩
theorem lk_L_96 : LKV RL 96 mX7_firstPart 9 3 := lkv mk_X7_firstPart (GW_q5 0 (by decide +kernel) rfl)
theorem mk_X7_reachable : MVok mX7_reachable 9 2 := ⟨by decide, ⟨TX7, 9, rfl⟩, GW_q5 12 (by decide +kernel) rfl, GW_q5 13 (by decide +kernel) rfl, ini_RX7, GW_q5 14 (by decide +kernel) rfl, by decide, by decide, by decide +kernel⟩
theorem lk_L_99 : LKV RL 99 mX7_reachable 9 2 := lkv mk_X7_reachable (GW_q5 11 (by decide +kernel) rfl)
theorem mk_X7_stranded : MVok mX7_stranded 9 2 := ⟨by decide, ⟨TX7, 9, rfl⟩, GW_q5 27 (by decide +kernel) rfl, GW_q5 28 (by decide +kernel) rfl, ini_RX7, GW_q5 29 (by decide +kernel) rfl, by decide, by decide, by decide +kernel⟩
theorem lk_L_102 : LKV RL 102 mX7_stranded 9 2 := lkv mk_X7_stranded (GW_q5 26 (by decide +kernel) rfl)
theorem mk_X7_liftAccount : MVok mX7_liftAccount 9 2 := ⟨by decide, ⟨TX7, 9, rfl⟩, GW_q5 38 (by decide +kernel) rfl, GW_q5 39 (by decide +kernel) rfl, ini_RX7, GW_q5 40 (by decide +kernel) rfl, by decide, by decide, by decide +kernel⟩
theorem lk_L_105 : LKV RL 105 mX7_liftAccount 9 2 := lkv mk_X7_liftAccount (GW_q5 37 (by decide +kernel) rfl)
theorem mk_X7_guestAccount : MVok mX7_guestAccount 9 2 := ⟨by decide, ⟨TX7, 9, rfl⟩, GW_q5 46 (by decide +kernel) rfl, GW_q5 47 (by decide +kernel) rfl, ini_RX7, GW_q5 48 (by decide +kernel) rfl, by decide, by decide, by decide +kernel⟩
theorem lk_L_108 : LKV RL 108 mX7_guestAccount 9 2 := lkv mk_X7_guestAccount (GW_q5 45 (by decide +kernel) rfl)
theorem mk_X7_pisteAccount : MVok mX7_pisteAccount 9 1 := ⟨by decide, ⟨TX7, 9, rfl⟩, GW_q5 54 (by decide +kernel) rfl, GW_q5 55 (by decide +kernel) rfl, ini_RX7, GW_q5 56 (by decide +kernel) rfl, by decide, by decide, by decide +kernel⟩
theorem lk_L_111 : LKV RL 111 mX7_pisteAccount 9 1 := lkv mk_X7_pisteAccount (GW_q5 53 (by decide +kernel) rfl)
theorem mk_X7_busiest : MVok mX7_busiest 9 0 := ⟨by decide, ⟨TX7, 9, rfl⟩, GW_q5 61 (by decide +kernel) rfl, GW_q5 62 (by decide +kernel) rfl, ini_RX7, GW_q5 63 (by decide +kernel) rfl, by decide, by decide, by decide +kernel⟩
theorem lk_L_114 : LKV RL 114 mX7_busiest 9 0 := lkv mk_X7_busiest (GW_q5 60 (by decide +kernel) rfl)
theorem mk_X7_load : MVok mX7_load 9 1 := ⟨by decide, ⟨TX7, 9, rfl⟩, GW_q5 87 (by decide +kernel) rfl, GW_q5 88 (by decide +kernel) rfl, ini_RX7, GW_q5 89 (by decide +kernel) rfl, by decide, by decide, by decide +kernel⟩
theorem lk_L_117 : LKV RL 117 mX7_load 9 1 := lkv mk_X7_load (GW_q5 86 (by decide +kernel) rfl)
theorem mk_X7_append : MVok mX7_append 9 1 := ⟨by decide, ⟨TX7, 9, rfl⟩, GW_q5 97 (by decide +kernel) rfl, GW_q5 98 (by decide +kernel) rfl, ini_RX7, GW_q5 99 (by decide +kernel) rfl, by decide, by decide, by decide +kernel⟩
theorem lk_L_123 : LKV RL 123 mX7_append 9 1 := lkv mk_X7_append (GW_q5 96 (by decide +kernel) rfl)
theorem mk_X7_read : MVok mX7_read 9 0 := ⟨by decide, ⟨TX7, 9, rfl⟩, GW_q5 110 (by decide +kernel) rfl, GW_q5 111 (by decide +kernel) rfl, ini_RX7, GW_q5 112 (by decide +kernel) rfl, by decide, by decide, by decide +kernel⟩
theorem lk_L_127 : LKV RL 127 mX7_read 9 0 := lkv mk_X7_read (GW_q5 109 (by decide +kernel) rfl)
theorem mk_X7_errorPosition : MVok mX7_errorPosition 9 0 := ⟨by decide, ⟨TX7, 9, rfl⟩, GW_q5 176 (by decide +kernel) rfl, GW_q5 177 (by decide +kernel) rfl, ini_RX7, GW_q5 178 (by decide +kernel) rfl, by decide, by decide, by decide +kernel⟩
theorem lk_L_130 : LKV RL 130 mX7_errorPosition 9 0 := lkv mk_X7_errorPosition (GW_q5 175 (by decide +kernel) rfl)
theorem mk_X7_undo : MVok mX7_undo 9 0 := ⟨by decide, ⟨TX7, 9, rfl⟩, GW_q5 184 (by decide +kernel) rfl, GW_q5 185 (by decide +kernel) rfl, ini_RX7, GW_q5 186 (by decide +kernel) rfl, by decide, by decide, by decide +kernel⟩
theorem lk_L_133 : LKV RL 133 mX7_undo 9 0 := lkv mk_X7_undo (GW_q5 183 (by decide +kernel) rfl)
theorem mk_X7_restore : MVok mX7_restore 9 0 := ⟨by decide, ⟨TX7, 9, rfl⟩, GW_q5 196 (by decide +kernel) rfl, GW_q5 197 (by decide +kernel) rfl, ini_RX7, GW_q5 198 (by decide +kernel) rfl, by decide, by decide, by decide +kernel⟩
theorem lk_L_136 : LKV RL 136 mX7_restore 9 0 := lkv mk_X7_restore (GW_q5 195 (by decide +kernel) rfl)
theorem mk_X7_clear : MVok mX7_clear 9 0 := ⟨by decide, ⟨TX7, 9, rfl⟩, GW_q2 102 (by decide +kernel) rfl, GW_q2 103 (by decide +kernel) rfl, ini_RX7, GW_q2 104 (by decide +kernel) rfl, by decide, by decide, by decide +kernel⟩
theorem lk_L_143 : LKV RL 143 mX7_clear 9 0 := lkv mk_X7_clear (GW_q2 101 (by decide +kernel) rfl)
theorem mk_X8_clear : MVok mX8_clear 10 0 := ⟨by decide, ⟨TX8, 20, rfl⟩, GW_q6 32 (by decide +kernel) rfl, GW_q6 33 (by decide +kernel) rfl, ini_RX8, GW_q6 34 (by decide +kernel) rfl, by decide, by decide, by decide +kernel⟩
theorem lk_L_146 : LKV RL 146 mX8_clear 10 0 := lkv mk_X8_clear (GW_q6 31 (by decide +kernel) rfl)
theorem mk_L_addLift : MHok mL_addLift 8 := ⟨GW_q2 149 (by decide +kernel) rfl, ini_RL, GW_q2 150 (by decide +kernel) rfl, by decide, by decide, by decide +kernel⟩
theorem lk_L_147 : LKH RL 147 mL_addLift 8 := ⟨GW_q2 148 (by decide +kernel) rfl, mk_L_addLift⟩
theorem mk_X8_addLift : MVok mX8_addLift 10 6 := ⟨by decide, ⟨TX8, 20, rfl⟩, GW_q6 36 (by decide +kernel) rfl, GW_q6 37 (by decide +kernel) rfl, ini_RX8, GW_q6 38 (by decide +kernel) rfl, by decide, by decide, by decide +kernel⟩
theorem lk_L_152 : LKV RL 152 mX8_addLift 10 6 := lkv mk_X8_addLift (GW_q6 35 (by decide +kernel) rfl)
theorem mk_X8_thrown : MVok mX8_thrown 10 0 := ⟨by decide, ⟨TX8, 20, rfl⟩, GW_q6 28 (by decide +kernel) rfl, GW_q6 29 (by decide +kernel) rfl, ini_RX8, GW_q6 30 (by decide +kernel) rfl, by decide, by decide, by decide +kernel⟩
theorem lk_L_153 : LKV RL 153 mX8_thrown 10 0 := lkv mk_X8_thrown (GW_q6 27 (by decide +kernel) rfl)
theorem mk_L_addPiste : MHok mL_addPiste 6 := ⟨GW_q3 64 (by decide +kernel) rfl, ini_RL, GW_q3 65 (by decide +kernel) rfl, by decide, by decide, by decide +kernel⟩
theorem lk_L_156 : LKH RL 156 mL_addPiste 6 := ⟨GW_q3 63 (by decide +kernel) rfl, mk_L_addPiste⟩
theorem mk_X8_addPiste : MVok mX8_addPiste 10 4 := ⟨by decide, ⟨TX8, 20, rfl⟩, GW_q6 57 (by decide +kernel) rfl, GW_q6 58 (by decide +kernel) rfl, ini_RX8, GW_q6 59 (by decide +kernel) rfl, by decide, by decide, by decide +kernel⟩
theorem lk_L_159 : LKV RL 159 mX8_addPiste 10 4 := lkv mk_X8_addPiste (GW_q6 56 (by decide +kernel) rfl)
theorem mk_L_setWind : MHok mL_setWind 3 := ⟨GW_q3 77 (by decide +kernel) rfl, ini_RL, GW_q3 78 (by decide +kernel) rfl, by decide, by decide, by decide +kernel⟩
theorem lk_L_160 : LKH RL 160 mL_setWind 3 := ⟨GW_q3 76 (by decide +kernel) rfl, mk_L_setWind⟩
theorem mk_X8_setWind : MVok mX8_setWind 10 1 := ⟨by decide, ⟨TX8, 20, rfl⟩, GW_q6 64 (by decide +kernel) rfl, GW_q6 65 (by decide +kernel) rfl, ini_RX8, GW_q6 66 (by decide +kernel) rfl, by decide, by decide, by decide +kernel⟩
theorem lk_L_163 : LKV RL 163 mX8_setWind 10 1 := lkv mk_X8_setWind (GW_q6 63 (by decide +kernel) rfl)
theorem mk_L_lift : MHok mL_lift 4 := ⟨GW_q3 97 (by decide +kernel) rfl, ini_RL, GW_q3 98 (by decide +kernel) rfl, by decide, by decide, by decide +kernel⟩
theorem lk_L_164 : LKH RL 164 mL_lift 4 := ⟨GW_q3 96 (by decide +kernel) rfl, mk_L_lift⟩
theorem mk_X8_lift : MVok mX8_lift 10 2 := ⟨by decide, ⟨TX8, 20, rfl⟩, GW_q6 72 (by decide +kernel) rfl, GW_q6 73 (by decide +kernel) rfl, ini_RX8, GW_q6 74 (by decide +kernel) rfl, by decide, by decide, by decide +kernel⟩
theorem lk_L_167 : LKV RL 167 mX8_lift 10 2 := lkv mk_X8_lift (GW_q6 71 (by decide +kernel) rfl)
theorem mk_L_piste : MHok mL_piste 4 := ⟨GW_q3 119 (by decide +kernel) rfl, ini_RL, GW_q3 120 (by decide +kernel) rfl, by decide, by decide, by decide +kernel⟩
theorem lk_L_168 : LKH RL 168 mL_piste 4 := ⟨GW_q3 118 (by decide +kernel) rfl, mk_L_piste⟩
theorem mk_X8_piste : MVok mX8_piste 10 2 := ⟨by decide, ⟨TX8, 20, rfl⟩, GW_q6 87 (by decide +kernel) rfl, GW_q6 88 (by decide +kernel) rfl, ini_RX8, GW_q6 89 (by decide +kernel) rfl, by decide, by decide, by decide +kernel⟩
theorem lk_L_170 : LKV RL 170 mX8_piste 10 2 := lkv mk_X8_piste (GW_q6 86 (by decide +kernel) rfl)
theorem mk_L_open : MHok mL_open 4 := ⟨GW_q3 132 (by decide +kernel) rfl, ini_RL, GW_q3 133 (by decide +kernel) rfl, by decide, by decide, by decide +kernel⟩
theorem lk_L_171 : LKH RL 171 mL_open 4 := ⟨GW_q3 131 (by decide +kernel) rfl, mk_L_open⟩
theorem mk_X8_open : MVok mX8_open 10 2 := ⟨by decide, ⟨TX8, 20, rfl⟩, GW_q6 95 (by decide +kernel) rfl, GW_q6 96 (by decide +kernel) rfl, ini_RX8, GW_q6 97 (by decide +kernel) rfl, by decide, by decide, by decide +kernel⟩
theorem lk_L_174 : LKV RL 174 mX8_open 10 2 := lkv mk_X8_open (GW_q6 94 (by decide +kernel) rfl)
theorem mk_L_groom : MHok mL_groom 3 := ⟨GW_q3 140 (by decide +kernel) rfl, ini_RL, GW_q3 141 (by decide +kernel) rfl, by decide, by decide, by decide +kernel⟩
theorem lk_L_175 : LKH RL 175 mL_groom 3 := ⟨GW_q3 139 (by decide +kernel) rfl, mk_L_groom⟩
theorem mk_X8_groom : MVok mX8_groom 10 1 := ⟨by decide, ⟨TX8, 20, rfl⟩, GW_q6 99 (by decide +kernel) rfl, GW_q6 100 (by decide +kernel) rfl, ini_RX8, GW_q6 101 (by decide +kernel) rfl, by decide, by decide, by decide +kernel⟩
theorem lk_L_177 : LKV RL 177 mX8_groom 10 1 := lkv mk_X8_groom (GW_q6 98 (by decide +kernel) rfl)
theorem mk_L_count : MHok mL_count 3 := ⟨GW_q3 148 (by decide +kernel) rfl, ini_RL, GW_q3 149 (by decide +kernel) rfl, by decide, by decide, by decide +kernel⟩
theorem lk_L_178 : LKH RL 178 mL_count 3 := ⟨GW_q3 147 (by decide +kernel) rfl, mk_L_count⟩
theorem mk_X8_count : MVok mX8_count 10 1 := ⟨by decide, ⟨TX8, 20, rfl⟩, GW_q6 103 (by decide +kernel) rfl, GW_q6 104 (by decide +kernel) rfl, ini_RX8, GW_q6 105 (by decide +kernel) rfl, by decide, by decide, by decide +kernel⟩
theorem lk_L_180 : LKV RL 180 mX8_count 10 1 := lkv mk_X8_count (GW_q6 102 (by decide +kernel) rfl)
theorem mk_L_addGuest : MHok mL_addGuest 7 := ⟨GW_q3 164 (by decide +kernel) rfl, ini_RL, GW_q3 165 (by decide +kernel) rfl, by decide, by decide, by decide +kernel⟩
theorem lk_L_181 : LKH RL 181 mL_addGuest 7 := ⟨GW_q3 163 (by decide +kernel) rfl, mk_L_addGuest⟩
theorem mk_X8_addGuest : MVok mX8_addGuest 10 5 := ⟨by decide, ⟨TX8, 20, rfl⟩, GW_q6 111 (by decide +kernel) rfl, GW_q6 112 (by decide +kernel) rfl, ini_RX8, GW_q6 113 (by decide +kernel) rfl, by decide, by decide, by decide +kernel⟩
theorem lk_L_184 : LKV RL 184 mX8_addGuest 10 5 := lkv mk_X8_addGuest (GW_q6 110 (by decide +kernel) rfl)
theorem mk_L_guest : MHok mL_guest 4 := ⟨GW_q3 181 (by decide +kernel) rfl, ini_RL, GW_q3 182 (by decide +kernel) rfl, by decide, by decide, by decide +kernel⟩
theorem lk_L_185 : LKH RL 185 mL_guest 4 := ⟨GW_q3 180 (by decide +kernel) rfl, mk_L_guest⟩
theorem mk_X8_guest : MVok mX8_guest 10 2 := ⟨by decide, ⟨TX8, 20, rfl⟩, GW_q6 119 (by decide +kernel) rfl, GW_q6 120 (by decide +kernel) rfl, ini_RX8, GW_q6 121 (by decide +kernel) rfl, by decide, by decide, by decide +kernel⟩
theorem lk_L_187 : LKV RL 187 mX8_guest 10 2 := lkv mk_X8_guest (GW_q6 118 (by decide +kernel) rfl)
theorem mk_L_queue : MHok mL_queue 4 := ⟨GW_q3 194 (by decide +kernel) rfl, ini_RL, GW_q3 195 (by decide +kernel) rfl, by decide, by decide, by decide +kernel⟩
theorem lk_L_188 : LKH RL 188 mL_queue 4 := ⟨GW_q3 193 (by decide +kernel) rfl, mk_L_queue⟩
theorem mk_X8_queue : MVok mX8_queue 10 2 := ⟨by decide, ⟨TX8, 20, rfl⟩, GW_q6 131 (by decide +kernel) rfl, GW_q6 132 (by decide +kernel) rfl, ini_RX8, GW_q6 133 (by decide +kernel) rfl, by decide, by decide, by decide +kernel⟩
theorem lk_L_190 : LKV RL 190 mX8_queue 10 2 := lkv mk_X8_queue (GW_q6 130 (by decide +kernel) rfl)
theorem mk_L_ski : MHok mL_ski 4 := ⟨GW_q3 237 (by decide +kernel) rfl, ini_RL, GW_q3 238 (by decide +kernel) rfl, by decide, by decide, by decide +kernel⟩
theorem lk_L_191 : LKH RL 191 mL_ski 4 := ⟨GW_q3 236 (by decide +kernel) rfl, mk_L_ski⟩
theorem mk_X8_ski : MVok mX8_ski 10 2 := ⟨by decide, ⟨TX8, 20, rfl⟩, GW_q6 151 (by decide +kernel) rfl, GW_q6 152 (by decide +kernel) rfl, ini_RX8, GW_q6 153 (by decide +kernel) rfl, by decide, by decide, by decide +kernel⟩
theorem lk_L_193 : LKV RL 193 mX8_ski 10 2 := lkv mk_X8_ski (GW_q6 150 (by decide +kernel) rfl)
theorem mk_L_leave : MHok mL_leave 3 := ⟨GW_q4 21 (by decide +kernel) rfl, ini_RL, GW_q4 22 (by decide +kernel) rfl, by decide, by decide, by decide +kernel⟩
theorem lk_L_194 : LKH RL 194 mL_leave 3 := ⟨GW_q4 20 (by decide +kernel) rfl, mk_L_leave⟩
theorem mk_X8_leave : MVok mX8_leave 10 1 := ⟨by decide, ⟨TX8, 20, rfl⟩, GW_q6 167 (by decide +kernel) rfl, GW_q6 168 (by decide +kernel) rfl, ini_RX8, GW_q6 169 (by decide +kernel) rfl, by decide, by decide, by decide +kernel⟩
theorem lk_L_196 : LKV RL 196 mX8_leave 10 1 := lkv mk_X8_leave (GW_q6 166 (by decide +kernel) rfl)
theorem mk_L_whyNotQueue : MHok mL_whyNotQueue 4 := ⟨GW_q4 42 (by decide +kernel) rfl, ini_RL, GW_q4 43 (by decide +kernel) rfl, by decide, by decide, by decide +kernel⟩
theorem lk_L_197 : LKH RL 197 mL_whyNotQueue 4 := ⟨GW_q4 41 (by decide +kernel) rfl, mk_L_whyNotQueue⟩
theorem mk_X8_whyNotQueue : MVok mX8_whyNotQueue 10 2 := ⟨by decide, ⟨TX8, 20, rfl⟩, GW_q6 175 (by decide +kernel) rfl, GW_q6 176 (by decide +kernel) rfl, ini_RX8, GW_q6 177 (by decide +kernel) rfl, by decide, by decide, by decide +kernel⟩
theorem lk_L_199 : LKV RL 199 mX8_whyNotQueue 10 2 := lkv mk_X8_whyNotQueue (GW_q6 174 (by decide +kernel) rfl)
theorem mk_L_whyNotSki : MHok mL_whyNotSki 4 := ⟨GW_q4 49 (by decide +kernel) rfl, ini_RL, GW_q4 50 (by decide +kernel) rfl, by decide, by decide, by decide +kernel⟩
theorem lk_L_200 : LKH RL 200 mL_whyNotSki 4 := ⟨GW_q4 48 (by decide +kernel) rfl, mk_L_whyNotSki⟩
theorem mk_X8_whyNotSki : MVok mX8_whyNotSki 10 2 := ⟨by decide, ⟨TX8, 20, rfl⟩, GW_q6 179 (by decide +kernel) rfl, GW_q6 180 (by decide +kernel) rfl, ini_RX8, GW_q6 181 (by decide +kernel) rfl, by decide, by decide, by decide +kernel⟩
theorem lk_L_202 : LKV RL 202 mX8_whyNotSki 10 2 := lkv mk_X8_whyNotSki (GW_q6 178 (by decide +kernel) rfl)
theorem mk_L_reason : MHok mL_reason 2 := ⟨GW_q4 56 (by decide +kernel) rfl, ini_RL, GW_q4 57 (by decide +kernel) rfl, by decide, by decide, by decide +kernel⟩
theorem lk_L_203 : LKH RL 203 mL_reason 2 := ⟨GW_q4 55 (by decide +kernel) rfl, mk_L_reason⟩
theorem mk_X8_reason : MVok mX8_reason 10 0 := ⟨by decide, ⟨TX8, 20, rfl⟩, GW_q6 183 (by decide +kernel) rfl, GW_q6 184 (by decide +kernel) rfl, ini_RX8, GW_q6 185 (by decide +kernel) rfl, by decide, by decide, by decide +kernel⟩
theorem lk_L_206 : LKV RL 206 mX8_reason 10 0 := lkv mk_X8_reason (GW_q6 182 (by decide +kernel) rfl)
theorem mk_L_opened : MHok mL_opened 3 := ⟨GW_q4 80 (by decide +kernel) rfl, ini_RL, GW_q4 81 (by decide +kernel) rfl, by decide, by decide, by decide +kernel⟩
theorem lk_L_207 : LKH RL 207 mL_opened 3 := ⟨GW_q4 79 (by decide +kernel) rfl, mk_L_opened⟩
theorem mk_X8_opened : MVok mX8_opened 10 1 := ⟨by decide, ⟨TX8, 20, rfl⟩, GW_q6 187 (by decide +kernel) rfl, GW_q6 188 (by decide +kernel) rfl, ini_RX8, GW_q6 189 (by decide +kernel) rfl, by decide, by decide, by decide +kernel⟩
theorem lk_L_209 : LKV RL 209 mX8_opened 10 1 := lkv mk_X8_opened (GW_q6 186 (by decide +kernel) rfl)
theorem mk_L_queued : MHok mL_queued 4 := ⟨GW_q4 91 (by decide +kernel) rfl, ini_RL, GW_q4 92 (by decide +kernel) rfl, by decide, by decide, by decide +kernel⟩
theorem lk_L_210 : LKH RL 210 mL_queued 4 := ⟨GW_q4 90 (by decide +kernel) rfl, mk_L_queued⟩
theorem mk_X8_queued : MVok mX8_queued 10 2 := ⟨by decide, ⟨TX8, 20, rfl⟩, GW_q6 191 (by decide +kernel) rfl, GW_q6 192 (by decide +kernel) rfl, ini_RX8, GW_q6 193 (by decide +kernel) rfl, by decide, by decide, by decide +kernel⟩
theorem lk_L_212 : LKV RL 212 mX8_queued 10 2 := lkv mk_X8_queued (GW_q6 190 (by decide +kernel) rfl)
theorem mk_L_advance : MHok mL_advance 3 := ⟨GW_q4 103 (by decide +kernel) rfl, ini_RL, GW_q4 104 (by decide +kernel) rfl, by decide, by decide, by decide +kernel⟩
theorem lk_L_213 : LKH RL 213 mL_advance 3 := ⟨GW_q4 102 (by decide +kernel) rfl, mk_L_advance⟩
theorem mk_X8_advance : MVok mX8_advance 10 1 := ⟨by decide, ⟨TX8, 20, rfl⟩, GW_q6 195 (by decide +kernel) rfl, GW_q6 196 (by decide +kernel) rfl, ini_RX8, GW_q6 197 (by decide +kernel) rfl, by decide, by decide, by decide +kernel⟩
theorem lk_L_215 : LKV RL 215 mX8_advance 10 1 := lkv mk_X8_advance (GW_q6 194 (by decide +kernel) rfl)
theorem mk_L_endDay : MHok mL_endDay 2 := ⟨GW_q4 153 (by decide +kernel) rfl, ini_RL, GW_q4 154 (by decide +kernel) rfl, by decide, by decide, by decide +kernel⟩
theorem lk_L_216 : LKH RL 216 mL_endDay 2 := ⟨GW_q4 152 (by decide +kernel) rfl, mk_L_endDay⟩
theorem mk_X8_endDay : MVok mX8_endDay 10 0 := ⟨by decide, ⟨TX8, 20, rfl⟩, GW_q6 220 (by decide +kernel) rfl, GW_q6 221 (by decide +kernel) rfl, ini_RX8, GW_q6 222 (by decide +kernel) rfl, by decide, by decide, by decide +kernel⟩
theorem lk_L_218 : LKV RL 218 mX8_endDay 10 0 := lkv mk_X8_endDay (GW_q6 219 (by decide +kernel) rfl)
theorem mk_L_arrival : MHok mL_arrival 3 := ⟨GW_q4 167 (by decide +kernel) rfl, ini_RL, GW_q4 168 (by decide +kernel) rfl, by decide, by decide, by decide +kernel⟩
theorem lk_L_219 : LKH RL 219 mL_arrival 3 := ⟨GW_q4 166 (by decide +kernel) rfl, mk_L_arrival⟩
theorem mk_X8_arrival : MVok mX8_arrival 10 1 := ⟨by decide, ⟨TX8, 20, rfl⟩, GW_q6 224 (by decide +kernel) rfl, GW_q6 225 (by decide +kernel) rfl, ini_RX8, GW_q6 226 (by decide +kernel) rfl, by decide, by decide, by decide +kernel⟩
theorem lk_L_221 : LKV RL 221 mX8_arrival 10 1 := lkv mk_X8_arrival (GW_q6 223 (by decide +kernel) rfl)
theorem mk_L_nextCabin : MHok mL_nextCabin 3 := ⟨GW_q4 190 (by decide +kernel) rfl, ini_RL, GW_q4 191 (by decide +kernel) rfl, by decide, by decide, by decide +kernel⟩
theorem lk_L_222 : LKH RL 222 mL_nextCabin 3 := ⟨GW_q4 189 (by decide +kernel) rfl, mk_L_nextCabin⟩
theorem mk_X8_nextCabin : MVok mX8_nextCabin 10 1 := ⟨by decide, ⟨TX8, 20, rfl⟩, GW_q6 236 (by decide +kernel) rfl, GW_q6 237 (by decide +kernel) rfl, ini_RX8, GW_q6 238 (by decide +kernel) rfl, by decide, by decide, by decide +kernel⟩
theorem lk_L_224 : LKV RL 224 mX8_nextCabin 10 1 := lkv mk_X8_nextCabin (GW_q6 235 (by decide +kernel) rfl)
theorem mk_L_duration : MHok mL_duration 5 := ⟨GW_q4 200 (by decide +kernel) rfl, ini_RL, GW_q4 201 (by decide +kernel) rfl, by decide, by decide, by decide +kernel⟩
theorem lk_L_225 : LKH RL 225 mL_duration 5 := ⟨GW_q4 199 (by decide +kernel) rfl, mk_L_duration⟩
theorem mk_X8_duration : MVok mX8_duration 10 3 := ⟨by decide, ⟨TX8, 20, rfl⟩, GW_q7 0 (by decide +kernel) rfl, GW_q7 1 (by decide +kernel) rfl, ini_RX8, GW_q7 2 (by decide +kernel) rfl, by decide, by decide, by decide +kernel⟩
theorem lk_L_228 : LKV RL 228 mX8_duration 10 3 := lkv mk_X8_duration (GW_q6 239 (by decide +kernel) rfl)
theorem mk_L_firstPart : MHok mL_firstPart 5 := ⟨GW_q4 238 (by decide +kernel) rfl, ini_RL, GW_q4 239 (by decide +kernel) rfl, by decide, by decide, by decide +kernel⟩
theorem lk_L_229 : LKH RL 229 mL_firstPart 5 := ⟨GW_q4 237 (by decide +kernel) rfl, mk_L_firstPart⟩
theorem mk_X8_firstPart : MVok mX8_firstPart 10 3 := ⟨by decide, ⟨TX8, 20, rfl⟩, GW_q7 21 (by decide +kernel) rfl, GW_q7 22 (by decide +kernel) rfl, ini_RX8, GW_q7 23 (by decide +kernel) rfl, by decide, by decide, by decide +kernel⟩
theorem lk_L_231 : LKV RL 231 mX8_firstPart 10 3 := lkv mk_X8_firstPart (GW_q7 20 (by decide +kernel) rfl)
theorem mk_L_reachable : MHok mL_reachable 4 := ⟨GW_q5 9 (by decide +kernel) rfl, ini_RL, GW_q5 10 (by decide +kernel) rfl, by decide, by decide, by decide +kernel⟩
theorem lk_L_232 : LKH RL 232 mL_reachable 4 := ⟨GW_q5 8 (by decide +kernel) rfl, mk_L_reachable⟩
theorem mk_X8_reachable : MVok mX8_reachable 10 2 := ⟨by decide, ⟨TX8, 20, rfl⟩, GW_q7 25 (by decide +kernel) rfl, GW_q7 26 (by decide +kernel) rfl, ini_RX8, GW_q7 27 (by decide +kernel) rfl, by decide, by decide, by decide +kernel⟩
theorem lk_L_234 : LKV RL 234 mX8_reachable 10 2 := lkv mk_X8_reachable (GW_q7 24 (by decide +kernel) rfl)
theorem mk_L_stranded : MHok mL_stranded 4 := ⟨GW_q5 24 (by decide +kernel) rfl, ini_RL, GW_q5 25 (by decide +kernel) rfl, by decide, by decide, by decide +kernel⟩
theorem lk_L_235 : LKH RL 235 mL_stranded 4 := ⟨GW_q5 23 (by decide +kernel) rfl, mk_L_stranded⟩
theorem mk_X8_stranded : MVok mX8_stranded 10 2 := ⟨by decide, ⟨TX8, 20, rfl⟩, GW_q7 29 (by decide +kernel) rfl, GW_q7 30 (by decide +kernel) rfl, ini_RX8, GW_q7 31 (by decide +kernel) rfl, by decide, by decide, by decide +kernel⟩
theorem lk_L_237 : LKV RL 237 mX8_stranded 10 2 := lkv mk_X8_stranded (GW_q7 28 (by decide +kernel) rfl)
theorem mk_L_liftAccount : MHok mL_liftAccount 4 := ⟨GW_q5 35 (by decide +kernel) rfl, ini_RL, GW_q5 36 (by decide +kernel) rfl, by decide, by decide, by decide +kernel⟩
theorem lk_L_238 : LKH RL 238 mL_liftAccount 4 := ⟨GW_q5 34 (by decide +kernel) rfl, mk_L_liftAccount⟩
theorem mk_X8_liftAccount : MVok mX8_liftAccount 10 2 := ⟨by decide, ⟨TX8, 20, rfl⟩, GW_q7 33 (by decide +kernel) rfl, GW_q7 34 (by decide +kernel) rfl, ini_RX8, GW_q7 35 (by decide +kernel) rfl, by decide, by decide, by decide +kernel⟩
theorem lk_L_240 : LKV RL 240 mX8_liftAccount 10 2 := lkv mk_X8_liftAccount (GW_q7 32 (by decide +kernel) rfl)
theorem mk_L_guestAccount : MHok mL_guestAccount 4 := ⟨GW_q5 43 (by decide +kernel) rfl, ini_RL, GW_q5 44 (by decide +kernel) rfl, by decide, by decide, by decide +kernel⟩
theorem lk_L_241 : LKH RL 241 mL_guestAccount 4 := ⟨GW_q5 42 (by decide +kernel) rfl, mk_L_guestAccount⟩
theorem mk_X8_guestAccount : MVok mX8_guestAccount 10 2 := ⟨by decide, ⟨TX8, 20, rfl⟩, GW_q7 37 (by decide +kernel) rfl, GW_q7 38 (by decide +kernel) rfl, ini_RX8, GW_q7 39 (by decide +kernel) rfl, by decide, by decide, by decide +kernel⟩
theorem lk_L_243 : LKV RL 243 mX8_guestAccount 10 2 := lkv mk_X8_guestAccount (GW_q7 36 (by decide +kernel) rfl)
theorem mk_L_pisteAccount : MHok mL_pisteAccount 3 := ⟨GW_q5 51 (by decide +kernel) rfl, ini_RL, GW_q5 52 (by decide +kernel) rfl, by decide, by decide, by decide +kernel⟩
theorem lk_L_244 : LKH RL 244 mL_pisteAccount 3 := ⟨GW_q5 50 (by decide +kernel) rfl, mk_L_pisteAccount⟩
theorem mk_X8_pisteAccount : MVok mX8_pisteAccount 10 1 := ⟨by decide, ⟨TX8, 20, rfl⟩, GW_q7 41 (by decide +kernel) rfl, GW_q7 42 (by decide +kernel) rfl, ini_RX8, GW_q7 43 (by decide +kernel) rfl, by decide, by decide, by decide +kernel⟩
theorem lk_L_246 : LKV RL 246 mX8_pisteAccount 10 1 := lkv mk_X8_pisteAccount (GW_q7 40 (by decide +kernel) rfl)
theorem mk_X7_audit : MVok mX7_audit 9 0 := ⟨by decide, ⟨TX7, 9, rfl⟩, GW_q2 114 (by decide +kernel) rfl, GW_q2 115 (by decide +kernel) rfl, ini_RX7, GW_q2 116 (by decide +kernel) rfl, by decide, by decide, by decide +kernel⟩
theorem lk_L_247 : LKV RL 247 mX7_audit 9 0 := lkv mk_X7_audit (GW_q2 113 (by decide +kernel) rfl)
theorem mk_X8_audit : MVok mX8_audit 10 0 := ⟨by decide, ⟨TX8, 20, rfl⟩, GW_q7 45 (by decide +kernel) rfl, GW_q7 46 (by decide +kernel) rfl, ini_RX8, GW_q7 47 (by decide +kernel) rfl, by decide, by decide, by decide +kernel⟩
theorem lk_L_250 : LKV RL 250 mX8_audit 10 0 := lkv mk_X8_audit (GW_q7 44 (by decide +kernel) rfl)
theorem mk_L_busiest : MHok mL_busiest 2 := ⟨GW_q5 58 (by decide +kernel) rfl, ini_RL, GW_q5 59 (by decide +kernel) rfl, by decide, by decide, by decide +kernel⟩
theorem lk_L_251 : LKH RL 251 mL_busiest 2 := ⟨GW_q5 57 (by decide +kernel) rfl, mk_L_busiest⟩
theorem mk_X8_busiest : MVok mX8_busiest 10 0 := ⟨by decide, ⟨TX8, 20, rfl⟩, GW_q7 50 (by decide +kernel) rfl, GW_q7 51 (by decide +kernel) rfl, ini_RX8, GW_q7 52 (by decide +kernel) rfl, by decide, by decide, by decide +kernel⟩
theorem lk_L_253 : LKV RL 253 mX8_busiest 10 0 := lkv mk_X8_busiest (GW_q7 49 (by decide +kernel) rfl)
theorem mk_L_load : MHok mL_load 3 := ⟨GW_q5 70 (by decide +kernel) rfl, ini_RL, GW_q5 71 (by decide +kernel) rfl, by decide, by decide, by decide +kernel⟩
theorem lk_L_254 : LKH RL 254 mL_load 3 := ⟨GW_q5 69 (by decide +kernel) rfl, mk_L_load⟩
theorem mk_X8_load : MVok mX8_load 10 1 := ⟨by decide, ⟨TX8, 20, rfl⟩, GW_q7 54 (by decide +kernel) rfl, GW_q7 55 (by decide +kernel) rfl, ini_RX8, GW_q7 56 (by decide +kernel) rfl, by decide, by decide, by decide +kernel⟩
theorem lk_L_257 : LKV RL 257 mX8_load 10 1 := lkv mk_X8_load (GW_q7 53 (by decide +kernel) rfl)
theorem mk_L_append : MHok mL_append 3 := ⟨GW_q5 94 (by decide +kernel) rfl, ini_RL, GW_q5 95 (by decide +kernel) rfl, by decide, by decide, by decide +kernel⟩
theorem lk_L_258 : LKH RL 258 mL_append 3 := ⟨GW_q5 93 (by decide +kernel) rfl, mk_L_append⟩
theorem mk_X8_append : MVok mX8_append 10 1 := ⟨by decide, ⟨TX8, 20, rfl⟩, GW_q7 58 (by decide +kernel) rfl, GW_q7 59 (by decide +kernel) rfl, ini_RX8, GW_q7 60 (by decide +kernel) rfl, by decide, by decide, by decide +kernel⟩
theorem lk_L_261 : LKV RL 261 mX8_append 10 1 := lkv mk_X8_append (GW_q7 57 (by decide +kernel) rfl)
theorem mk_L_read : MHok mL_read 2 := ⟨GW_q5 107 (by decide +kernel) rfl, ini_RL, GW_q5 108 (by decide +kernel) rfl, by decide, by decide, by decide +kernel⟩
theorem lk_L_262 : LKH RL 262 mL_read 2 := ⟨GW_q5 106 (by decide +kernel) rfl, mk_L_read⟩
theorem mk_X8_read : MVok mX8_read 10 0 := ⟨by decide, ⟨TX8, 20, rfl⟩, GW_q7 62 (by decide +kernel) rfl, GW_q7 63 (by decide +kernel) rfl, ini_RX8, GW_q7 64 (by decide +kernel) rfl, by decide, by decide, by decide +kernel⟩
theorem lk_L_264 : LKV RL 264 mX8_read 10 0 := lkv mk_X8_read (GW_q7 61 (by decide +kernel) rfl)
theorem mk_L_errorPosition : MHok mL_errorPosition 2 := ⟨GW_q5 173 (by decide +kernel) rfl, ini_RL, GW_q5 174 (by decide +kernel) rfl, by decide, by decide, by decide +kernel⟩
theorem lk_L_265 : LKH RL 265 mL_errorPosition 2 := ⟨GW_q5 172 (by decide +kernel) rfl, mk_L_errorPosition⟩
theorem mk_X8_errorPosition : MVok mX8_errorPosition 10 0 := ⟨by decide, ⟨TX8, 20, rfl⟩, GW_q7 94 (by decide +kernel) rfl, GW_q7 95 (by decide +kernel) rfl, ini_RX8, GW_q7 96 (by decide +kernel) rfl, by decide, by decide, by decide +kernel⟩
theorem lk_L_267 : LKV RL 267 mX8_errorPosition 10 0 := lkv mk_X8_errorPosition (GW_q7 93 (by decide +kernel) rfl)
theorem mk_L_undo : MHok mL_undo 2 := ⟨GW_q5 181 (by decide +kernel) rfl, ini_RL, GW_q5 182 (by decide +kernel) rfl, by decide, by decide, by decide +kernel⟩
theorem lk_L_268 : LKH RL 268 mL_undo 2 := ⟨GW_q5 180 (by decide +kernel) rfl, mk_L_undo⟩
theorem mk_X8_undo : MVok mX8_undo 10 0 := ⟨by decide, ⟨TX8, 20, rfl⟩, GW_q7 98 (by decide +kernel) rfl, GW_q7 99 (by decide +kernel) rfl, ini_RX8, GW_q7 100 (by decide +kernel) rfl, by decide, by decide, by decide +kernel⟩
theorem lk_L_270 : LKV RL 270 mX8_undo 10 0 := lkv mk_X8_undo (GW_q7 97 (by decide +kernel) rfl)
theorem mk_X7_save : MVok mX7_save 9 0 := ⟨by decide, ⟨TX7, 9, rfl⟩, GW_q2 125 (by decide +kernel) rfl, GW_q2 126 (by decide +kernel) rfl, ini_RX7, GW_q2 127 (by decide +kernel) rfl, by decide, by decide, by decide +kernel⟩
theorem lk_L_271 : LKV RL 271 mX7_save 9 0 := lkv mk_X7_save (GW_q2 124 (by decide +kernel) rfl)
theorem mk_X8_save : MVok mX8_save 10 0 := ⟨by decide, ⟨TX8, 20, rfl⟩, GW_q7 102 (by decide +kernel) rfl, GW_q7 103 (by decide +kernel) rfl, ini_RX8, GW_q7 104 (by decide +kernel) rfl, by decide, by decide, by decide +kernel⟩
theorem lk_L_274 : LKV RL 274 mX8_save 10 0 := lkv mk_X8_save (GW_q7 101 (by decide +kernel) rfl)
theorem mk_L_restore : MHok mL_restore 2 := ⟨GW_q5 193 (by decide +kernel) rfl, ini_RL, GW_q5 194 (by decide +kernel) rfl, by decide, by decide, by decide +kernel⟩
theorem lk_L_275 : LKH RL 275 mL_restore 2 := ⟨GW_q5 192 (by decide +kernel) rfl, mk_L_restore⟩
theorem mk_X8_restore : MVok mX8_restore 10 0 := ⟨by decide, ⟨TX8, 20, rfl⟩, GW_q7 106 (by decide +kernel) rfl, GW_q7 107 (by decide +kernel) rfl, ini_RX8, GW_q7 108 (by decide +kernel) rfl, by decide, by decide, by decide +kernel⟩
theorem lk_L_277 : LKV RL 277 mX8_restore 10 0 := lkv mk_X8_restore (GW_q7 105 (by decide +kernel) rfl)
theorem mk_X8_in : MSok mX8_in 3 := ⟨GW_q6 43 (by decide +kernel) rfl, ini_RX8, GW_q6 44 (by decide +kernel) rfl, by decide, by decide, by decide +kernel⟩
theorem lk_X8_47 : LKS RX8 47 mX8_in 3 := ⟨GW_q6 42 (by decide +kernel) rfl, mk_X8_in⟩
theorem mk_X8_lift0 : MSok mX8_lift0 1 := ⟨GW_q6 54 (by decide +kernel) rfl, ini_RX8, GW_q6 55 (by decide +kernel) rfl, by decide, by decide, by decide +kernel⟩
theorem lk_X8_51 : LKS RX8 51 mX8_lift0 1 := ⟨GW_q6 53 (by decide +kernel) rfl, mk_X8_lift0⟩
theorem mk_X8_stateOf : MVok mX8_stateOf 10 1 := ⟨by decide, ⟨TX8, 20, rfl⟩, GW_q6 69 (by decide +kernel) rfl, GW_sel 26 (by decide +kernel) rfl, ini_RX8, GW_q6 70 (by decide +kernel) rfl, by decide, by decide, by decide +kernel⟩
theorem lk_X8_55 : LKV RX8 55 mX8_stateOf 10 1 := lkv mk_X8_stateOf (GW_q6 67 (by decide +kernel) rfl)
theorem mk_X8_isStation : MSok mX8_isStation 1 := ⟨GW_q6 40 (by decide +kernel) rfl, ini_RX8, GW_q6 41 (by decide +kernel) rfl, by decide, by decide, by decide +kernel⟩
theorem lk_X8_58 : LKS RX8 58 mX8_isStation 1 := ⟨GW_q6 39 (by decide +kernel) rfl, mk_X8_isStation⟩
theorem mk_X8_refuse : MVok mX8_refuse 10 1 := ⟨by decide, ⟨TX8, 20, rfl⟩, GW_q6 47 (by decide +kernel) rfl, GW_sel 24 (by decide +kernel) rfl, ini_RX8, GW_q6 48 (by decide +kernel) rfl, by decide, by decide, by decide +kernel⟩
theorem lk_X8_62 : LKV RX8 62 mX8_refuse 10 1 := lkv mk_X8_refuse (GW_q6 45 (by decide +kernel) rfl)
theorem mk_X8_keep : MVok mX8_keep 10 0 := ⟨by decide, ⟨TX8, 20, rfl⟩, GW_q6 51 (by decide +kernel) rfl, GW_sel 25 (by decide +kernel) rfl, ini_RX8, GW_q6 52 (by decide +kernel) rfl, by decide, by decide, by decide +kernel⟩
theorem lk_X8_65 : LKV RX8 65 mX8_keep 10 0 := lkv mk_X8_keep (GW_q6 49 (by decide +kernel) rfl)
theorem mk_X8_piste0 : MSok mX8_piste0 1 := ⟨GW_q6 61 (by decide +kernel) rfl, ini_RX8, GW_q6 62 (by decide +kernel) rfl, by decide, by decide, by decide +kernel⟩
theorem lk_X8_68 : LKS RX8 68 mX8_piste0 1 := ⟨GW_q6 60 (by decide +kernel) rfl, mk_X8_piste0⟩
theorem mk_X8_guest0 : MSok mX8_guest0 1 := ⟨GW_q6 84 (by decide +kernel) rfl, ini_RX8, GW_q6 85 (by decide +kernel) rfl, by decide, by decide, by decide +kernel⟩
theorem lk_X8_71 : LKS RX8 71 mX8_guest0 1 := ⟨GW_q6 83 (by decide +kernel) rfl, mk_X8_guest0⟩
theorem mk_X8_isLift : MVok mX8_isLift 10 1 := ⟨by decide, ⟨TX8, 20, rfl⟩, GW_q6 77 (by decide +kernel) rfl, GW_sel 27 (by decide +kernel) rfl, ini_RX8, GW_q6 78 (by decide +kernel) rfl, by decide, by decide, by decide +kernel⟩
theorem lk_X8_74 : LKV RX8 74 mX8_isLift 10 1 := lkv mk_X8_isLift (GW_q6 75 (by decide +kernel) rfl)
theorem mk_X8_guestsWho : MVok mX8_guestsWho 10 2 := ⟨by decide, ⟨TX8, 20, rfl⟩, GW_q6 81 (by decide +kernel) rfl, GW_sel 28 (by decide +kernel) rfl, ini_RX8, GW_q6 82 (by decide +kernel) rfl, by decide, by decide, by decide +kernel⟩
theorem lk_X8_77 : LKV RX8 77 mX8_guestsWho 10 2 := lkv mk_X8_guestsWho (GW_q6 79 (by decide +kernel) rfl)
theorem mk_X8_isPiste : MVok mX8_isPiste 10 1 := ⟨by decide, ⟨TX8, 20, rfl⟩, GW_q6 92 (by decide +kernel) rfl, GW_sel 29 (by decide +kernel) rfl, ini_RX8, GW_q6 93 (by decide +kernel) rfl, by decide, by decide, by decide +kernel⟩
theorem lk_X8_81 : LKV RX8 81 mX8_isPiste 10 1 := lkv mk_X8_isPiste (GW_q6 90 (by decide +kernel) rfl)
theorem mk_X8_openPistes : MVok mX8_openPistes 10 0 := ⟨by decide, ⟨TX8, 20, rfl⟩, GW_q6 108 (by decide +kernel) rfl, GW_sel 30 (by decide +kernel) rfl, ini_RX8, GW_q6 109 (by decide +kernel) rfl, by decide, by decide, by decide +kernel⟩
theorem lk_X8_84 : LKV RX8 84 mX8_openPistes 10 0 := lkv mk_X8_openPistes (GW_q6 106 (by decide +kernel) rfl)
theorem mk_X8_arrives : MVok mX8_arrives 10 5 := ⟨by decide, ⟨TX8, 20, rfl⟩, GW_q6 116 (by decide +kernel) rfl, GW_sel 31 (by decide +kernel) rfl, ini_RX8, GW_q6 117 (by decide +kernel) rfl, by decide, by decide, by decide +kernel⟩
theorem lk_X8_88 : LKV RX8 88 mX8_arrives 10 5 := lkv mk_X8_arrives (GW_q6 114 (by decide +kernel) rfl)
theorem mk_X8_isGuest : MVok mX8_isGuest 10 1 := ⟨by decide, ⟨TX8, 20, rfl⟩, GW_q6 124 (by decide +kernel) rfl, GW_sel 32 (by decide +kernel) rfl, ini_RX8, GW_q6 125 (by decide +kernel) rfl, by decide, by decide, by decide +kernel⟩
theorem lk_X8_92 : LKV RX8 92 mX8_isGuest 10 1 := lkv mk_X8_isGuest (GW_q6 122 (by decide +kernel) rfl)
theorem mk_X8_placeOf : MVok mX8_placeOf 10 1 := ⟨by decide, ⟨TX8, 20, rfl⟩, GW_q6 128 (by decide +kernel) rfl, GW_sel 33 (by decide +kernel) rfl, ini_RX8, GW_q6 129 (by decide +kernel) rfl, by decide, by decide, by decide +kernel⟩
theorem lk_X8_95 : LKV RX8 95 mX8_placeOf 10 1 := lkv mk_X8_placeOf (GW_q6 126 (by decide +kernel) rfl)
theorem mk_X8_isOpenTo : MVok mX8_isOpenTo 10 2 := ⟨by decide, ⟨TX8, 20, rfl⟩, GW_q6 140 (by decide +kernel) rfl, GW_sel 35 (by decide +kernel) rfl, ini_RX8, GW_q6 141 (by decide +kernel) rfl, by decide, by decide, by decide +kernel⟩
theorem lk_X8_98 : LKV RX8 98 mX8_isOpenTo 10 2 := lkv mk_X8_isOpenTo (GW_q6 138 (by decide +kernel) rfl)
theorem mk_X8_skiTime : MVok mX8_skiTime 10 2 := ⟨by decide, ⟨TX8, 20, rfl⟩, GW_q6 164 (by decide +kernel) rfl, GW_sel 40 (by decide +kernel) rfl, ini_RX8, GW_q6 165 (by decide +kernel) rfl, by decide, by decide, by decide +kernel⟩
theorem lk_X8_102 : LKV RX8 102 mX8_skiTime 10 2 := lkv mk_X8_skiTime (GW_q6 162 (by decide +kernel) rfl)
theorem mk_X8_whyNoLift : MVok mX8_whyNoLift 10 2 := ⟨by decide, ⟨TX8, 20, rfl⟩, GW_q6 136 (by decide +kernel) rfl, GW_sel 34 (by decide +kernel) rfl, ini_RX8, GW_q6 137 (by decide +kernel) rfl, by decide, by decide, by decide +kernel⟩
theorem lk_X8_105 : LKV RX8 105 mX8_whyNoLift 10 2 := lkv mk_X8_whyNoLift (GW_q6 134 (by decide +kernel) rfl)
theorem mk_X8_refuses : MVok mX8_refuses 10 2 := ⟨by decide, ⟨TX8, 20, rfl⟩, GW_q6 144 (by decide +kernel) rfl, GW_sel 36 (by decide +kernel) rfl, ini_RX8, GW_q6 145 (by decide +kernel) rfl, by decide, by decide, by decide +kernel⟩
theorem lk_X8_108 : LKV RX8 108 mX8_refuses 10 2 := lkv mk_X8_refuses (GW_q6 142 (by decide +kernel) rfl)
theorem mk_X8_standIn : MVok mX8_standIn 10 2 := ⟨by decide, ⟨TX8, 20, rfl⟩, GW_q6 148 (by decide +kernel) rfl, GW_sel 37 (by decide +kernel) rfl, ini_RX8, GW_q6 149 (by decide +kernel) rfl, by decide, by decide, by decide +kernel⟩
theorem lk_X8_111 : LKV RX8 111 mX8_standIn 10 2 := lkv mk_X8_standIn (GW_q6 146 (by decide +kernel) rfl)
theorem mk_X8_whyNoPiste : MVok mX8_whyNoPiste 10 2 := ⟨by decide, ⟨TX8, 20, rfl⟩, GW_q6 156 (by decide +kernel) rfl, GW_sel 38 (by decide +kernel) rfl, ini_RX8, GW_q6 157 (by decide +kernel) rfl, by decide, by decide, by decide +kernel⟩
theorem lk_X8_114 : LKV RX8 114 mX8_whyNoPiste 10 2 := lkv mk_X8_whyNoPiste (GW_q6 154 (by decide +kernel) rfl)
theorem mk_X8_goDown : MVok mX8_goDown 10 2 := ⟨by decide, ⟨TX8, 20, rfl⟩, GW_q6 160 (by decide +kernel) rfl, GW_sel 39 (by decide +kernel) rfl, ini_RX8, GW_q6 161 (by decide +kernel) rfl, by decide, by decide, by decide +kernel⟩
theorem lk_X8_117 : LKV RX8 117 mX8_goDown 10 2 := lkv mk_X8_goDown (GW_q6 158 (by decide +kernel) rfl)
theorem mk_X8_drops : MVok mX8_drops 10 3 := ⟨by decide, ⟨TX8, 20, rfl⟩, GW_q6 172 (by decide +kernel) rfl, GW_sel 41 (by decide +kernel) rfl, ini_RX8, GW_q6 173 (by decide +kernel) rfl, by decide, by decide, by decide +kernel⟩
theorem lk_X8_120 : LKV RX8 120 mX8_drops 10 3 := lkv mk_X8_drops (GW_q6 170 (by decide +kernel) rfl)
theorem lk_X8_127 : LKS RX8 127 mJ9_min_7cf53 2 := ⟨GW_q6 218 (by decide +kernel) rfl, mk_J9_min_7cf53⟩
theorem mk_X8_stepOf : MVok mX8_stepOf 10 1 := ⟨by decide, ⟨TX8, 20, rfl⟩, GW_q6 208 (by decide +kernel) rfl, GW_sel 44 (by decide +kernel) rfl, ini_RX8, GW_q6 209 (by decide +kernel) rfl, by decide, by decide, by decide +kernel⟩
theorem lk_X8_132 : LKV RX8 132 mX8_stepOf 10 1 := lkv mk_X8_stepOf (GW_q6 206 (by decide +kernel) rfl)
theorem mk_X8_comesTo : MVok mX8_comesTo 10 2 := ⟨by decide, ⟨TX8, 20, rfl⟩, GW_q6 212 (by decide +kernel) rfl, GW_sel 45 (by decide +kernel) rfl, ini_RX8, GW_q6 213 (by decide +kernel) rfl, by decide, by decide, by decide +kernel⟩
theorem lk_X8_135 : LKV RX8 135 mX8_comesTo 10 2 := lkv mk_X8_comesTo (GW_q6 210 (by decide +kernel) rfl)
theorem mk_X8_cabin : MVok mX8_cabin 10 1 := ⟨by decide, ⟨TX8, 20, rfl⟩, GW_q6 216 (by decide +kernel) rfl, GW_sel 46 (by decide +kernel) rfl, ini_RX8, GW_q6 217 (by decide +kernel) rfl, by decide, by decide, by decide +kernel⟩
theorem lk_X8_139 : LKV RX8 139 mX8_cabin 10 1 := lkv mk_X8_cabin (GW_q6 214 (by decide +kernel) rfl)
theorem mk_X8_tick : MVok mX8_tick 10 0 := ⟨by decide, ⟨TX8, 20, rfl⟩, GW_q6 204 (by decide +kernel) rfl, GW_sel 43 (by decide +kernel) rfl, ini_RX8, GW_q6 205 (by decide +kernel) rfl, by decide, by decide, by decide +kernel⟩
theorem lk_X8_143 : LKV RX8 143 mX8_tick 10 0 := lkv mk_X8_tick (GW_q6 202 (by decide +kernel) rfl)
theorem mk_X8_ticks : MVok mX8_ticks 10 1 := ⟨by decide, ⟨TX8, 20, rfl⟩, GW_q6 200 (by decide +kernel) rfl, GW_sel 42 (by decide +kernel) rfl, ini_RX8, GW_q6 201 (by decide +kernel) rfl, by decide, by decide, by decide +kernel⟩
theorem lk_X8_146 : LKV RX8 146 mX8_ticks 10 1 := lkv mk_X8_ticks (GW_q6 198 (by decide +kernel) rfl)
theorem mk_X8_layAside : MVok mX8_layAside 10 0 := ⟨by decide, ⟨TX8, 20, rfl⟩, GW_q6 229 (by decide +kernel) rfl, GW_sel 47 (by decide +kernel) rfl, ini_RX8, GW_q6 230 (by decide +kernel) rfl, by decide, by decide, by decide +kernel⟩
theorem lk_X8_149 : LKV RX8 149 mX8_layAside 10 0 := lkv mk_X8_layAside (GW_q6 227 (by decide +kernel) rfl)
theorem mk_X8_takeBack : MVok mX8_takeBack 10 0 := ⟨by decide, ⟨TX8, 20, rfl⟩, GW_q6 233 (by decide +kernel) rfl, GW_sel 48 (by decide +kernel) rfl, ini_RX8, GW_q6 234 (by decide +kernel) rfl, by decide, by decide, by decide +kernel⟩
theorem lk_X8_152 : LKV RX8 152 mX8_takeBack 10 0 := lkv mk_X8_takeBack (GW_q6 231 (by decide +kernel) rfl)
theorem mk_X8_isWayLift : MVok mX8_isWayLift 10 2 := ⟨by decide, ⟨TX8, 20, rfl⟩, GW_q7 14 (by decide +kernel) rfl, GW_sel 51 (by decide +kernel) rfl, ini_RX8, GW_q7 15 (by decide +kernel) rfl, by decide, by decide, by decide +kernel⟩
theorem lk_X8_156 : LKV RX8 156 mX8_isWayLift 10 2 := lkv mk_X8_isWayLift (GW_q7 12 (by decide +kernel) rfl)
theorem mk_X8_isWayPiste : MVok mX8_isWayPiste 10 2 := ⟨by decide, ⟨TX8, 20, rfl⟩, GW_q7 18 (by decide +kernel) rfl, GW_sel 52 (by decide +kernel) rfl, ini_RX8, GW_q7 19 (by decide +kernel) rfl, by decide, by decide, by decide +kernel⟩
theorem lk_X8_159 : LKV RX8 159 mX8_isWayPiste 10 2 := lkv mk_X8_isWayPiste (GW_q7 16 (by decide +kernel) rfl)
theorem mk_X8_lacks : MVok mX8_lacks 10 3 := ⟨by decide, ⟨TX8, 20, rfl⟩, GW_q7 5 (by decide +kernel) rfl, GW_sel 49 (by decide +kernel) rfl, ini_RX8, GW_q7 6 (by decide +kernel) rfl, by decide, by decide, by decide +kernel⟩
theorem lk_X8_162 : LKV RX8 162 mX8_lacks 10 3 := lkv mk_X8_lacks (GW_q7 3 (by decide +kernel) rfl)
theorem mk_X8_layWays : MVok mX8_layWays 10 2 := ⟨by decide, ⟨TX8, 20, rfl⟩, GW_q7 9 (by decide +kernel) rfl, GW_sel 50 (by decide +kernel) rfl, ini_RX8, GW_q7 10 (by decide +kernel) rfl, by decide, by decide, by decide +kernel⟩
theorem lk_X8_166 : LKV RX8 166 mX8_layWays 10 2 := lkv mk_X8_layWays (GW_q7 7 (by decide +kernel) rfl)
theorem lk_X8_169 : LKS RX8 169 mJ9_abs_0f7a4 1 := ⟨GW_q7 48 (by decide +kernel) rfl, mk_J9_abs_0f7a4⟩
theorem mk_X8_here : MVok mX8_here 10 0 := ⟨by decide, ⟨TX8, 20, rfl⟩, GW_q7 75 (by decide +kernel) rfl, GW_sel 55 (by decide +kernel) rfl, ini_RX8, GW_q7 76 (by decide +kernel) rfl, by decide, by decide, by decide +kernel⟩
theorem lk_X8_182 : LKV RX8 182 mX8_here 10 0 := lkv mk_X8_here (GW_q7 73 (by decide +kernel) rfl)
theorem mk_X8_digit : MVok mX8_digit 10 2 := ⟨by decide, ⟨TX8, 20, rfl⟩, GW_q7 83 (by decide +kernel) rfl, GW_sel 57 (by decide +kernel) rfl, ini_RX8, GW_q7 84 (by decide +kernel) rfl, by decide, by decide, by decide +kernel⟩
theorem lk_X8_185 : LKV RX8 185 mX8_digit 10 2 := lkv mk_X8_digit (GW_q7 81 (by decide +kernel) rfl)
theorem mk_X8_guestNumber : MVok mX8_guestNumber 10 0 := ⟨by decide, ⟨TX8, 20, rfl⟩, GW_q7 79 (by decide +kernel) rfl, GW_sel 56 (by decide +kernel) rfl, ini_RX8, GW_q7 80 (by decide +kernel) rfl, by decide, by decide, by decide +kernel⟩
theorem lk_X8_191 : LKV RX8 191 mX8_guestNumber 10 0 := lkv mk_X8_guestNumber (GW_q7 77 (by decide +kernel) rfl)
theorem mk_X8_take : MVok mX8_take 10 1 := ⟨by decide, ⟨TX8, 20, rfl⟩, GW_q7 87 (by decide +kernel) rfl, GW_sel 58 (by decide +kernel) rfl, ini_RX8, GW_q7 88 (by decide +kernel) rfl, by decide, by decide, by decide +kernel⟩
theorem lk_X8_194 : LKV RX8 194 mX8_take 10 1 := lkv mk_X8_take (GW_q7 85 (by decide +kernel) rfl)
theorem mk_X8_entry : MVok mX8_entry 10 0 := ⟨by decide, ⟨TX8, 20, rfl⟩, GW_q7 71 (by decide +kernel) rfl, GW_sel 54 (by decide +kernel) rfl, ini_RX8, GW_q7 72 (by decide +kernel) rfl, by decide, by decide, by decide +kernel⟩
theorem lk_X8_197 : LKV RX8 197 mX8_entry 10 0 := lkv mk_X8_entry (GW_q7 69 (by decide +kernel) rfl)
theorem mk_X8_isText : MVok mX8_isText 10 0 := ⟨by decide, ⟨TX8, 20, rfl⟩, GW_q7 67 (by decide +kernel) rfl, GW_sel 53 (by decide +kernel) rfl, ini_RX8, GW_q7 68 (by decide +kernel) rfl, by decide, by decide, by decide +kernel⟩
theorem lk_X8_200 : LKV RX8 200 mX8_isText 10 0 := lkv mk_X8_isText (GW_q7 65 (by decide +kernel) rfl)
theorem mk_X8_does : MVok mX8_does 10 1 := ⟨by decide, ⟨TX8, 20, rfl⟩, GW_q7 91 (by decide +kernel) rfl, GW_sel 59 (by decide +kernel) rfl, ini_RX8, GW_q7 92 (by decide +kernel) rfl, by decide, by decide, by decide +kernel⟩
theorem lk_X8_210 : LKV RX8 210 mX8_does 10 1 := lkv mk_X8_does (GW_q7 89 (by decide +kernel) rfl)
theorem lk_X0_223 : LKN RX0 223 "SlopeOperator" mX7_ticksFor 2 := ⟨TB_q4 181 (by decide +kernel), mk_X7_ticksFor⟩
theorem lk_X6_15 : LKN RX6 15 "SlopeOperator" mX7_isStation 1 := ⟨TB_q4 224 (by decide +kernel), mk_X7_isStation⟩
theorem lt_at_IndexOutOfBoundsException : ∀ w ∈ vx_atS RX7 71 "java/lang/IndexOutOfBoundsException" ["java/lang/RuntimeException", "java/lang/Exception"], w ∈ lw_tbl ∧ (goodWord w = true ∨ zNw w = true) := by decide +kernel
theorem lt_ot_IndexOutOfBoundsException : ∀ w ∈ Cond.classLink RX7 67 "java/lang/IndexOutOfBoundsException" :: Cond.initialized "java/lang/IndexOutOfBoundsException" :: vx_atS RX7 71 "java/lang/IndexOutOfBoundsException" ["java/lang/RuntimeException", "java/lang/Exception"], vx_ot w = true := by decide +kernel
theorem lt_at_IllegalArgumentException : ∀ w ∈ vx_atS RX7 82 "java/lang/IllegalArgumentException" ["java/lang/RuntimeException", "java/lang/Exception"], w ∈ lw_tbl ∧ (goodWord w = true ∨ zNw w = true) := by decide +kernel
theorem lt_ot_IllegalArgumentException : ∀ w ∈ Cond.classLink RX7 78 "java/lang/IllegalArgumentException" :: Cond.initialized "java/lang/IllegalArgumentException" :: vx_atS RX7 82 "java/lang/IllegalArgumentException" ["java/lang/RuntimeException", "java/lang/Exception"], vx_ot w = true := by decide +kernel
theorem lt_at_IllegalStateException : ∀ w ∈ vx_atS RX7 90 "java/lang/IllegalStateException" ["java/lang/RuntimeException", "java/lang/Exception"], w ∈ lw_tbl ∧ (goodWord w = true ∨ zNw w = true) := by decide +kernel
theorem lt_ot_IllegalStateException : ∀ w ∈ Cond.classLink RX7 86 "java/lang/IllegalStateException" :: Cond.initialized "java/lang/IllegalStateException" :: vx_atS RX7 90 "java/lang/IllegalStateException" ["java/lang/RuntimeException", "java/lang/Exception"], vx_ot w = true := by decide +kernel
theorem lt_at_UnsupportedOperationException : ∀ w ∈ vx_atS RX7 270 "java/lang/UnsupportedOperationException" ["java/lang/RuntimeException", "java/lang/Exception"], w ∈ lw_tbl ∧ (goodWord w = true ∨ zNw w = true) := by decide +kernel
theorem lt_ot_UnsupportedOperationException : ∀ w ∈ Cond.classLink RX7 266 "java/lang/UnsupportedOperationException" :: Cond.initialized "java/lang/UnsupportedOperationException" :: vx_atS RX7 270 "java/lang/UnsupportedOperationException" ["java/lang/RuntimeException", "java/lang/Exception"], vx_ot w = true := by decide +kernel
theorem lt_at_NoSuchElementException : ∀ w ∈ zn_at RX7 298, w ∈ lw_tbl ∧ (goodWord w = true ∨ zNw w = true) := by decide +kernel
theorem lt_ot_NoSuchElementException : ∀ w ∈ Cond.classLink RX7 294 "java/util/NoSuchElementException" :: Cond.initialized "java/util/NoSuchElementException" :: zn_at RX7 298, vx_ot w = true := by decide +kernel
theorem lt_at_ArithmeticException : ∀ w ∈ vx_atS RX7 389 "java/lang/ArithmeticException" ["java/lang/RuntimeException", "java/lang/Exception"], w ∈ lw_tbl ∧ (goodWord w = true ∨ zNw w = true) := by decide +kernel
theorem lt_ot_ArithmeticException : ∀ w ∈ Cond.classLink RX7 385 "java/lang/ArithmeticException" :: Cond.initialized "java/lang/ArithmeticException" :: vx_atS RX7 389 "java/lang/ArithmeticException" ["java/lang/RuntimeException", "java/lang/Exception"], vx_ot w = true := by decide +kernel
theorem lt_ArithmeticException_387 : LT RX7 "java/lang/ArithmeticException" "no cabin departed" 385 387 389 := ⟨GW_q5 90 (by decide +kernel) rfl, ini_JArithmeticException, TB_q5 91 (by decide +kernel), by decide +kernel, by decide +kernel, lt_at_ArithmeticException, lt_ot_ArithmeticException⟩
theorem lt_IllegalArgumentException_80 : LT RX7 "java/lang/IllegalArgumentException" "no such lift is possible" 78 80 82 := ⟨GW_q3 16 (by decide +kernel) rfl, ini_JIllegalArgumentException, TB_q3 25 (by decide +kernel), by decide +kernel, by decide +kernel, lt_at_IllegalArgumentException, lt_ot_IllegalArgumentException⟩
theorem lt_IllegalArgumentException_105 : LT RX7 "java/lang/IllegalArgumentException" "no such piste is possible" 78 105 82 := ⟨GW_q3 16 (by decide +kernel) rfl, ini_JIllegalArgumentException, TB_q3 70 (by decide +kernel), by decide +kernel, by decide +kernel, lt_at_IllegalArgumentException, lt_ot_IllegalArgumentException⟩
theorem lt_IllegalArgumentException_121 : LT RX7 "java/lang/IllegalArgumentException" "the wind is 0 to 9" 78 121 82 := ⟨GW_q3 16 (by decide +kernel) rfl, ini_JIllegalArgumentException, TB_q3 83 (by decide +kernel), by decide +kernel, by decide +kernel, lt_at_IllegalArgumentException, lt_ot_IllegalArgumentException⟩
theorem lt_IllegalArgumentException_168 : LT RX7 "java/lang/IllegalArgumentException" "what is 0 to 10" 78 168 82 := ⟨GW_q3 16 (by decide +kernel) rfl, ini_JIllegalArgumentException, TB_q3 117 (by decide +kernel), by decide +kernel, by decide +kernel, lt_at_IllegalArgumentException, lt_ot_IllegalArgumentException⟩
theorem lt_IllegalArgumentException_197 : LT RX7 "java/lang/IllegalArgumentException" "what is 0 to 7" 78 197 82 := ⟨GW_q3 16 (by decide +kernel) rfl, ini_JIllegalArgumentException, TB_q3 130 (by decide +kernel), by decide +kernel, by decide +kernel, lt_at_IllegalArgumentException, lt_ot_IllegalArgumentException⟩
theorem lt_IllegalArgumentException_216 : LT RX7 "java/lang/IllegalArgumentException" "what is 0 to 11" 78 216 82 := ⟨GW_q3 16 (by decide +kernel) rfl, ini_JIllegalArgumentException, TB_q3 162 (by decide +kernel), by decide +kernel, by decide +kernel, lt_at_IllegalArgumentException, lt_ot_IllegalArgumentException⟩
theorem lt_IllegalArgumentException_218 : LT RX7 "java/lang/IllegalArgumentException" "no such guest is possible" 78 218 82 := ⟨GW_q3 16 (by decide +kernel) rfl, ini_JIllegalArgumentException, TB_q3 170 (by decide +kernel), by decide +kernel, by decide +kernel, lt_at_IllegalArgumentException, lt_ot_IllegalArgumentException⟩
theorem lt_IllegalArgumentException_254 : LT RX7 "java/lang/IllegalArgumentException" "what is 0 to 6" 78 254 82 := ⟨GW_q3 16 (by decide +kernel) rfl, ini_JIllegalArgumentException, TB_q3 192 (by decide +kernel), by decide +kernel, by decide +kernel, lt_at_IllegalArgumentException, lt_ot_IllegalArgumentException⟩
theorem lt_IllegalArgumentException_308 : LT RX7 "java/lang/IllegalArgumentException" "the ticks are 1 to 50" 78 308 82 := ⟨GW_q3 16 (by decide +kernel) rfl, ini_JIllegalArgumentException, TB_q4 109 (by decide +kernel), by decide +kernel, by decide +kernel, lt_at_IllegalArgumentException, lt_ot_IllegalArgumentException⟩
theorem lt_IllegalArgumentException_361 : LT RX7 "java/lang/IllegalArgumentException" "the account is 0 or 1" 78 361 82 := ⟨GW_q3 16 (by decide +kernel) rfl, ini_JIllegalArgumentException, TB_q5 41 (by decide +kernel), by decide +kernel, by decide +kernel, lt_at_IllegalArgumentException, lt_ot_IllegalArgumentException⟩
theorem lt_IllegalArgumentException_372 : LT RX7 "java/lang/IllegalArgumentException" "the account is 0 to 2" 78 372 82 := ⟨GW_q3 16 (by decide +kernel) rfl, ini_JIllegalArgumentException, TB_q5 49 (by decide +kernel), by decide +kernel, by decide +kernel, lt_at_IllegalArgumentException, lt_ot_IllegalArgumentException⟩
theorem lt_IllegalArgumentException_390 : LT RX7 "java/lang/IllegalArgumentException" "the character code is 32 to 126" 78 390 82 := ⟨GW_q3 16 (by decide +kernel) rfl, ini_JIllegalArgumentException, TB_q5 100 (by decide +kernel), by decide +kernel, by decide +kernel, lt_at_IllegalArgumentException, lt_ot_IllegalArgumentException⟩
theorem lt_IllegalArgumentException_407 : LT RX7 "java/lang/IllegalArgumentException" "the input is not a text" 78 407 82 := ⟨GW_q3 16 (by decide +kernel) rfl, ini_JIllegalArgumentException, TB_q5 149 (by decide +kernel), by decide +kernel, by decide +kernel, lt_at_IllegalArgumentException, lt_ot_IllegalArgumentException⟩
theorem lt_IllegalStateException_88 : LT RX7 "java/lang/IllegalStateException" "there are 6 lifts" 86 88 90 := ⟨GW_q3 32 (by decide +kernel) rfl, ini_JIllegalStateException, TB_q3 41 (by decide +kernel), by decide +kernel, by decide +kernel, lt_at_IllegalStateException, lt_ot_IllegalStateException⟩
theorem lt_IllegalStateException_110 : LT RX7 "java/lang/IllegalStateException" "there are 10 pistes" 86 110 90 := ⟨GW_q3 32 (by decide +kernel) rfl, ini_JIllegalStateException, TB_q3 71 (by decide +kernel), by decide +kernel, by decide +kernel, lt_at_IllegalStateException, lt_ot_IllegalStateException⟩
theorem lt_IllegalStateException_199 : LT RX7 "java/lang/IllegalStateException" "the piste is worn out" 86 199 90 := ⟨GW_q3 32 (by decide +kernel) rfl, ini_JIllegalStateException, TB_q3 138 (by decide +kernel), by decide +kernel, by decide +kernel, lt_at_IllegalStateException, lt_ot_IllegalStateException⟩
theorem lt_IllegalStateException_201 : LT RX7 "java/lang/IllegalStateException" "the piste is not closed" 86 201 90 := ⟨GW_q3 32 (by decide +kernel) rfl, ini_JIllegalStateException, TB_q3 146 (by decide +kernel), by decide +kernel, by decide +kernel, lt_at_IllegalStateException, lt_ot_IllegalStateException⟩
theorem lt_IllegalStateException_220 : LT RX7 "java/lang/IllegalStateException" "there are 16 guests" 86 220 90 := ⟨GW_q3 32 (by decide +kernel) rfl, ini_JIllegalStateException, TB_q3 171 (by decide +kernel), by decide +kernel, by decide +kernel, lt_at_IllegalStateException, lt_ot_IllegalStateException⟩
theorem lt_IllegalStateException_285 : LT RX7 "java/lang/IllegalStateException" "the guest rides, skis or is away" 86 285 90 := ⟨GW_q3 32 (by decide +kernel) rfl, ini_JIllegalStateException, TB_q4 27 (by decide +kernel), by decide +kernel, by decide +kernel, lt_at_IllegalStateException, lt_ot_IllegalStateException⟩
theorem lt_IllegalStateException_310 : LT RX7 "java/lang/IllegalStateException" "the tick number would be greater than 1000" 86 310 90 := ⟨GW_q3 32 (by decide +kernel) rfl, ini_JIllegalStateException, TB_q4 110 (by decide +kernel), by decide +kernel, by decide +kernel, lt_at_IllegalStateException, lt_ot_IllegalStateException⟩
theorem lt_IllegalStateException_315 : LT RX7 "java/lang/IllegalStateException" "the day number is 1000" 86 315 90 := ⟨GW_q3 32 (by decide +kernel) rfl, ini_JIllegalStateException, TB_q4 159 (by decide +kernel), by decide +kernel, by decide +kernel, lt_at_IllegalStateException, lt_ot_IllegalStateException⟩
theorem lt_IllegalStateException_393 : LT RX7 "java/lang/IllegalStateException" "the input has 60 characters" 86 393 90 := ⟨GW_q3 32 (by decide +kernel) rfl, ini_JIllegalStateException, TB_q5 101 (by decide +kernel), by decide +kernel, by decide +kernel, lt_at_IllegalStateException, lt_ot_IllegalStateException⟩
theorem lt_IllegalStateException_418 : LT RX7 "java/lang/IllegalStateException" "an entry cannot be done" 86 418 90 := ⟨GW_q3 32 (by decide +kernel) rfl, ini_JIllegalStateException, TB_q5 171 (by decide +kernel), by decide +kernel, by decide +kernel, lt_at_IllegalStateException, lt_ot_IllegalStateException⟩
theorem lt_IllegalStateException_430 : LT RX7 "java/lang/IllegalStateException" "nothing was saved" 86 430 90 := ⟨GW_q3 32 (by decide +kernel) rfl, ini_JIllegalStateException, TB_q5 199 (by decide +kernel), by decide +kernel, by decide +kernel, lt_at_IllegalStateException, lt_ot_IllegalStateException⟩
theorem lt_IndexOutOfBoundsException_69 : LT RX7 "java/lang/IndexOutOfBoundsException" "no such station" 67 69 71 := ⟨GW_q3 3 (by decide +kernel) rfl, ini_JIndexOutOfBoundsException, TB_q3 12 (by decide +kernel), by decide +kernel, by decide +kernel, lt_at_IndexOutOfBoundsException, lt_ot_IndexOutOfBoundsException⟩
theorem lt_IndexOutOfBoundsException_134 : LT RX7 "java/lang/IndexOutOfBoundsException" "no such lift" 67 134 71 := ⟨GW_q3 3 (by decide +kernel) rfl, ini_JIndexOutOfBoundsException, TB_q3 107 (by decide +kernel), by decide +kernel, by decide +kernel, lt_at_IndexOutOfBoundsException, lt_ot_IndexOutOfBoundsException⟩
theorem lt_IndexOutOfBoundsException_174 : LT RX7 "java/lang/IndexOutOfBoundsException" "no such piste" 67 174 71 := ⟨GW_q3 3 (by decide +kernel) rfl, ini_JIndexOutOfBoundsException, TB_q3 129 (by decide +kernel), by decide +kernel, by decide +kernel, lt_at_IndexOutOfBoundsException, lt_ot_IndexOutOfBoundsException⟩
theorem lt_IndexOutOfBoundsException_230 : LT RX7 "java/lang/IndexOutOfBoundsException" "no such guest" 67 230 71 := ⟨GW_q3 3 (by decide +kernel) rfl, ini_JIndexOutOfBoundsException, TB_q3 191 (by decide +kernel), by decide +kernel, by decide +kernel, lt_at_IndexOutOfBoundsException, lt_ot_IndexOutOfBoundsException⟩
theorem lt_IndexOutOfBoundsException_256 : LT RX7 "java/lang/IndexOutOfBoundsException" "no such guest or lift" 67 256 71 := ⟨GW_q3 3 (by decide +kernel) rfl, ini_JIndexOutOfBoundsException, TB_q3 201 (by decide +kernel), by decide +kernel, by decide +kernel, lt_at_IndexOutOfBoundsException, lt_ot_IndexOutOfBoundsException⟩
theorem lt_IndexOutOfBoundsException_275 : LT RX7 "java/lang/IndexOutOfBoundsException" "no such guest or piste" 67 275 71 := ⟨GW_q3 3 (by decide +kernel) rfl, ini_JIndexOutOfBoundsException, TB_q4 3 (by decide +kernel), by decide +kernel, by decide +kernel, lt_at_IndexOutOfBoundsException, lt_ot_IndexOutOfBoundsException⟩
theorem lt_IndexOutOfBoundsException_333 : LT RX7 "java/lang/IndexOutOfBoundsException" "no such guest or station" 67 333 71 := ⟨GW_q3 3 (by decide +kernel) rfl, ini_JIndexOutOfBoundsException, TB_q4 206 (by decide +kernel), by decide +kernel, by decide +kernel, lt_at_IndexOutOfBoundsException, lt_ot_IndexOutOfBoundsException⟩
theorem lt_UnsupportedOperationException_268 : LT RX7 "java/lang/UnsupportedOperationException" "refused" 266 268 270 := ⟨GW_q3 215 (by decide +kernel) rfl, ini_JUnsupportedOperationException, TB_q3 224 (by decide +kernel), by decide +kernel, by decide +kernel, lt_at_UnsupportedOperationException, lt_ot_UnsupportedOperationException⟩
theorem lt_NoSuchElementException_296 : LTN RX7 "no reason was kept" 294 296 298 := ⟨GW_q4 63 (by decide +kernel) rfl, ini_JNoSuchElementException, TB_q4 72 (by decide +kernel), lt_at_NoSuchElementException, lt_ot_NoSuchElementException⟩
theorem lt_NoSuchElementException_306 : LTN RX7 "no such place in the queue" 294 306 298 := ⟨GW_q4 63 (by decide +kernel) rfl, ini_JNoSuchElementException, TB_q4 101 (by decide +kernel), lt_at_NoSuchElementException, lt_ot_NoSuchElementException⟩
theorem lt_NoSuchElementException_323 : LTN RX7 "the guest does not come to a station" 294 323 298 := ⟨GW_q4 63 (by decide +kernel) rfl, ini_JNoSuchElementException, TB_q4 188 (by decide +kernel), lt_at_NoSuchElementException, lt_ot_NoSuchElementException⟩
theorem lt_NoSuchElementException_325 : LTN RX7 "the lift is held" 294 325 298 := ⟨GW_q4 63 (by decide +kernel) rfl, ini_JNoSuchElementException, TB_q4 196 (by decide +kernel), lt_at_NoSuchElementException, lt_ot_NoSuchElementException⟩
theorem lt_NoSuchElementException_343 : LTN RX7 "there is no way" 294 343 298 := ⟨GW_q4 63 (by decide +kernel) rfl, ini_JNoSuchElementException, TB_q4 236 (by decide +kernel), lt_at_NoSuchElementException, lt_ot_NoSuchElementException⟩
theorem lt_NoSuchElementException_383 : LTN RX7 "no guest rode" 294 383 298 := ⟨GW_q4 63 (by decide +kernel) rfl, ini_JNoSuchElementException, TB_q5 68 (by decide +kernel), lt_at_NoSuchElementException, lt_ot_NoSuchElementException⟩
theorem lt_NoSuchElementException_420 : LTN RX7 "no error position was kept" 294 420 298 := ⟨GW_q4 63 (by decide +kernel) rfl, ini_JNoSuchElementException, TB_q5 179 (by decide +kernel), lt_at_NoSuchElementException, lt_ot_NoSuchElementException⟩
theorem lt_NoSuchElementException_425 : LTN RX7 "no change is remembered" 294 425 298 := ⟨GW_q4 63 (by decide +kernel) rfl, ini_JNoSuchElementException, TB_q5 187 (by decide +kernel), lt_at_NoSuchElementException, lt_ot_NoSuchElementException⟩
theorem lc_X7_342 : Cond.constant RX7 342 1000000 ∈ GW := GW_q4 235 (by decide +kernel) rfl
theorem lc_X6_19 : Cond.constant RX6 19 1000000 ∈ GW := GW_q4 211 (by decide +kernel) rfl
theorem lc_X8_155 : Cond.constant RX8 155 1000000 ∈ GW := GW_q7 11 (by decide +kernel) rfl
