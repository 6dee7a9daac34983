/-! ===== the constructors: methods and words (by program) ===== -/
abbrev nX4 : MD := (yX4_init, cX4_init, 1, none, ({ frames := 1, cells := 0, slots := 0, locals := 12 } : Room), [])
abbrev nX5 : MD := (yX5_init, cX5_init, 1, none, ({ frames := 1, cells := 0, slots := 0, locals := 12 } : Room), [])
abbrev nX1 : MD := (yX1_init, cX1_init, 1, none, ({ frames := 1, cells := 0, slots := 0, locals := 12 } : Room), [])
abbrev nX3 : MD := (yX3_init, cX3_init, 1, none, ({ frames := 1, cells := 1, slots := 60, locals := 12 } : Room), [])
abbrev nX6 : MD := (yX6_init, cX6_init, 1, none, ({ frames := 1, cells := 1, slots := 8, locals := 12 } : Room), [])
abbrev nX0 : MD := (yX0_init, cX0_init, 2, none, ({ frames := 2, cells := 35, slots := 348, locals := 40 } : Room), [])
abbrev nX2 : MD := (yX2_init, cX2_init, 2, none, ({ frames := 3, cells := 289, slots := 2864, locals := 70 } : Room), [])
abbrev nX7 : MD := (yX7_init, cX7_init, 1, none, ({ frames := 4, cells := 402, slots := 4014, locals := 100 } : Room), [])
abbrev nX8 : MD := (yX8_init, cX8_init, 1, none, ({ frames := 1, cells := 9, slots := 4340, locals := 12 } : Room), [])
theorem oi_inst : Cond.instanceMethod Lib.objectInit ∈ GW := GW_q1 28 (by decide +kernel) rfl
theorem oi_code : Cond.code Lib.objectInit ⟨#[0xb1]⟩ 1 none ∈ GW := GW_q1 29 (by decide +kernel) rfl
theorem oi_X7_3 : Cond.methodLink RX7 3 Lib.objectInit ∈ GW := GW_q1 27 (by decide +kernel) rfl
theorem oi_X0_3 : Cond.methodLink RX0 3 Lib.objectInit ∈ GW := GW_q1 35 (by decide +kernel) rfl
theorem oi_X1_3 : Cond.methodLink RX1 3 Lib.objectInit ∈ GW := GW_q1 151 (by decide +kernel) rfl
theorem oi_X2_3 : Cond.methodLink RX2 3 Lib.objectInit ∈ GW := GW_q2 12 (by decide +kernel) rfl
theorem oi_X3_3 : Cond.methodLink RX3 3 Lib.objectInit ∈ GW := GW_q2 32 (by decide +kernel) rfl
theorem oi_X4_1 : Cond.methodLink RX4 1 Lib.objectInit ∈ GW := GW_q1 42 (by decide +kernel) rfl
theorem oi_X5_3 : Cond.methodLink RX5 3 Lib.objectInit ∈ GW := GW_q1 102 (by decide +kernel) rfl
theorem oi_X6_3 : Cond.methodLink RX6 3 Lib.objectInit ∈ GW := GW_q2 67 (by decide +kernel) rfl
theorem oi_X8_1 : Cond.methodLink RX8 1 Lib.objectInit ∈ GW := GW_q5 205 (by decide +kernel) rfl
theorem li_X7_11 : LKI RX7 11 nX0 := ⟨rfl, rfl, GW_q1 32 (by decide +kernel) rfl, GW_q1 33 (by decide +kernel) rfl, ini_RX0, GW_q1 34 (by decide +kernel) rfl, by decide, by decide, by decide +kernel⟩
theorem li_X7_24 : LKI RX7 24 nX2 := ⟨rfl, rfl, GW_q2 9 (by decide +kernel) rfl, GW_q2 10 (by decide +kernel) rfl, ini_RX2, GW_q2 11 (by decide +kernel) rfl, by decide, by decide, by decide +kernel⟩
theorem li_X7_31 : LKI RX7 31 nX3 := ⟨rfl, rfl, GW_q2 29 (by decide +kernel) rfl, GW_q2 30 (by decide +kernel) rfl, ini_RX3, GW_q2 31 (by decide +kernel) rfl, by decide, by decide, by decide +kernel⟩
theorem li_X7_38 : LKI RX7 38 nX6 := ⟨rfl, rfl, GW_q2 64 (by decide +kernel) rfl, GW_q2 65 (by decide +kernel) rfl, ini_RX6, GW_q2 66 (by decide +kernel) rfl, by decide, by decide, by decide +kernel⟩
theorem li_X2_17 : LKI RX2 17 nX0 := ⟨rfl, rfl, GW_q2 15 (by decide +kernel) rfl, GW_q1 33 (by decide +kernel) rfl, ini_RX0, GW_q1 34 (by decide +kernel) rfl, by decide, by decide, by decide +kernel⟩
theorem li_L_139 : LKI RL 139 nX7 := ⟨rfl, rfl, GW_q1 24 (by decide +kernel) rfl, GW_q1 25 (by decide +kernel) rfl, ini_RX7, GW_q1 26 (by decide +kernel) rfl, by decide, by decide, by decide +kernel⟩
theorem li_L_142 : LKI RL 142 nX8 := ⟨rfl, rfl, GW_q5 202 (by decide +kernel) rfl, GW_q5 203 (by decide +kernel) rfl, ini_RX8, GW_q5 204 (by decide +kernel) rfl, by decide, by decide, by decide +kernel⟩
theorem ln_X0_17 : LKIN RX0 17 "SlopeOperator" nX4 := ⟨rfl, rfl, TB_q1 39 (by decide +kernel), GW_q1 40 (by decide +kernel) rfl, ini_RX4, GW_q1 41 (by decide +kernel) rfl, by decide, by decide, by decide +kernel⟩
theorem ln_X0_24 : LKIN RX0 24 "SlopeOperator" nX5 := ⟨rfl, rfl, TB_q1 99 (by decide +kernel), GW_q1 100 (by decide +kernel) rfl, ini_RX5, GW_q1 101 (by decide +kernel) rfl, by decide, by decide, by decide +kernel⟩
theorem ln_X0_31 : LKIN RX0 31 "SlopeOperator" nX1 := ⟨rfl, rfl, TB_q1 148 (by decide +kernel), GW_q1 149 (by decide +kernel) rfl, ini_RX1, GW_q1 150 (by decide +kernel) rfl, by decide, by decide, by decide +kernel⟩
theorem ki_X7_9 : Cond.classLink RX7 9 RX0 ∈ GW := GW_q1 30 (by decide +kernel) rfl
theorem ki_X7_22 : Cond.classLink RX7 22 RX2 ∈ GW := GW_q2 7 (by decide +kernel) rfl
theorem ki_X7_29 : Cond.classLink RX7 29 RX3 ∈ GW := GW_q2 27 (by decide +kernel) rfl
theorem ki_X7_36 : Cond.classLink RX7 36 RX6 ∈ GW := GW_q2 62 (by decide +kernel) rfl
theorem ki_X0_9 : Cond.classLink RX0 9 RX4 ∈ GW := GW_q1 36 (by decide +kernel) rfl
theorem ki_X0_18 : Cond.classLink RX0 18 RX5 ∈ GW := GW_q1 96 (by decide +kernel) rfl
theorem ki_X0_25 : Cond.classLink RX0 25 RX1 ∈ GW := GW_q1 145 (by decide +kernel) rfl
theorem ki_X2_9 : Cond.classLink RX2 9 RX0 ∈ GW := GW_q2 13 (by decide +kernel) rfl
theorem ki_L_8 : Cond.classLink RL 8 RX7 ∈ GW := GW_q1 22 (by decide +kernel) rfl
theorem ki_L_140 : Cond.classLink RL 140 RX8 ∈ GW := GW_q5 200 (by decide +kernel) rfl
theorem in_X7 : Cond.instantiable RX7 9 ∈ GW := GW_q1 23 (by decide +kernel) rfl
theorem in_X0 : Cond.instantiable RX0 9 ∈ GW := GW_q1 31 (by decide +kernel) rfl
theorem ao_X4 : Cond.arrayOver (.object RX4) ∈ lw_tbl := TB_q1 37 (by decide +kernel)
theorem in_X4 : Cond.instantiable RX4 10 ∈ GW := GW_q1 38 (by decide +kernel) rfl
theorem ao_X5 : Cond.arrayOver (.object RX5) ∈ lw_tbl := TB_q1 97 (by decide +kernel)
theorem in_X5 : Cond.instantiable RX5 8 ∈ GW := GW_q1 98 (by decide +kernel) rfl
theorem ao_X1 : Cond.arrayOver (.object RX1) ∈ lw_tbl := TB_q1 146 (by decide +kernel)
theorem in_X1 : Cond.instantiable RX1 11 ∈ GW := GW_q1 147 (by decide +kernel) rfl
theorem in_X2 : Cond.instantiable RX2 3 ∈ GW := GW_q2 8 (by decide +kernel) rfl
theorem ao_X0 : Cond.arrayOver (.object RX0) ∈ lw_tbl := TB_q2 14 (by decide +kernel)
theorem in_X3 : Cond.instantiable RX3 7 ∈ GW := GW_q2 28 (by decide +kernel) rfl
theorem ar_char : Cond.arrayClass (newarray.typeOf .char) ∈ GW := GW_q2 61 (by decide +kernel) rfl
theorem in_X6 : Cond.instantiable RX6 1 ∈ GW := GW_q2 63 (by decide +kernel) rfl
theorem ar_int : Cond.arrayClass (newarray.typeOf .int) ∈ GW := GW_q2 72 (by decide +kernel) rfl
theorem in_X8 : Cond.instantiable RX8 20 ∈ GW := GW_q5 201 (by decide +kernel) rfl
theorem ar_long : Cond.arrayClass (newarray.typeOf .long) ∈ GW := GW_q7 109 (by decide +kernel) rfl
theorem ar_double : Cond.arrayClass (newarray.typeOf .double) ∈ GW := GW_q7 110 (by decide +kernel) rfl
theorem ff_X7_12 : FLf RX7 12 9 0 (tyX7 0) := ⟨by decide, TX7, 9, tyX7, rfl, by decide, iw_X7, tyX7_ok, nmX7, rfl, GW_q2 73 (by decide +kernel) rfl, rfl, rfl⟩
theorem ff_X7_16 : FLf RX7 16 9 1 (tyX7 1) := ⟨by decide, TX7, 9, tyX7, rfl, by decide, iw_X7, tyX7_ok, nmX7, rfl, GW_q2 74 (by decide +kernel) rfl, rfl, rfl⟩
theorem ff_X7_19 : FLf RX7 19 9 2 (tyX7 2) := ⟨by decide, TX7, 9, tyX7, rfl, by decide, iw_X7, tyX7_ok, nmX7, rfl, GW_q2 75 (by decide +kernel) rfl, rfl, rfl⟩
theorem ff_X7_25 : FLf RX7 25 9 3 (tyX7 3) := ⟨by decide, TX7, 9, tyX7, rfl, by decide, iw_X7, tyX7_ok, nmX7, rfl, GW_q2 76 (by decide +kernel) rfl, rfl, rfl⟩
theorem ff_X7_32 : FLf RX7 32 9 4 (tyX7 4) := ⟨by decide, TX7, 9, tyX7, rfl, by decide, iw_X7, tyX7_ok, nmX7, rfl, GW_q2 77 (by decide +kernel) rfl, rfl, rfl⟩
theorem ff_X7_39 : FLf RX7 39 9 5 (tyX7 5) := ⟨by decide, TX7, 9, tyX7, rfl, by decide, iw_X7, tyX7_ok, nmX7, rfl, GW_q2 78 (by decide +kernel) rfl, rfl, rfl⟩
theorem ff_X0_11 : FLf RX0 11 2 0 (tyX0 0) := ⟨by decide, TX0, 9, tyX0, rfl, by decide, iw_X0, tyX0_ok, nmX0, rfl, GW_q1 207 (by decide +kernel) rfl, rfl, rfl⟩
theorem ff_X0_20 : FLf RX0 20 2 1 (tyX0 1) := ⟨by decide, TX0, 9, tyX0, rfl, by decide, iw_X0, tyX0_ok, nmX0, rfl, GW_q1 210 (by decide +kernel) rfl, rfl, rfl⟩
theorem ff_X0_27 : FLf RX0 27 2 2 (tyX0 2) := ⟨by decide, TX0, 9, tyX0, rfl, by decide, iw_X0, tyX0_ok, nmX0, rfl, GW_q1 213 (by decide +kernel) rfl, rfl, rfl⟩
theorem ff_X2_11 : FLf RX2 11 4 0 (tyX2 0) := ⟨by decide, TX2, 3, tyX2, rfl, by decide, iw_X2, tyX2_ok, nmX2, rfl, GW_q2 16 (by decide +kernel) rfl, rfl, rfl⟩
theorem ff_X3_9 : FLf RX3 9 5 0 (tyX3 0) := ⟨by decide, TX3, 7, tyX3, rfl, by decide, iw_X3, tyX3_ok, nmX3, rfl, GW_q2 33 (by decide +kernel) rfl, rfl, rfl⟩
theorem ff_X6_9 : FLf RX6 9 8 0 (tyX6 0) := ⟨by decide, TX6, 1, tyX6, rfl, by decide, iw_X6, tyX6_ok, nmX6, rfl, GW_q2 68 (by decide +kernel) rfl, rfl, rfl⟩
theorem ff_X8_9 : FLf RX8 9 10 0 (tyX8 0) := ⟨by decide, TX8, 20, tyX8, rfl, by decide, iw_X8, tyX8_ok, nmX8, rfl, GW_q5 206 (by decide +kernel) rfl, rfl, rfl⟩
theorem ff_X8_13 : FLf RX8 13 10 1 (tyX8 1) := ⟨by decide, TX8, 20, tyX8, rfl, by decide, iw_X8, tyX8_ok, nmX8, rfl, GW_q5 207 (by decide +kernel) rfl, rfl, rfl⟩
theorem ff_X8_16 : FLf RX8 16 10 3 (tyX8 3) := ⟨by decide, TX8, 20, tyX8, rfl, by decide, iw_X8, tyX8_ok, nmX8, rfl, GW_q5 209 (by decide +kernel) rfl, rfl, rfl⟩
theorem ff_X8_19 : FLf RX8 19 10 8 (tyX8 8) := ⟨by decide, TX8, 20, tyX8, rfl, by decide, iw_X8, tyX8_ok, nmX8, rfl, GW_q5 214 (by decide +kernel) rfl, rfl, rfl⟩
theorem ff_X8_22 : FLf RX8 22 10 9 (tyX8 9) := ⟨by decide, TX8, 20, tyX8, rfl, by decide, iw_X8, tyX8_ok, nmX8, rfl, GW_q5 215 (by decide +kernel) rfl, rfl, rfl⟩
theorem ff_X8_25 : FLf RX8 25 10 11 (tyX8 11) := ⟨by decide, TX8, 20, tyX8, rfl, by decide, iw_X8, tyX8_ok, nmX8, rfl, GW_q5 217 (by decide +kernel) rfl, rfl, rfl⟩
theorem ff_X8_28 : FLf RX8 28 10 17 (tyX8 17) := ⟨by decide, TX8, 20, tyX8, rfl, by decide, iw_X8, tyX8_ok, nmX8, rfl, GW_q5 223 (by decide +kernel) rfl, rfl, rfl⟩
theorem ff_X8_31 : FLf RX8 31 10 18 (tyX8 18) := ⟨by decide, TX8, 20, tyX8, rfl, by decide, iw_X8, tyX8_ok, nmX8, rfl, GW_q5 224 (by decide +kernel) rfl, rfl, rfl⟩
theorem ff_X8_34 : FLf RX8 34 10 19 (tyX8 19) := ⟨by decide, TX8, 20, tyX8, rfl, by decide, iw_X8, tyX8_ok, nmX8, rfl, GW_q5 225 (by decide +kernel) rfl, rfl, rfl⟩
