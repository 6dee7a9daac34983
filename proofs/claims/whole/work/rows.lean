section
-- ===== PART A: goes FIRST, ahead of the names: the tables' words, and 'selects' of the private methods out of them =====
/-- a private method of a class that the tables say can be made, by its rows of tables_1 -/
def lw_okq (q : MethodName × Nat) : Prop := (q.1.cls ≠ "java/lang/invoke/MethodHandle" ∧ q.1.cls ≠ "java/lang/invoke/VarHandle") ∧ Cond.instantiable q.1.cls q.2 ∈ tables_1 ∧ Cond.privateMethod q.1 ∈ tables_1 ∧ Cond.instanceMethod q.1 ∈ tables_1
theorem lw_p0 : lw_okq (⟨"java/lang/Throwable", "fillInStackTrace", "(I)Ljava/lang/Throwable;"⟩, 6) := ⟨⟨by decide +kernel, by decide +kernel⟩, List.mem_of_getElem? (i := 426) (by decide +kernel), List.mem_of_getElem? (i := 424) (by decide +kernel), List.mem_of_getElem? (i := 425) (by decide +kernel)⟩
theorem lw_p1 : lw_okq (⟨"SlopeOperator", "keepRefusal", "(LSlopeOperator$Guest;I)V"⟩, 9) := ⟨⟨by decide +kernel, by decide +kernel⟩, List.mem_of_getElem? (i := 23) (by decide +kernel), List.mem_of_getElem? (i := 692) (by decide +kernel), List.mem_of_getElem? (i := 693) (by decide +kernel)⟩
theorem lw_p2 : lw_okq (⟨"SlopeOperator$Area", "moveRiders", "()I"⟩, 9) := ⟨⟨by decide +kernel, by decide +kernel⟩, List.mem_of_getElem? (i := 31) (by decide +kernel), List.mem_of_getElem? (i := 836) (by decide +kernel), List.mem_of_getElem? (i := 837) (by decide +kernel)⟩
theorem lw_p3 : lw_okq (⟨"SlopeOperator$Area", "moveSkiers", "()I"⟩, 9) := ⟨⟨by decide +kernel, by decide +kernel⟩, List.mem_of_getElem? (i := 31) (by decide +kernel), List.mem_of_getElem? (i := 840) (by decide +kernel), List.mem_of_getElem? (i := 841) (by decide +kernel)⟩
theorem lw_p4 : lw_okq (⟨"SlopeOperator$Area", "turnLifts", "()V"⟩, 9) := ⟨⟨by decide +kernel, by decide +kernel⟩, List.mem_of_getElem? (i := 31) (by decide +kernel), List.mem_of_getElem? (i := 845) (by decide +kernel), List.mem_of_getElem? (i := 846) (by decide +kernel)⟩
theorem lw_p5 : lw_okq (⟨"SlopeOperator$Area", "boardCabin", "(LSlopeOperator$Lift;I)V"⟩, 9) := ⟨⟨by decide +kernel, by decide +kernel⟩, List.mem_of_getElem? (i := 31) (by decide +kernel), List.mem_of_getElem? (i := 853) (by decide +kernel), List.mem_of_getElem? (i := 854) (by decide +kernel)⟩
theorem lw_p6 : lw_okq (⟨"SlopeOperator$Area", "groomPistes", "()V"⟩, 9) := ⟨⟨by decide +kernel, by decide +kernel⟩, List.mem_of_getElem? (i := 31) (by decide +kernel), List.mem_of_getElem? (i := 861) (by decide +kernel), List.mem_of_getElem? (i := 862) (by decide +kernel)⟩
theorem lw_p7 : lw_okq (⟨"SlopeOperator$Area", "closeWornPistes", "()V"⟩, 9) := ⟨⟨by decide +kernel, by decide +kernel⟩, List.mem_of_getElem? (i := 31) (by decide +kernel), List.mem_of_getElem? (i := 869) (by decide +kernel), List.mem_of_getElem? (i := 870) (by decide +kernel)⟩
theorem lw_p8 : lw_okq (⟨"SlopeOperator$Area", "ticksOnLift", "(LSlopeOperator$Lift;I)I"⟩, 9) := ⟨⟨by decide +kernel, by decide +kernel⟩, List.mem_of_getElem? (i := 31) (by decide +kernel), List.mem_of_getElem? (i := 898) (by decide +kernel), List.mem_of_getElem? (i := 899) (by decide +kernel)⟩
theorem lw_p9 : lw_okq (⟨"SlopeOperator$Area", "ticksFromQueue", "(LSlopeOperator$Lift;I)I"⟩, 9) := ⟨⟨by decide +kernel, by decide +kernel⟩, List.mem_of_getElem? (i := 31) (by decide +kernel), List.mem_of_getElem? (i := 905) (by decide +kernel), List.mem_of_getElem? (i := 906) (by decide +kernel)⟩
theorem lw_p10 : lw_okq (⟨"SlopeOperator$Ways", "shorten", "(LSlopeOperator$Area;LSlopeOperator$Guest;)Z"⟩, 1) := ⟨⟨by decide +kernel, by decide +kernel⟩, List.mem_of_getElem? (i := 303) (by decide +kernel), List.mem_of_getElem? (i := 933) (by decide +kernel), List.mem_of_getElem? (i := 934) (by decide +kernel)⟩
theorem lw_p11 : lw_okq (⟨"SlopeOperator$Ways", "shortenFrom", "(II)Z"⟩, 1) := ⟨⟨by decide +kernel, by decide +kernel⟩, List.mem_of_getElem? (i := 303) (by decide +kernel), List.mem_of_getElem? (i := 946) (by decide +kernel), List.mem_of_getElem? (i := 947) (by decide +kernel)⟩
theorem lw_p12 : lw_okq (⟨"SlopeOperator$Ways", "spread", "(LSlopeOperator$Area;LSlopeOperator$Guest;I)I"⟩, 1) := ⟨⟨by decide +kernel, by decide +kernel⟩, List.mem_of_getElem? (i := 303) (by decide +kernel), List.mem_of_getElem? (i := 980) (by decide +kernel), List.mem_of_getElem? (i := 981) (by decide +kernel)⟩
theorem lw_p13 : lw_okq (⟨"SlopeOperator$Input", "isHere", "(CC)Z"⟩, 7) := ⟨⟨by decide +kernel, by decide +kernel⟩, List.mem_of_getElem? (i := 268) (by decide +kernel), List.mem_of_getElem? (i := 1082) (by decide +kernel), List.mem_of_getElem? (i := 1083) (by decide +kernel)⟩
theorem lw_p14 : lw_okq (⟨"SlopeOperator$Input", "takeNumber", "(CC)Z"⟩, 7) := ⟨⟨by decide +kernel, by decide +kernel⟩, List.mem_of_getElem? (i := 268) (by decide +kernel), List.mem_of_getElem? (i := 1086) (by decide +kernel), List.mem_of_getElem? (i := 1087) (by decide +kernel)⟩
theorem lw_p15 : lw_okq (⟨"SlopeOperator$Input", "takeDigit", "(CC)I"⟩, 7) := ⟨⟨by decide +kernel, by decide +kernel⟩, List.mem_of_getElem? (i := 268) (by decide +kernel), List.mem_of_getElem? (i := 1090) (by decide +kernel), List.mem_of_getElem? (i := 1091) (by decide +kernel)⟩
def lw_privs_1 : List (MethodName × Nat) := [(⟨"java/lang/Throwable", "fillInStackTrace", "(I)Ljava/lang/Throwable;"⟩, 6), (⟨"SlopeOperator", "keepRefusal", "(LSlopeOperator$Guest;I)V"⟩, 9), (⟨"SlopeOperator$Area", "moveRiders", "()I"⟩, 9), (⟨"SlopeOperator$Area", "moveSkiers", "()I"⟩, 9), (⟨"SlopeOperator$Area", "turnLifts", "()V"⟩, 9), (⟨"SlopeOperator$Area", "boardCabin", "(LSlopeOperator$Lift;I)V"⟩, 9), (⟨"SlopeOperator$Area", "groomPistes", "()V"⟩, 9), (⟨"SlopeOperator$Area", "closeWornPistes", "()V"⟩, 9), (⟨"SlopeOperator$Area", "ticksOnLift", "(LSlopeOperator$Lift;I)I"⟩, 9), (⟨"SlopeOperator$Area", "ticksFromQueue", "(LSlopeOperator$Lift;I)I"⟩, 9), (⟨"SlopeOperator$Ways", "shorten", "(LSlopeOperator$Area;LSlopeOperator$Guest;)Z"⟩, 1), (⟨"SlopeOperator$Ways", "shortenFrom", "(II)Z"⟩, 1), (⟨"SlopeOperator$Ways", "spread", "(LSlopeOperator$Area;LSlopeOperator$Guest;I)I"⟩, 1), (⟨"SlopeOperator$Input", "isHere", "(CC)Z"⟩, 7), (⟨"SlopeOperator$Input", "takeNumber", "(CC)Z"⟩, 7), (⟨"SlopeOperator$Input", "takeDigit", "(CC)I"⟩, 7)]
theorem lw_r1 : ∀ q ∈ lw_privs_1, lw_okq q := List.forall_mem_cons.mpr ⟨lw_p0, List.forall_mem_cons.mpr ⟨lw_p1, List.forall_mem_cons.mpr ⟨lw_p2, List.forall_mem_cons.mpr ⟨lw_p3, List.forall_mem_cons.mpr ⟨lw_p4, List.forall_mem_cons.mpr ⟨lw_p5, List.forall_mem_cons.mpr ⟨lw_p6, List.forall_mem_cons.mpr ⟨lw_p7, List.forall_mem_cons.mpr ⟨lw_p8, List.forall_mem_cons.mpr ⟨lw_p9, List.forall_mem_cons.mpr ⟨lw_p10, List.forall_mem_cons.mpr ⟨lw_p11, List.forall_mem_cons.mpr ⟨lw_p12, List.forall_mem_cons.mpr ⟨lw_p13, List.forall_mem_cons.mpr ⟨lw_p14, List.forall_mem_cons.mpr ⟨lw_p15, fun _ h => absurd h List.not_mem_nil⟩⟩⟩⟩⟩⟩⟩⟩⟩⟩⟩⟩⟩⟩⟩⟩
theorem lw_p16 : lw_okq (⟨"SlopeOperator$Input", "takeTarget", "(CC)Z"⟩, 7) := ⟨⟨by decide +kernel, by decide +kernel⟩, List.mem_of_getElem? (i := 268) (by decide +kernel), List.mem_of_getElem? (i := 1094) (by decide +kernel), List.mem_of_getElem? (i := 1095) (by decide +kernel)⟩
theorem lw_p17 : lw_okq (⟨"SlopeOperator$Input", "takeSign", "(C)Z"⟩, 7) := ⟨⟨by decide +kernel, by decide +kernel⟩, List.mem_of_getElem? (i := 268) (by decide +kernel), List.mem_of_getElem? (i := 1098) (by decide +kernel), List.mem_of_getElem? (i := 1099) (by decide +kernel)⟩
theorem lw_p18 : lw_okq (⟨"SlopeOperator$Input", "takeGuest", "()Z"⟩, 7) := ⟨⟨by decide +kernel, by decide +kernel⟩, List.mem_of_getElem? (i := 268) (by decide +kernel), List.mem_of_getElem? (i := 1102) (by decide +kernel), List.mem_of_getElem? (i := 1103) (by decide +kernel)⟩
theorem lw_p19 : lw_okq (⟨"SlopeOperator", "doEntries", "(I)I"⟩, 9) := ⟨⟨by decide +kernel, by decide +kernel⟩, List.mem_of_getElem? (i := 23) (by decide +kernel), List.mem_of_getElem? (i := 1111) (by decide +kernel), List.mem_of_getElem? (i := 1112) (by decide +kernel)⟩
theorem lw_p20 : lw_okq (⟨"SlopeOperator", "doEntry", "(III)I"⟩, 9) := ⟨⟨by decide +kernel, by decide +kernel⟩, List.mem_of_getElem? (i := 23) (by decide +kernel), List.mem_of_getElem? (i := 1116) (by decide +kernel), List.mem_of_getElem? (i := 1117) (by decide +kernel)⟩
theorem lw_p21 : lw_okq (⟨"SlopeOperator", "addGuestByText", "(II)I"⟩, 9) := ⟨⟨by decide +kernel, by decide +kernel⟩, List.mem_of_getElem? (i := 23) (by decide +kernel), List.mem_of_getElem? (i := 1120) (by decide +kernel), List.mem_of_getElem? (i := 1121) (by decide +kernel)⟩
theorem lw_p22 : lw_okq (⟨"SlopeOperator", "queueByText", "(II)I"⟩, 9) := ⟨⟨by decide +kernel, by decide +kernel⟩, List.mem_of_getElem? (i := 23) (by decide +kernel), List.mem_of_getElem? (i := 1124) (by decide +kernel), List.mem_of_getElem? (i := 1125) (by decide +kernel)⟩
theorem lw_p23 : lw_okq (⟨"SlopeOperator", "skiByText", "(II)I"⟩, 9) := ⟨⟨by decide +kernel, by decide +kernel⟩, List.mem_of_getElem? (i := 23) (by decide +kernel), List.mem_of_getElem? (i := 1128) (by decide +kernel), List.mem_of_getElem? (i := 1129) (by decide +kernel)⟩
theorem lw_p24 : lw_okq (⟨"SlopeOperatorModel", "refuse", "(I)I"⟩, 20) := ⟨⟨by decide +kernel, by decide +kernel⟩, List.mem_of_getElem? (i := 1161) (by decide +kernel), List.mem_of_getElem? (i := 1246) (by decide +kernel), List.mem_of_getElem? (i := 1247) (by decide +kernel)⟩
theorem lw_p25 : lw_okq (⟨"SlopeOperatorModel", "keep", "()V"⟩, 20) := ⟨⟨by decide +kernel, by decide +kernel⟩, List.mem_of_getElem? (i := 1161) (by decide +kernel), List.mem_of_getElem? (i := 1250) (by decide +kernel), List.mem_of_getElem? (i := 1251) (by decide +kernel)⟩
theorem lw_p26 : lw_okq (⟨"SlopeOperatorModel", "stateOf", "(I)I"⟩, 20) := ⟨⟨by decide +kernel, by decide +kernel⟩, List.mem_of_getElem? (i := 1161) (by decide +kernel), List.mem_of_getElem? (i := 1268) (by decide +kernel), List.mem_of_getElem? (i := 1269) (by decide +kernel)⟩
theorem lw_p27 : lw_okq (⟨"SlopeOperatorModel", "isLift", "(I)Z"⟩, 20) := ⟨⟨by decide +kernel, by decide +kernel⟩, List.mem_of_getElem? (i := 1161) (by decide +kernel), List.mem_of_getElem? (i := 1276) (by decide +kernel), List.mem_of_getElem? (i := 1277) (by decide +kernel)⟩
theorem lw_p28 : lw_okq (⟨"SlopeOperatorModel", "guestsWho", "(II)I"⟩, 20) := ⟨⟨by decide +kernel, by decide +kernel⟩, List.mem_of_getElem? (i := 1161) (by decide +kernel), List.mem_of_getElem? (i := 1280) (by decide +kernel), List.mem_of_getElem? (i := 1281) (by decide +kernel)⟩
theorem lw_p29 : lw_okq (⟨"SlopeOperatorModel", "isPiste", "(I)Z"⟩, 20) := ⟨⟨by decide +kernel, by decide +kernel⟩, List.mem_of_getElem? (i := 1161) (by decide +kernel), List.mem_of_getElem? (i := 1291) (by decide +kernel), List.mem_of_getElem? (i := 1292) (by decide +kernel)⟩
theorem lw_p30 : lw_okq (⟨"SlopeOperatorModel", "openPistes", "()I"⟩, 20) := ⟨⟨by decide +kernel, by decide +kernel⟩, List.mem_of_getElem? (i := 1161) (by decide +kernel), List.mem_of_getElem? (i := 1307) (by decide +kernel), List.mem_of_getElem? (i := 1308) (by decide +kernel)⟩
theorem lw_p31 : lw_okq (⟨"SlopeOperatorModel", "arrives", "(IIIII)V"⟩, 20) := ⟨⟨by decide +kernel, by decide +kernel⟩, List.mem_of_getElem? (i := 1161) (by decide +kernel), List.mem_of_getElem? (i := 1315) (by decide +kernel), List.mem_of_getElem? (i := 1316) (by decide +kernel)⟩
def lw_privs_2 : List (MethodName × Nat) := [(⟨"SlopeOperator$Input", "takeTarget", "(CC)Z"⟩, 7), (⟨"SlopeOperator$Input", "takeSign", "(C)Z"⟩, 7), (⟨"SlopeOperator$Input", "takeGuest", "()Z"⟩, 7), (⟨"SlopeOperator", "doEntries", "(I)I"⟩, 9), (⟨"SlopeOperator", "doEntry", "(III)I"⟩, 9), (⟨"SlopeOperator", "addGuestByText", "(II)I"⟩, 9), (⟨"SlopeOperator", "queueByText", "(II)I"⟩, 9), (⟨"SlopeOperator", "skiByText", "(II)I"⟩, 9), (⟨"SlopeOperatorModel", "refuse", "(I)I"⟩, 20), (⟨"SlopeOperatorModel", "keep", "()V"⟩, 20), (⟨"SlopeOperatorModel", "stateOf", "(I)I"⟩, 20), (⟨"SlopeOperatorModel", "isLift", "(I)Z"⟩, 20), (⟨"SlopeOperatorModel", "guestsWho", "(II)I"⟩, 20), (⟨"SlopeOperatorModel", "isPiste", "(I)Z"⟩, 20), (⟨"SlopeOperatorModel", "openPistes", "()I"⟩, 20), (⟨"SlopeOperatorModel", "arrives", "(IIIII)V"⟩, 20)]
theorem lw_r2 : ∀ q ∈ lw_privs_2, lw_okq q := List.forall_mem_cons.mpr ⟨lw_p16, List.forall_mem_cons.mpr ⟨lw_p17, List.forall_mem_cons.mpr ⟨lw_p18, List.forall_mem_cons.mpr ⟨lw_p19, List.forall_mem_cons.mpr ⟨lw_p20, List.forall_mem_cons.mpr ⟨lw_p21, List.forall_mem_cons.mpr ⟨lw_p22, List.forall_mem_cons.mpr ⟨lw_p23, List.forall_mem_cons.mpr ⟨lw_p24, List.forall_mem_cons.mpr ⟨lw_p25, List.forall_mem_cons.mpr ⟨lw_p26, List.forall_mem_cons.mpr ⟨lw_p27, List.forall_mem_cons.mpr ⟨lw_p28, List.forall_mem_cons.mpr ⟨lw_p29, List.forall_mem_cons.mpr ⟨lw_p30, List.forall_mem_cons.mpr ⟨lw_p31, fun _ h => absurd h List.not_mem_nil⟩⟩⟩⟩⟩⟩⟩⟩⟩⟩⟩⟩⟩⟩⟩⟩
theorem lw_p32 : lw_okq (⟨"SlopeOperatorModel", "isGuest", "(I)Z"⟩, 20) := ⟨⟨by decide +kernel, by decide +kernel⟩, List.mem_of_getElem? (i := 1161) (by decide +kernel), List.mem_of_getElem? (i := 1323) (by decide +kernel), List.mem_of_getElem? (i := 1324) (by decide +kernel)⟩
theorem lw_p33 : lw_okq (⟨"SlopeOperatorModel", "placeOf", "(I)I"⟩, 20) := ⟨⟨by decide +kernel, by decide +kernel⟩, List.mem_of_getElem? (i := 1161) (by decide +kernel), List.mem_of_getElem? (i := 1327) (by decide +kernel), List.mem_of_getElem? (i := 1328) (by decide +kernel)⟩
theorem lw_p34 : lw_okq (⟨"SlopeOperatorModel", "whyNoLift", "(II)I"⟩, 20) := ⟨⟨by decide +kernel, by decide +kernel⟩, List.mem_of_getElem? (i := 1161) (by decide +kernel), List.mem_of_getElem? (i := 1335) (by decide +kernel), List.mem_of_getElem? (i := 1336) (by decide +kernel)⟩
theorem lw_p35 : lw_okq (⟨"SlopeOperatorModel", "isOpenTo", "(II)Z"⟩, 20) := ⟨⟨by decide +kernel, by decide +kernel⟩, List.mem_of_getElem? (i := 1161) (by decide +kernel), List.mem_of_getElem? (i := 1339) (by decide +kernel), List.mem_of_getElem? (i := 1340) (by decide +kernel)⟩
theorem lw_p36 : lw_okq (⟨"SlopeOperatorModel", "refuses", "(II)I"⟩, 20) := ⟨⟨by decide +kernel, by decide +kernel⟩, List.mem_of_getElem? (i := 1161) (by decide +kernel), List.mem_of_getElem? (i := 1343) (by decide +kernel), List.mem_of_getElem? (i := 1344) (by decide +kernel)⟩
theorem lw_p37 : lw_okq (⟨"SlopeOperatorModel", "standIn", "(II)I"⟩, 20) := ⟨⟨by decide +kernel, by decide +kernel⟩, List.mem_of_getElem? (i := 1161) (by decide +kernel), List.mem_of_getElem? (i := 1347) (by decide +kernel), List.mem_of_getElem? (i := 1348) (by decide +kernel)⟩
theorem lw_p38 : lw_okq (⟨"SlopeOperatorModel", "whyNoPiste", "(II)I"⟩, 20) := ⟨⟨by decide +kernel, by decide +kernel⟩, List.mem_of_getElem? (i := 1161) (by decide +kernel), List.mem_of_getElem? (i := 1355) (by decide +kernel), List.mem_of_getElem? (i := 1356) (by decide +kernel)⟩
theorem lw_p39 : lw_okq (⟨"SlopeOperatorModel", "goDown", "(II)I"⟩, 20) := ⟨⟨by decide +kernel, by decide +kernel⟩, List.mem_of_getElem? (i := 1161) (by decide +kernel), List.mem_of_getElem? (i := 1359) (by decide +kernel), List.mem_of_getElem? (i := 1360) (by decide +kernel)⟩
theorem lw_p40 : lw_okq (⟨"SlopeOperatorModel", "skiTime", "(II)I"⟩, 20) := ⟨⟨by decide +kernel, by decide +kernel⟩, List.mem_of_getElem? (i := 1161) (by decide +kernel), List.mem_of_getElem? (i := 1363) (by decide +kernel), List.mem_of_getElem? (i := 1364) (by decide +kernel)⟩
theorem lw_p41 : lw_okq (⟨"SlopeOperatorModel", "drops", "(III)V"⟩, 20) := ⟨⟨by decide +kernel, by decide +kernel⟩, List.mem_of_getElem? (i := 1161) (by decide +kernel), List.mem_of_getElem? (i := 1371) (by decide +kernel), List.mem_of_getElem? (i := 1372) (by decide +kernel)⟩
theorem lw_p42 : lw_okq (⟨"SlopeOperatorModel", "ticks", "(I)I"⟩, 20) := ⟨⟨by decide +kernel, by decide +kernel⟩, List.mem_of_getElem? (i := 1161) (by decide +kernel), List.mem_of_getElem? (i := 1399) (by decide +kernel), List.mem_of_getElem? (i := 1400) (by decide +kernel)⟩
theorem lw_p43 : lw_okq (⟨"SlopeOperatorModel", "tick", "()V"⟩, 20) := ⟨⟨by decide +kernel, by decide +kernel⟩, List.mem_of_getElem? (i := 1161) (by decide +kernel), List.mem_of_getElem? (i := 1403) (by decide +kernel), List.mem_of_getElem? (i := 1404) (by decide +kernel)⟩
theorem lw_p44 : lw_okq (⟨"SlopeOperatorModel", "stepOf", "(I)I"⟩, 20) := ⟨⟨by decide +kernel, by decide +kernel⟩, List.mem_of_getElem? (i := 1161) (by decide +kernel), List.mem_of_getElem? (i := 1407) (by decide +kernel), List.mem_of_getElem? (i := 1408) (by decide +kernel)⟩
theorem lw_p45 : lw_okq (⟨"SlopeOperatorModel", "comesTo", "(II)V"⟩, 20) := ⟨⟨by decide +kernel, by decide +kernel⟩, List.mem_of_getElem? (i := 1161) (by decide +kernel), List.mem_of_getElem? (i := 1411) (by decide +kernel), List.mem_of_getElem? (i := 1412) (by decide +kernel)⟩
theorem lw_p46 : lw_okq (⟨"SlopeOperatorModel", "cabin", "(I)V"⟩, 20) := ⟨⟨by decide +kernel, by decide +kernel⟩, List.mem_of_getElem? (i := 1161) (by decide +kernel), List.mem_of_getElem? (i := 1415) (by decide +kernel), List.mem_of_getElem? (i := 1416) (by decide +kernel)⟩
theorem lw_p47 : lw_okq (⟨"SlopeOperatorModel", "layAside", "()V"⟩, 20) := ⟨⟨by decide +kernel, by decide +kernel⟩, List.mem_of_getElem? (i := 1161) (by decide +kernel), List.mem_of_getElem? (i := 1428) (by decide +kernel), List.mem_of_getElem? (i := 1429) (by decide +kernel)⟩
def lw_privs_3 : List (MethodName × Nat) := [(⟨"SlopeOperatorModel", "isGuest", "(I)Z"⟩, 20), (⟨"SlopeOperatorModel", "placeOf", "(I)I"⟩, 20), (⟨"SlopeOperatorModel", "whyNoLift", "(II)I"⟩, 20), (⟨"SlopeOperatorModel", "isOpenTo", "(II)Z"⟩, 20), (⟨"SlopeOperatorModel", "refuses", "(II)I"⟩, 20), (⟨"SlopeOperatorModel", "standIn", "(II)I"⟩, 20), (⟨"SlopeOperatorModel", "whyNoPiste", "(II)I"⟩, 20), (⟨"SlopeOperatorModel", "goDown", "(II)I"⟩, 20), (⟨"SlopeOperatorModel", "skiTime", "(II)I"⟩, 20), (⟨"SlopeOperatorModel", "drops", "(III)V"⟩, 20), (⟨"SlopeOperatorModel", "ticks", "(I)I"⟩, 20), (⟨"SlopeOperatorModel", "tick", "()V"⟩, 20), (⟨"SlopeOperatorModel", "stepOf", "(I)I"⟩, 20), (⟨"SlopeOperatorModel", "comesTo", "(II)V"⟩, 20), (⟨"SlopeOperatorModel", "cabin", "(I)V"⟩, 20), (⟨"SlopeOperatorModel", "layAside", "()V"⟩, 20)]
theorem lw_r3 : ∀ q ∈ lw_privs_3, lw_okq q := List.forall_mem_cons.mpr ⟨lw_p32, List.forall_mem_cons.mpr ⟨lw_p33, List.forall_mem_cons.mpr ⟨lw_p34, List.forall_mem_cons.mpr ⟨lw_p35, List.forall_mem_cons.mpr ⟨lw_p36, List.forall_mem_cons.mpr ⟨lw_p37, List.forall_mem_cons.mpr ⟨lw_p38, List.forall_mem_cons.mpr ⟨lw_p39, List.forall_mem_cons.mpr ⟨lw_p40, List.forall_mem_cons.mpr ⟨lw_p41, List.forall_mem_cons.mpr ⟨lw_p42, List.forall_mem_cons.mpr ⟨lw_p43, List.forall_mem_cons.mpr ⟨lw_p44, List.forall_mem_cons.mpr ⟨lw_p45, List.forall_mem_cons.mpr ⟨lw_p46, List.forall_mem_cons.mpr ⟨lw_p47, fun _ h => absurd h List.not_mem_nil⟩⟩⟩⟩⟩⟩⟩⟩⟩⟩⟩⟩⟩⟩⟩⟩
theorem lw_p48 : lw_okq (⟨"SlopeOperatorModel", "takeBack", "()V"⟩, 20) := ⟨⟨by decide +kernel, by decide +kernel⟩, List.mem_of_getElem? (i := 1161) (by decide +kernel), List.mem_of_getElem? (i := 1432) (by decide +kernel), List.mem_of_getElem? (i := 1433) (by decide +kernel)⟩
theorem lw_p49 : lw_okq (⟨"SlopeOperatorModel", "lacks", "(III)I"⟩, 20) := ⟨⟨by decide +kernel, by decide +kernel⟩, List.mem_of_getElem? (i := 1161) (by decide +kernel), List.mem_of_getElem? (i := 1444) (by decide +kernel), List.mem_of_getElem? (i := 1445) (by decide +kernel)⟩
theorem lw_p50 : lw_okq (⟨"SlopeOperatorModel", "layWays", "(II)V"⟩, 20) := ⟨⟨by decide +kernel, by decide +kernel⟩, List.mem_of_getElem? (i := 1161) (by decide +kernel), List.mem_of_getElem? (i := 1448) (by decide +kernel), List.mem_of_getElem? (i := 1449) (by decide +kernel)⟩
theorem lw_p51 : lw_okq (⟨"SlopeOperatorModel", "isWayLift", "(II)Z"⟩, 20) := ⟨⟨by decide +kernel, by decide +kernel⟩, List.mem_of_getElem? (i := 1161) (by decide +kernel), List.mem_of_getElem? (i := 1453) (by decide +kernel), List.mem_of_getElem? (i := 1454) (by decide +kernel)⟩
theorem lw_p52 : lw_okq (⟨"SlopeOperatorModel", "isWayPiste", "(II)Z"⟩, 20) := ⟨⟨by decide +kernel, by decide +kernel⟩, List.mem_of_getElem? (i := 1161) (by decide +kernel), List.mem_of_getElem? (i := 1457) (by decide +kernel), List.mem_of_getElem? (i := 1458) (by decide +kernel)⟩
theorem lw_p53 : lw_okq (⟨"SlopeOperatorModel", "isText", "()Z"⟩, 20) := ⟨⟨by decide +kernel, by decide +kernel⟩, List.mem_of_getElem? (i := 1161) (by decide +kernel), List.mem_of_getElem? (i := 1506) (by decide +kernel), List.mem_of_getElem? (i := 1507) (by decide +kernel)⟩
theorem lw_p54 : lw_okq (⟨"SlopeOperatorModel", "entry", "()V"⟩, 20) := ⟨⟨by decide +kernel, by decide +kernel⟩, List.mem_of_getElem? (i := 1161) (by decide +kernel), List.mem_of_getElem? (i := 1510) (by decide +kernel), List.mem_of_getElem? (i := 1511) (by decide +kernel)⟩
theorem lw_p55 : lw_okq (⟨"SlopeOperatorModel", "here", "()I"⟩, 20) := ⟨⟨by decide +kernel, by decide +kernel⟩, List.mem_of_getElem? (i := 1161) (by decide +kernel), List.mem_of_getElem? (i := 1514) (by decide +kernel), List.mem_of_getElem? (i := 1515) (by decide +kernel)⟩
theorem lw_p56 : lw_okq (⟨"SlopeOperatorModel", "guestNumber", "()I"⟩, 20) := ⟨⟨by decide +kernel, by decide +kernel⟩, List.mem_of_getElem? (i := 1161) (by decide +kernel), List.mem_of_getElem? (i := 1518) (by decide +kernel), List.mem_of_getElem? (i := 1519) (by decide +kernel)⟩
theorem lw_p57 : lw_okq (⟨"SlopeOperatorModel", "digit", "(II)I"⟩, 20) := ⟨⟨by decide +kernel, by decide +kernel⟩, List.mem_of_getElem? (i := 1161) (by decide +kernel), List.mem_of_getElem? (i := 1522) (by decide +kernel), List.mem_of_getElem? (i := 1523) (by decide +kernel)⟩
theorem lw_p58 : lw_okq (⟨"SlopeOperatorModel", "take", "(I)V"⟩, 20) := ⟨⟨by decide +kernel, by decide +kernel⟩, List.mem_of_getElem? (i := 1161) (by decide +kernel), List.mem_of_getElem? (i := 1526) (by decide +kernel), List.mem_of_getElem? (i := 1527) (by decide +kernel)⟩
theorem lw_p59 : lw_okq (⟨"SlopeOperatorModel", "does", "(I)Z"⟩, 20) := ⟨⟨by decide +kernel, by decide +kernel⟩, List.mem_of_getElem? (i := 1161) (by decide +kernel), List.mem_of_getElem? (i := 1530) (by decide +kernel), List.mem_of_getElem? (i := 1531) (by decide +kernel)⟩
def lw_privs_4 : List (MethodName × Nat) := [(⟨"SlopeOperatorModel", "takeBack", "()V"⟩, 20), (⟨"SlopeOperatorModel", "lacks", "(III)I"⟩, 20), (⟨"SlopeOperatorModel", "layWays", "(II)V"⟩, 20), (⟨"SlopeOperatorModel", "isWayLift", "(II)Z"⟩, 20), (⟨"SlopeOperatorModel", "isWayPiste", "(II)Z"⟩, 20), (⟨"SlopeOperatorModel", "isText", "()Z"⟩, 20), (⟨"SlopeOperatorModel", "entry", "()V"⟩, 20), (⟨"SlopeOperatorModel", "here", "()I"⟩, 20), (⟨"SlopeOperatorModel", "guestNumber", "()I"⟩, 20), (⟨"SlopeOperatorModel", "digit", "(II)I"⟩, 20), (⟨"SlopeOperatorModel", "take", "(I)V"⟩, 20), (⟨"SlopeOperatorModel", "does", "(I)Z"⟩, 20)]
theorem lw_r4 : ∀ q ∈ lw_privs_4, lw_okq q := List.forall_mem_cons.mpr ⟨lw_p48, List.forall_mem_cons.mpr ⟨lw_p49, List.forall_mem_cons.mpr ⟨lw_p50, List.forall_mem_cons.mpr ⟨lw_p51, List.forall_mem_cons.mpr ⟨lw_p52, List.forall_mem_cons.mpr ⟨lw_p53, List.forall_mem_cons.mpr ⟨lw_p54, List.forall_mem_cons.mpr ⟨lw_p55, List.forall_mem_cons.mpr ⟨lw_p56, List.forall_mem_cons.mpr ⟨lw_p57, List.forall_mem_cons.mpr ⟨lw_p58, List.forall_mem_cons.mpr ⟨lw_p59, fun _ h => absurd h List.not_mem_nil⟩⟩⟩⟩⟩⟩⟩⟩⟩⟩⟩⟩
def lw_privs : List (MethodName × Nat) := lw_privs_1 ++ (lw_privs_2 ++ (lw_privs_3 ++ (lw_privs_4)))
def lw_tbl : List Cond := k2_sels lw_privs ++ tables_1
theorem lw_privs_ok : ∀ q ∈ lw_privs, lw_okq q := by
  show ∀ q ∈ lw_privs_1 ++ (lw_privs_2 ++ (lw_privs_3 ++ (lw_privs_4))), lw_okq q
  exact List.forall_mem_append.mpr ⟨lw_r1, List.forall_mem_append.mpr ⟨lw_r2, List.forall_mem_append.mpr ⟨lw_r3, lw_r4⟩⟩⟩
/-- the streams that the claim lets the run draw from -/
abbrev lw_cs : List Choice := [Jvm.Choice.named "NaN.bits"]
theorem lw_bits : nanBits ∈ lw_cs := by first | decide | exact List.mem_cons_self | simp [lw_cs, nanBits]
/-! ===== BEGIN words of one list among another's, by their places ===== -/
theorem goodIn_r {big : List Cond} (ws : List Cond) (ps : List Nat) (hp : ws = ps.filterMap (fun i => big[i]?)) (h : ws.all goodWord = true) : GoodIn big ws := by
  intro w hw
  have h1 := List.all_eq_true.mp h w hw
  rw [hp] at hw
  obtain ⟨i, -, hi⟩ := List.mem_filterMap.mp hw
  have hm : w ∈ big := by first | exact List.mem_of_getElem? hi | exact List.getElem?_mem hi
  exact ⟨hm, good_of_word h1⟩
theorem goodIn_app {big a b : List Cond} (ha : GoodIn big a) (hb : GoodIn big b) : GoodIn big (a ++ b) := fun w h => (List.mem_append.mp h).elim (ha w) (hb w)
theorem goodIn_ca {big a b : List Cond} {c : Cond} (ha : GoodIn big (c :: a)) (hb : GoodIn big b) : GoodIn big (c :: (a ++ b)) := fun w h => (List.mem_cons.mp h).elim (fun e => ha w (List.mem_cons.mpr (Or.inl e))) (fun h => (List.mem_append.mp h).elim (fun h => ha w (List.mem_cons.mpr (Or.inr h))) (hb w))
theorem goodIn_sub {big ws : List Cond} (hm : ∀ w ∈ ws, w ∈ big) (h : ws.all goodWord = true) : GoodIn big ws := fun w hw => ⟨hm w hw, good_of_word (List.all_eq_true.mp h w hw)⟩
/-! ===== END ===== -/

/-! ===== BEGIN exceptions that leave a method, and their catching by the caller (launches without stack traces) ===== -/
section VXA
/-! The laws vx_back, vx_callV, vx_callS, vx_callSW, vx_throw0, vx_throwS follow proofs of the library, with one case more: JvmDerived/Free/Laws.lean (Back.of_free), Shelf42/LK1.lean (callV, callS), Shelf/KitTraced.lean (throwNew0V, throwNewS). -/
/-- where a method has thrown q: the class by its name, the cell, what was written, the world -/
def vx_T (XC : String → State → State → Prop) (st : State) (q : Addr) (t : State) (mc ms : Nat) (free : Addr → Prop) : Prop :=
  ∃ (E : String) (ce : Cell) (L : List Loc), XC E st t ∧ t.heap[q]? = some ce ∧ ce.vm = .none ∧ st.vm.findClass E = some ce.cls ∧ st.WarmedH t.vm ∧ st.sameButNew ({ t with vm := st.vm } : State) L mc ms ∧ ∀ z ∈ L, free z.base
def vx_Q (Qc : Array Value → State → Outcome → State → Prop) (XC : String → State → State → Prop) (mc ms : Nat) (free : Addr → Prop) : Array Value → State → Outcome → State → Prop := fun a st o t =>
  (Qc a st o t ∧ ∃ L, FrameEnd st o t L mc ms ∧ ∀ q ∈ L, free q.base) ∨ ∃ q, o = .threw q ∧ vx_T XC st q t mc ms free
/-- a callee that returns or throws -/
def vx_Met (l : Launch) (y : MethodName) (ws : List Cond) (rm : Room) (Pc : Array Value → State → Prop) (Qc : Array Value → State → Outcome → State → Prop) (XC : String → State → State → Prop) (mc ms : Nat) (free : Addr → Prop) : Prop :=
  MetFree l y (headSpec ws rm) Pc (fun _ _ _ _ _ => True) (vx_Q Qc XC mc ms free)
def vx_Post (XC : String → State → State → Prop) (mc ms : Nat) (free : Addr → Prop) : Pt → Array Value → Addr → Pt → Prop := fun A a q B =>
  ∃ (g : JFrame) (mk : MethodId) (t : State) (L : List Loc) (E : String) (ce : Cell), B.U.heap = t.heap ∧ B.U.vm = t.vm ∧ XC E (A.U.calling g mk a) t ∧ t.heap[q]? = some ce ∧ ce.vm = .none ∧ A.U.vm.findClass E = some ce.cls ∧ B.locs = A.locs ++ L ∧ (∀ z ∈ L, free z.base) ∧ B.cells = A.cells + mc ∧ B.slots = A.slots + ms
def vx_Back (l : Launch) (R : Room) (p : Program) (e : Env) (below : List Frame) (s : State) (sargs : Array Value) (y : MethodName) (len W9 : Nat)
    (Pre : Pt → Array Value → Prop) (Post : Pt → Array Value → Option Value → Pt → Prop) (PostX : Pt → Array Value → Addr → Pt → Prop) : Prop :=
  ∀ (m : MethodId) (meth : Method) (c : Code) (A : Pt) (g : JFrame) (ig : Instr) (mk : MethodId) (a : Array Value),
    Stand p l e R s m sargs below meth c A.U A.locs A.cells A.slots → g.method = m → g.locals.size = c.maxLocals → decode c.code g.pc = .ok (ig, len) →
    2 * g.monitorRoom + (g.stack.map fun v => v.category).sum ≤ W9 → A.U.methodNamed? y = some mk → Pre A a →
    (∃ (v : Option Value) (B : Pt), Stand p l e R s m sargs below meth c B.U B.locs B.cells B.slots ∧ Post A a v B ∧
      Steps p.tables e below (doInvoke e (A.U.setTop g) [] mk a).1 (B.U.setTop { g with pc := g.pc + len, stack := v.toList ++ g.stack })) ∨
    (∃ (q : Addr) (B : Pt), Stand p l e R s m sargs below meth c B.U B.locs B.cells B.slots ∧ PostX A a q B ∧
      Steps p.tables e below (doInvoke e (A.U.setTop g) [] mk a).1 ((B.U.setTop g).pushFrame (.throwing q)))
section Payer
variable {l : Launch} {R : Room} {p : Program} {e : Env} {below : List Frame} {s : State} {sargs : Array Value} {y : MethodName} {len W9 : Nat}
theorem vx_back {ws : List Cond} {rm : Room} {Pc : Array Value → State → Prop} {Qc : Array Value → State → Outcome → State → Prop} {XC : String → State → State → Prop} {mc ms : Nat} {free : Addr → Prop} {bytes : ByteArray} {maxL : Nat} {ret : Option FieldType}
    (hM : vx_Met l y ws rm Pc Qc XC mc ms free) (hblind : FrameBlind Pc) (hrc : rm.cells = mc) (hrs : rm.slots = ms)
    (hframes : rm.frames + 1 ≤ R.frames) (hlocals : W9 + (maxL + 11) + rm.locals ≤ R.locals)
    (hws : ∀ w ∈ ws, ∀ a' U, s.WarmedH U.vm → w.before a' U = true) (hcode : Cond.code y bytes maxL ret ∈ ws) (hinit : ∀ a' U, s.WarmedH U.vm → (Cond.initialized y.cls).before a' U = true) :
    vx_Back l R p e below s sargs y len W9 (PreOf R mc ms Pc) (PostOf Qc mc ms free) (vx_Post XC mc ms free) := by
  intro m meth c A g ig mk a X hg hsize hdg hW hn hp
  have h1 : (headSpec ws rm).pre.before a A.U = true := atoms_intro fun w hw => hws w hw _ _ X.warmed
  have h2 : (Cond.code y bytes maxL ret).before a A.U = true := hws _ hcode _ _ X.warmed
  have h3 : (Cond.initialized y.cls).before a A.U = true := hinit _ _ X.warmed
  have h4 : A.cells + (headSpec ws rm).room.cells ≤ R.cells := by rw [show (headSpec ws rm).room.cells = mc from hrc]; exact hp.1
  have h5 : A.slots + (headSpec ws rm).room.slots ≤ R.slots := by rw [show (headSpec ws rm).room.slots = ms from hrs]; exact hp.2.1
  have hPc : Pc a (A.U.calling g mk a) := hblind _ _ _ _ hp.2.2
  obtain ⟨U, Ls, c0, s0⟩ := A
  dsimp only [Pt.U, Pt.locs, Pt.cells, Pt.slots] at h1 h2 h3 h4 h5 X hn hPc ⊢
  obtain ⟨methY, cY, hmY, hcY, -, hlY, -, -, -, -⟩ := Cond.code_spec hn h2
  obtain ⟨kY, hkY, -⟩ := className_of_methodNamed hn
  have hinitY : kY.init = .initialized := Cond.initialized_spec (findClass_of_methodNamed hn) hkY h3
  have h : At U g.method c below := by rw [hg]; exact X.here
  have hlocals9 : W9 + (maxL + 11) + (headSpec ws rm).room.locals ≤ R.locals := hlocals
  have happ : (headSpec ws rm).appliesLoose y e.platform (U.calling g mk a) = true :=
    Spec.appliesLoose_calling (g := g) h hdg hn hkY hinitY
      (X.room_calling (g := g) (R' := (headSpec ws rm).room) hsize hmY hcY hframes (by rw [hlY]; omega) h4 h5) h1
  obtain ⟨mid, hmid⟩ := h.above
  have hfr : (U.setTop g).frames = (.java g :: mid) ++ below := by rw [State.frames_setTop' g h.top, hmid]; rfl
  obtain ⟨o, s₂, hsteps, -, hend, hq⟩ := Steps.callFree hM p X.admits X.cas X.clock (acts := []) hfr happ hPc trivial
  have hq' : vx_Q Qc XC mc ms free a (U.calling g mk a) o s₂ := hq
  rw [State.frames_setTop' g h.top] at hend
  obtain ⟨g₀, hg0⟩ := Option.isSome_iff_exists.mp h.top
  obtain ⟨r, hr⟩ := State.topJava?_eq_some.mp hg0
  have hr' : (({ U with heap := s₂.heap, slotsUsed := s₂.slotsUsed } : State).setVm s₂.vm).frames = .java g₀ :: r := hr
  rcases hq' with ⟨hqc, L, hfe, hL⟩ | ⟨q, rfl, E, ce, L, hx, hce, hcv, hcl, hW₂, hsm, hL⟩
  · obtain ⟨⟨v, rfl⟩, hW₂, e2, q2, q3, q4, q5, q6⟩ := id hfe
    have e3 : s₂ = ({ (U.calling g mk a).setFrames s₂.frames with heap := s₂.heap, slotsUsed := s₂.slotsUsed } : State).setVm s₂.vm := by
      have : s₂ = ({ s₂ with vm := (U.calling g mk a).vm } : State).setVm s₂.vm := rfl
      rw [e2] at this
      exact this
    obtain ⟨c₂, i₂, len₂, hc₂, hd₂, hf₂⟩ := hend
    have hW' : U.WarmedH s₂.vm := hW₂
    have hcc : c₂ = c := by
      have h1 : s₂.code? g.method = U.code? g.method := by
        rw [State.code?_eq, State.code?_eq, hW'.alike.method?]
      exact Option.some.inj (hc₂.symm.trans (h1.trans h.code))
    subst hcc
    have hlen : len₂ = len := by rw [hdg] at hd₂; cases hd₂; rfl
    subst hlen
    have hs₂ : s₂ = (({ U with heap := s₂.heap, slotsUsed := s₂.slotsUsed } : State).setVm s₂.vm).setTop { g with pc := g.pc + len₂, stack := v.toList ++ g.stack } := by
      refine e3.trans ?_
      rw [hf₂, State.calling_eq h.top, State.setFrames_setFrames, State.setTop_of_frames _ hr', hr]
      rfl
    have hsame : U.sameButNew ({ U with heap := s₂.heap, slotsUsed := s₂.slotsUsed } : State) L mc ms := by
      refine ⟨?_, q2, q3, q4, q5, q6⟩
      obtain ⟨t, ht, -⟩ := State.frames_cons hr
      show ({ U with heap := s₂.heap, slotsUsed := s₂.slotsUsed } : State) = { U.setFrames U.frames with heap := s₂.heap, slotsUsed := s₂.slotsUsed }
      rw [State.setFrames_self ht]
    subst hg
    refine Or.inl ⟨v, ⟨(({ U with heap := s₂.heap, slotsUsed := s₂.slotsUsed } : State).setVm s₂.vm), Ls ++ L, c0 + mc, s0 + ms⟩,
      ⟨X.admits, X.cas, X.clock, X.frames, X.room, X.hears, X.method, X.code, (X.here.setHeapUsed s₂.heap s₂.slotsUsed).setVm hW'.alike, X.tail, State.WarmedH.trans X.warmed hW', X.limits, X.bytes, X.same.trans (hsame.setVm s.vm)⟩,
      ⟨g, mk, s₂, L, rfl, rfl, hqc, rfl, hL, rfl, rfl⟩, ?_⟩
    show Steps p.tables e below _ ((({ U with heap := s₂.heap, slotsUsed := s₂.slotsUsed } : State).setVm s₂.vm).setTop { g with pc := g.pc + len₂, stack := v.toList ++ g.stack })
    rw [← hs₂]
    exact hsteps
  · obtain ⟨e2, q2, q3, q4, q5, q6⟩ := id hsm
    have e3 : s₂ = ({ (U.calling g mk a).setFrames s₂.frames with heap := s₂.heap, slotsUsed := s₂.slotsUsed } : State).setVm s₂.vm := by
      have : s₂ = ({ s₂ with vm := (U.calling g mk a).vm } : State).setVm s₂.vm := rfl
      rw [e2] at this
      exact this
    have hf₂ : s₂.frames = .throwing q :: .java g :: U.frames.tail := hend
    have hW' : U.WarmedH s₂.vm := hW₂
    have hs₂ : s₂ = ((({ U with heap := s₂.heap, slotsUsed := s₂.slotsUsed } : State).setVm s₂.vm).setTop g).pushFrame (.throwing q) := by
      refine e3.trans ?_
      rw [hf₂, State.calling_eq h.top, State.setFrames_setFrames, State.pushFrame, State.frames_setTop _ hr', State.setTop_of_frames _ hr', State.setFrames_setFrames, hr]
      rfl
    have hsame : U.sameButNew ({ U with heap := s₂.heap, slotsUsed := s₂.slotsUsed } : State) L mc ms := by
      refine ⟨?_, q2, q3, q4, q5, q6⟩
      obtain ⟨t, ht, -⟩ := State.frames_cons hr
      show ({ U with heap := s₂.heap, slotsUsed := s₂.slotsUsed } : State) = { U.setFrames U.frames with heap := s₂.heap, slotsUsed := s₂.slotsUsed }
      rw [State.setFrames_self ht]
    subst hg
    refine Or.inr ⟨q, ⟨(({ U with heap := s₂.heap, slotsUsed := s₂.slotsUsed } : State).setVm s₂.vm), Ls ++ L, c0 + mc, s0 + ms⟩,
      ⟨X.admits, X.cas, X.clock, X.frames, X.room, X.hears, X.method, X.code, (X.here.setHeapUsed s₂.heap s₂.slotsUsed).setVm hW'.alike, X.tail, State.WarmedH.trans X.warmed hW', X.limits, X.bytes, X.same.trans (hsame.setVm s.vm)⟩,
      ⟨g, mk, s₂, L, E, ce, rfl, rfl, hx, hce, hcv, hcl, rfl, hL, rfl, rfl⟩, ?_⟩
    show Steps p.tables e below _ (((({ U with heap := s₂.heap, slotsUsed := s₂.slotsUsed } : State).setVm s₂.vm).setTop g).pushFrame (.throwing q))
    rw [← hs₂]
    exact hsteps
end Payer
section Calls
variable {p : Program} {l : Launch} {e : Env} {R : Room} {s : State} {m : MethodId} {args : Array Value} {below : List Frame} {meth : Method} {c : Code} {T : State} {locs : List Loc} {cells slots : Nat}
theorem vx_callV (X : Stand p l e R s m args below meth c T locs cells slots) (hexec : p.tables.exec = Jvm.exec) {own C : String} {index : Nat} {y : MethodName} {bytes : ByteArray} {maxL : Nat} {ret : Option FieldType}
    (hown : s.vm.findClass own = some m.cls) (hlink : (Cond.methodLink own index y).before args s = true) (hinst : (Cond.instanceMethod y).before args s = true) (hsel : (Cond.selects C y y).before args s = true)
    (hcode : (Cond.code y bytes maxL ret).before args s = true) (hy : y.cls ≠ "java/lang/invoke/MethodHandle" ∧ y.cls ≠ "java/lang/invoke/VarHandle")
    {W9 : Nat} {Pre : Pt → Array Value → Prop} {Post : Pt → Array Value → Option Value → Pt → Prop} {PostX : Pt → Array Value → Addr → Pt → Prop} (hK : vx_Back l R p e below s args y 3 W9 Pre Post PostX)
    {b : Addr} {cellB : Cell} (hcell : T.heap[b]? = some cellB) (hobj : cellB.vm.isStatics = false) (hcls : s.vm.findClass C = some cellB.cls)
    {g : JFrame} (hg : g.method = m) (hsize : g.locals.size = c.maxLocals) {argsL rest : List Value} (hlen : ∀ sig, parseMethodDescriptor y.desc = some sig → argsL.length = sig.parameters.length)
    (hstack : g.stack = argsL.reverse ++ .ref b :: rest) (hW : 2 * g.monitorRoom + (rest.map fun v => v.category).sum ≤ W9) (hdg : decode c.code g.pc = .ok (.invokevirtual index, 3))
    (hpre : ∀ vm₁, s.WarmedH vm₁ → Pre ⟨T.setVm vm₁, locs, cells, slots⟩ (Value.ref b :: argsL).toArray) :
    (∃ (v : Option Value) (vm₁ : Vm) (B : Pt), s.WarmedH vm₁ ∧ Stand p l e R s m args below meth c B.U B.locs B.cells B.slots ∧ Post ⟨T.setVm vm₁, locs, cells, slots⟩ (Value.ref b :: argsL).toArray v B ∧
      ∀ target, Steps p.tables e below (B.U.setTop { g with pc := g.pc + 3, stack := v.toList ++ rest }) target → Steps p.tables e below (T.setTop g) target) ∨
    (∃ (q : Addr) (vm₁ : Vm) (B : Pt), s.WarmedH vm₁ ∧ Stand p l e R s m args below meth c B.U B.locs B.cells B.slots ∧ PostX ⟨T.setVm vm₁, locs, cells, slots⟩ (Value.ref b :: argsL).toArray q B ∧
      Steps p.tables e below (T.setTop g) ((B.U.setTop { g with stack := rest }).pushFrame (.throwing q))) := by
  obtain ⟨mk, methM, hnamed, hmethM, hstM, habM⟩ := Cond.instanceMethod_spec hinst
  obtain ⟨methM', cM, hmethM', -, -, -, -, -, -, hsigM⟩ := Cond.code_spec hnamed hcode
  cases hmethM.symm.trans hmethM'
  obtain ⟨c2, r2, m2, q1, q2, q3, q4, kP, hkP, hkPi⟩ := Cond.selects_spec hsel
  cases hcls.symm.trans q1
  cases (State.methodFound?_of_named hnamed hy).symm.trans q2
  cases hnamed.symm.trans q3
  have hselP : selectMethod e.platform s.vm cellB.cls mk = .method mk := by rw [Launch.admits_selectMethod X.admits]; exact q4
  obtain ⟨vm₁, X₁, hstep₁⟩ := X.invokevirtual hexec hown hlink hnamed hmethM hstM hkP hkPi hy (a := b) (cell := cellB) hcell
    (fun z h => by rw [h] at hobj; cases hobj) hselP hmethM habM hkP hkPi (g := g) hg (argsL := argsL) (rest := rest) (hlen _ hsigM) hstack hdg
  rcases hK m meth c ⟨T.setVm vm₁, locs, cells, slots⟩ { g with stack := rest } (.invokevirtual index) mk (Value.ref b :: argsL).toArray X₁ hg hsize hdg hW (X₁.named hnamed) (hpre vm₁ X₁.warmed) with ⟨v, B, X', hpost, hsteps⟩ | ⟨q, B, X', hpost, hsteps⟩
  · exact Or.inl ⟨v, vm₁, B, X₁.warmed, X', hpost, fun target h => hstep₁ _ fun acts => by rw [doInvoke_state]; exact hsteps.trans h⟩
  · exact Or.inr ⟨q, vm₁, B, X₁.warmed, X', hpost, hstep₁ _ fun acts => by rw [doInvoke_state]; exact hsteps⟩
theorem vx_callS (X : Stand p l e R s m args below meth c T locs cells slots) (hexec : p.tables.exec = Jvm.exec) {own : String} {index : Nat} {y : MethodName} {bytes : ByteArray} {maxL : Nat} {ret : Option FieldType}
    (hown : s.vm.findClass own = some m.cls) (hlink : (Cond.methodLink own index y).before args s = true) (hstat : (Cond.static y).before args s = true) (hinit : (Cond.initialized y.cls).before args s = true)
    (hcode : (Cond.code y bytes maxL ret).before args s = true) (hy : y.cls ≠ "java/lang/invoke/MethodHandle" ∧ y.cls ≠ "java/lang/invoke/VarHandle")
    {W9 : Nat} {Pre : Pt → Array Value → Prop} {Post : Pt → Array Value → Option Value → Pt → Prop} {PostX : Pt → Array Value → Addr → Pt → Prop} (hK : vx_Back l R p e below s args y 3 W9 Pre Post PostX)
    {g : JFrame} (hg : g.method = m) (hsize : g.locals.size = c.maxLocals) {argsL rest : List Value} (hlen : ∀ sig, parseMethodDescriptor y.desc = some sig → argsL.length = sig.parameters.length)
    (hstack : g.stack = argsL.reverse ++ rest) (hW : 2 * g.monitorRoom + (rest.map fun v => v.category).sum ≤ W9) (hdg : decode c.code g.pc = .ok (.invokestatic index, 3))
    (hpre : ∀ vm₁, s.WarmedH vm₁ → Pre ⟨T.setVm vm₁, locs, cells, slots⟩ argsL.toArray) :
    (∃ (v : Option Value) (vm₁ : Vm) (B : Pt), s.WarmedH vm₁ ∧ Stand p l e R s m args below meth c B.U B.locs B.cells B.slots ∧ Post ⟨T.setVm vm₁, locs, cells, slots⟩ argsL.toArray v B ∧
      ∀ target, Steps p.tables e below (B.U.setTop { g with pc := g.pc + 3, stack := v.toList ++ rest }) target → Steps p.tables e below (T.setTop g) target) ∨
    (∃ (q : Addr) (vm₁ : Vm) (B : Pt), s.WarmedH vm₁ ∧ Stand p l e R s m args below meth c B.U B.locs B.cells B.slots ∧ PostX ⟨T.setVm vm₁, locs, cells, slots⟩ argsL.toArray q B ∧
      Steps p.tables e below (T.setTop g) ((B.U.setTop { g with stack := rest }).pushFrame (.throwing q))) := by
  obtain ⟨mk, hnamed⟩ := Cond.code_named hcode
  obtain ⟨methM, cM, hmethM, -, -, -, -, -, -, hsigM⟩ := Cond.code_spec hnamed hcode
  have hstatic : methM.isStatic = true := Cond.static_spec hnamed hmethM hstat
  obtain ⟨kP, hkP, -⟩ := className_of_methodNamed hnamed
  have hinitP : kP.init = .initialized := Cond.initialized_spec (findClass_of_methodNamed hnamed) hkP hinit
  obtain ⟨vm₁, X₁, hstep₁⟩ := X.invokestatic hexec hown hlink hnamed hmethM hstatic hkP hinitP hy (g := g) hg (argsL := argsL) (rest := rest) (hlen _ hsigM) hstack hdg
  rcases hK m meth c ⟨T.setVm vm₁, locs, cells, slots⟩ { g with stack := rest } (.invokestatic index) mk argsL.toArray X₁ hg hsize hdg hW (X₁.named hnamed) (hpre vm₁ X₁.warmed) with ⟨v, B, X', hpost, hsteps⟩ | ⟨q, B, X', hpost, hsteps⟩
  · exact Or.inl ⟨v, vm₁, B, X₁.warmed, X', hpost, fun target h => hstep₁ _ fun acts => by rw [doInvoke_state]; exact hsteps.trans h⟩
  · exact Or.inr ⟨q, vm₁, B, X₁.warmed, X', hpost, hstep₁ _ fun acts => by rw [doInvoke_state]; exact hsteps⟩
end Calls
theorem vx_cls {s : State} {T : State} {vm₁ : Vm} {E : String} {k : ClassId} (hW : s.WarmedH vm₁) (h : (T.setVm vm₁).vm.findClass E = some k) : s.vm.findClass E = some k := by
  have h1 : vm₁.findClass E = some k := h
  rw [hW.alike.findClass] at h1
  exact h1
/-- the method's frame g, with q thrown over it -/
def vx_W (p : Program) (l : Launch) (e : Env) (R : Room) (s : State) (m : MethodId) (args : Array Value) (below : List Frame) (meth : Method) (c : Code) (H : Heap) (locs : List Loc) (cells slots : Nat) (Q : State → Prop) (g : JFrame) (q : Addr) : Prop :=
  ∀ T : State, T.heap = H → Stand p l e R s m args below meth c T locs cells slots → ∃ t, Steps p.tables e below ((T.setTop g).pushFrame (.throwing q)) t ∧ Q t
def vx_Run (p : Program) (l : Launch) (e : Env) (R : Room) (s : State) (m : MethodId) (args : Array Value) (below : List Frame) (meth : Method) (c : Code) (H : Heap) (locs : List Loc) (cells slots mc ms : Nat) (g : JFrame) (rest : List Value) (Qa : State → Outcome → State → Prop) (XC : String → State → State → Prop) (free : Addr → Prop) : Prop :=
  ∀ T : State, T.heap = H → Stand p l e R s m args below meth c T locs cells slots →
    (∃ (v : Option Value) (st₀ t T' : State) (L : List Loc), st₀.heap = H ∧ Stand p l e R s m args below meth c T' (locs ++ L) (cells + mc) (slots + ms) ∧ (∀ q ∈ L, free q.base) ∧ T'.heap = t.heap ∧ T'.vm = t.vm ∧ Qa st₀ (.returned v) t ∧
      Goes p e below T g T' { g with pc := g.pc + 3, stack := v.toList ++ rest }) ∨
    (∃ (q : Addr) (st₀ t T' : State) (L : List Loc) (E : String) (ce : Cell), st₀.heap = H ∧ Stand p l e R s m args below meth c T' (locs ++ L) (cells + mc) (slots + ms) ∧ (∀ z ∈ L, free z.base) ∧ T'.heap = t.heap ∧ T'.vm = t.vm ∧ XC E st₀ t ∧ t.heap[q]? = some ce ∧ ce.vm = .none ∧ s.vm.findClass E = some ce.cls ∧
      Steps p.tables e below (T.setTop g) ((T'.setTop { g with stack := rest }).pushFrame (.throwing q)))
def vx_X {S : Type} (px : S → Prop) (B : String → S → State → Prop) (A : Nat → Prop) : String → State → State → Prop := fun E st t => ∃ u : S, px u ∧ B E u t ∧ va_F A st t
section Runs
variable {p : Program} {l : Launch} {e : Env} {R : Room} {s : State} {m : MethodId} {args : Array Value} {below : List Frame} {meth : Method} {c : Code} {H : Heap} {locs : List Loc} {cells slots : Nat}
variable {y : MethodName} {bytes cc : ByteArray} {maxL nL mc ms n index : Nat} {ret : Option FieldType} {ws : List Cond} {rm : Room} {Pc : Array Value → State → Prop} {Qc : Array Value → State → Outcome → State → Prop} {XC : String → State → State → Prop} {free : Addr → Prop} {Ts : List Cond} {own C : String} {b : Addr} {As rest : List Value} {g : JFrame}
theorem vx_callBack (cb : CallB R s args own index y bytes maxL ret ws rm mc ms n) (hM : vx_Met l y ws rm Pc Qc XC mc ms free) (hbl : FrameBlind Pc) : vx_Back l R p e below s args y 3 8 (PreOf R mc ms Pc) (PostOf Qc mc ms free) (vx_Post XC mc ms free) := by
  obtain ⟨hrc, hrs, hfr, hlo, hws, hcw, -, hini, -⟩ := cb
  exact vx_back (bytes := bytes) (maxL := maxL) (ret := ret) hM hbl hrc hrs hfr hlo hws hcw (fun a' U hW => word_at hW (Or.inl (by first | rfl | simp [Cond.onTables, Cond.keeps, Cond.steady])) hini)
theorem vx_runV (S : CallFix p m c cc nL s args Ts own) (hM : vx_Met l y ws rm Pc Qc XC mc ms free) (cw : CallW R s args own C index y bytes maxL ret ws rm mc ms n) (hp : PreV s H C b Pc As)
    (hg : g.method = m) (hn : As.length = n) (hsize : g.locals.size = nL) (hstack : g.stack = As.reverse ++ .ref b :: rest) (hW : 2 * g.monitorRoom + (rest.map fun v => v.category).sum ≤ 8) (hdg : decode cc g.pc = .ok (.invokevirtual index, 3)) (hf : cells + mc ≤ R.cells ∧ slots + ms ≤ R.slots) :
    vx_Run p l e R s m args below meth c H locs cells slots mc ms g rest (Qc (Value.ref b :: As).toArray) XC free := by
  have hK : vx_Back l R p e below s args y 3 8 (PreOf R mc ms Pc) (PostOf Qc mc ms free) (vx_Post XC mc ms free) := vx_callBack cw.1 hM hp.1
  obtain ⟨⟨-, -, -, -, -, -, hcode, -, hy, hlen, hl⟩, hin, hse⟩ := cw
  obtain ⟨hx, hb, hml, ho, -⟩ := S
  obtain ⟨-, ⟨cellB, hcB, hoB, hclB⟩, hPc⟩ := hp
  intro T hT X
  rcases vx_callV X hx (C := C) (bytes := bytes) (maxL := maxL) (ret := ret) ho hl hin hse hcode hy hK (by rw [hT]; exact hcB) hoB hclB hg (hsize.trans hml.symm) (argsL := As) (rest := rest) (fun sig h => hn.trans (hlen sig h)) hstack hW (by rw [hb]; exact hdg)
    (fun vm₁ hW₁ => ⟨hf.1, hf.2, hPc (T.setVm vm₁) hT hW₁⟩) with ⟨v, vm₁, ⟨U', l2, c2, s2⟩, hW₁, X', ⟨g', mk, t, L, e1, e2, hq, h1, hL, h2, h3⟩, st⟩ | ⟨q, vm₁, ⟨U', l2, c2, s2⟩, hW₁, X', ⟨g', mk, t, L, E, ce, e1, e2, hq, hce, hcv, hcl, h1, hL, h2, h3⟩, st⟩
  · dsimp only [Pt.U, Pt.locs, Pt.cells, Pt.slots] at X' e1 e2 h1 h2 h3 st
    subst h1; subst h2; subst h3
    exact Or.inl ⟨v, (T.setVm vm₁).calling g' mk (Value.ref b :: As).toArray, t, U', L, hT, X', hL, e1, e2, hq, st⟩
  · dsimp only [Pt.U, Pt.locs, Pt.cells, Pt.slots] at X' e1 e2 h1 h2 h3 st hcl
    subst h1; subst h2; subst h3
    exact Or.inr ⟨q, (T.setVm vm₁).calling g' mk (Value.ref b :: As).toArray, t, U', L, E, ce, hT, X', hL, e1, e2, hq, hce, hcv, vx_cls hW₁ hcl, st⟩
theorem vx_runS (S : CallFix p m c cc nL s args Ts own) (hM : vx_Met l y ws rm Pc Qc XC mc ms free) (cw : CallB R s args own index y bytes maxL ret ws rm mc ms n ∧ (Cond.static y).before args s = true) (hp : PreS s H Pc As)
    (hg : g.method = m) (hn : As.length = n) (hsize : g.locals.size = nL) (hstack : g.stack = As.reverse ++ rest) (hW : 2 * g.monitorRoom + (rest.map fun v => v.category).sum ≤ 8) (hdg : decode cc g.pc = .ok (.invokestatic index, 3)) (hf : cells + mc ≤ R.cells ∧ slots + ms ≤ R.slots) :
    vx_Run p l e R s m args below meth c H locs cells slots mc ms g rest (Qc As.toArray) XC free := by
  have hK : vx_Back l R p e below s args y 3 8 (PreOf R mc ms Pc) (PostOf Qc mc ms free) (vx_Post XC mc ms free) := vx_callBack cw.1 hM hp.1
  obtain ⟨⟨-, -, -, -, -, -, hcode, hini, hy, hlen, hl⟩, hstt⟩ := cw
  obtain ⟨hx, hb, hml, ho, -⟩ := S
  intro T hT X
  rcases vx_callS X hx (bytes := bytes) (maxL := maxL) (ret := ret) ho hl hstt hini hcode hy hK hg (hsize.trans hml.symm) (argsL := As) (rest := rest) (fun sig h => hn.trans (hlen sig h)) hstack hW (by rw [hb]; exact hdg)
    (fun vm₁ hW₁ => ⟨hf.1, hf.2, hp.2 (T.setVm vm₁) hT hW₁⟩) with ⟨v, vm₁, ⟨U', l2, c2, s2⟩, hW₁, X', ⟨g', mk, t, L, e1, e2, hq, h1, hL, h2, h3⟩, st⟩ | ⟨q, vm₁, ⟨U', l2, c2, s2⟩, hW₁, X', ⟨g', mk, t, L, E, ce, e1, e2, hq, hce, hcv, hcl, h1, hL, h2, h3⟩, st⟩
  · dsimp only [Pt.U, Pt.locs, Pt.cells, Pt.slots] at X' e1 e2 h1 h2 h3 st
    subst h1; subst h2; subst h3
    exact Or.inl ⟨v, (T.setVm vm₁).calling g' mk As.toArray, t, U', L, hT, X', hL, e1, e2, hq, st⟩
  · dsimp only [Pt.U, Pt.locs, Pt.cells, Pt.slots] at X' e1 e2 h1 h2 h3 st hcl
    subst h1; subst h2; subst h3
    exact Or.inr ⟨q, (T.setVm vm₁).calling g' mk As.toArray, t, U', L, E, ce, hT, X', hL, e1, e2, hq, hce, hcv, vx_cls hW₁ hcl, st⟩
end Runs
section Rows
variable {p : Program} {l : Launch} {e : Env} {R : Room} {s : State} {m : MethodId} {args : Array Value} {below : List Frame} {meth : Method} {c : Code} {H : Heap} {locs : List Loc} {cells slots : Nat} {Q : State → Prop}
variable {mc ms : Nat} {free : Addr → Prop} {A0 A1 : Nat → Prop} {H0 : Heap} {a : Array Value} {pc : Nat} {ls : Array Slot} {st0 rest : List Value}
theorem vx_keep {st₀ t T' : State} {L : List Loc} (h0 : st₀.heap = H) (e1 : T'.heap = t.heap) (hS : va_S A0 H0 H locs) (hA : ∀ q, q < H.size → A1 q → A0 q) (hf : ∀ q, free q → A0 q) (hL : ∀ q ∈ L, free q.base) (hF : va_F A1 st₀ t) :
    H.size ≤ T'.heap.size ∧ (∀ q : Nat, q < H.size → ¬ A1 q → T'.heap[q]? = H[q]?) ∧ va_S A0 H0 T'.heap (locs ++ L) := by
  obtain ⟨hz, hk⟩ := hF
  rw [h0] at hz hk
  exact ⟨by rw [e1]; exact hz, fun q h1 h2 => by rw [e1]; exact hk q h1 h2,
    ⟨Nat.le_trans hS.1 (by rw [e1]; exact hz), fun q h1 h2 => by rw [e1, hk q (Nat.lt_of_lt_of_le h1 hS.1) (fun z => h2 (hA q (Nat.lt_of_lt_of_le h1 hS.1) z))]; exact hS.2.1 q h1 h2, fun q hq => by
      rcases List.mem_append.mp hq with h | h
      · exact hS.2.2 q h
      · exact hf _ (hL q h)⟩⟩
theorem vx_calli {S SX : Type} {post : Int32 → S → Prop} {px : SX → Prop} {B : S → State → Prop} {BX : String → SX → State → Prop} {AX : Nat → Prop} (hr : vx_Run p l e R s m args below meth c H locs cells slots mc ms (F0 m pc ls st0) rest (va_Qi post B A1 a) (vx_X px BX AX) free) (hS : va_S A0 H0 H locs) (hA : ∀ q, q < H.size → A1 q → A0 q) (hf : ∀ q, free q → A0 q) (hAX : ∀ q, q < H.size → AX q → A0 q)
    (kx : ∀ (E : String) (ce : Cell) (q9 : Addr) (u : SX) (t : State) (H1 : Heap) (locs1 : List Loc), t.heap = H1 → s.vm.Alike t.vm → px u → BX E u t → H.size ≤ H1.size → (∀ q : Nat, q < H.size → ¬ AX q → H1[q]? = H[q]?) → va_S A0 H0 H1 locs1 → H1[q9]? = some ce → ce.vm = .none → s.vm.findClass E = some ce.cls → vx_W p l e R s m args below meth c H1 locs1 (cells + mc) (slots + ms) Q (F0 m pc ls rest) q9)
    (kk : ∀ (r : Int32) (u : S) (t : State) (H1 : Heap) (locs1 : List Loc), t.heap = H1 → s.vm.Alike t.vm → post r u → B u t → H.size ≤ H1.size → (∀ q : Nat, q < H.size → ¬ A1 q → H1[q]? = H[q]?) → va_S A0 H0 H1 locs1 → W p l e R s m args below meth c H1 locs1 (cells + mc) (slots + ms) Q (F0 m (pc + 3) ls (.int r :: rest))) : W p l e R s m args below meth c H locs cells slots Q (F0 m pc ls st0) := by
  intro T hT X
  rcases hr T hT X with ⟨v, st₀, t, T', L, h0, X', hL, e1, e2, ⟨⟨r, u, hv, hp, hb⟩, hF⟩, st⟩ | ⟨q, st₀, t, T', L, E, ce, h0, X', hL, e1, e2, ⟨u, hp, hb, hF⟩, hce, hcv, hcl, st⟩
  · cases hv
    obtain ⟨k1, k2, k3⟩ := vx_keep h0 e1 hS hA hf hL hF
    obtain ⟨t2, a1, b1⟩ := kk r u t T'.heap (locs ++ L) e1.symm (by rw [← e2]; exact X'.warmed.alike) hp hb k1 k2 k3 T' rfl X'
    exact ⟨t2, st t2 a1, b1⟩
  · obtain ⟨k1, k2, k3⟩ := vx_keep h0 e1 hS hAX hf hL hF
    obtain ⟨t2, a1, b1⟩ := kx E ce q u t T'.heap (locs ++ L) e1.symm (by rw [← e2]; exact X'.warmed.alike) hp hb k1 k2 k3 (by rw [e1]; exact hce) hcv hcl T' rfl X'
    exact ⟨t2, st.trans a1, b1⟩
theorem vx_calll {S SX : Type} {post : Int64 → S → Prop} {px : SX → Prop} {B : S → State → Prop} {BX : String → SX → State → Prop} {AX : Nat → Prop} (hr : vx_Run p l e R s m args below meth c H locs cells slots mc ms (F0 m pc ls st0) rest (va_Ql post B A1 a) (vx_X px BX AX) free) (hS : va_S A0 H0 H locs) (hA : ∀ q, q < H.size → A1 q → A0 q) (hf : ∀ q, free q → A0 q) (hAX : ∀ q, q < H.size → AX q → A0 q)
    (kx : ∀ (E : String) (ce : Cell) (q9 : Addr) (u : SX) (t : State) (H1 : Heap) (locs1 : List Loc), t.heap = H1 → s.vm.Alike t.vm → px u → BX E u t → H.size ≤ H1.size → (∀ q : Nat, q < H.size → ¬ AX q → H1[q]? = H[q]?) → va_S A0 H0 H1 locs1 → H1[q9]? = some ce → ce.vm = .none → s.vm.findClass E = some ce.cls → vx_W p l e R s m args below meth c H1 locs1 (cells + mc) (slots + ms) Q (F0 m pc ls rest) q9)
    (kk : ∀ (r : Int64) (u : S) (t : State) (H1 : Heap) (locs1 : List Loc), t.heap = H1 → s.vm.Alike t.vm → post r u → B u t → H.size ≤ H1.size → (∀ q : Nat, q < H.size → ¬ A1 q → H1[q]? = H[q]?) → va_S A0 H0 H1 locs1 → W p l e R s m args below meth c H1 locs1 (cells + mc) (slots + ms) Q (F0 m (pc + 3) ls (.long r :: rest))) : W p l e R s m args below meth c H locs cells slots Q (F0 m pc ls st0) := by
  intro T hT X
  rcases hr T hT X with ⟨v, st₀, t, T', L, h0, X', hL, e1, e2, ⟨⟨r, u, hv, hp, hb⟩, hF⟩, st⟩ | ⟨q, st₀, t, T', L, E, ce, h0, X', hL, e1, e2, ⟨u, hp, hb, hF⟩, hce, hcv, hcl, st⟩
  · cases hv
    obtain ⟨k1, k2, k3⟩ := vx_keep h0 e1 hS hA hf hL hF
    obtain ⟨t2, a1, b1⟩ := kk r u t T'.heap (locs ++ L) e1.symm (by rw [← e2]; exact X'.warmed.alike) hp hb k1 k2 k3 T' rfl X'
    exact ⟨t2, st t2 a1, b1⟩
  · obtain ⟨k1, k2, k3⟩ := vx_keep h0 e1 hS hAX hf hL hF
    obtain ⟨t2, a1, b1⟩ := kx E ce q u t T'.heap (locs ++ L) e1.symm (by rw [← e2]; exact X'.warmed.alike) hp hb k1 k2 k3 (by rw [e1]; exact hce) hcv hcl T' rfl X'
    exact ⟨t2, st.trans a1, b1⟩
theorem vx_callf {S SX : Type} {post : UInt32 → S → Prop} {px : SX → Prop} {B : S → State → Prop} {BX : String → SX → State → Prop} {AX : Nat → Prop} (hr : vx_Run p l e R s m args below meth c H locs cells slots mc ms (F0 m pc ls st0) rest (va_Qf post B A1 a) (vx_X px BX AX) free) (hS : va_S A0 H0 H locs) (hA : ∀ q, q < H.size → A1 q → A0 q) (hf : ∀ q, free q → A0 q) (hAX : ∀ q, q < H.size → AX q → A0 q)
    (kx : ∀ (E : String) (ce : Cell) (q9 : Addr) (u : SX) (t : State) (H1 : Heap) (locs1 : List Loc), t.heap = H1 → s.vm.Alike t.vm → px u → BX E u t → H.size ≤ H1.size → (∀ q : Nat, q < H.size → ¬ AX q → H1[q]? = H[q]?) → va_S A0 H0 H1 locs1 → H1[q9]? = some ce → ce.vm = .none → s.vm.findClass E = some ce.cls → vx_W p l e R s m args below meth c H1 locs1 (cells + mc) (slots + ms) Q (F0 m pc ls rest) q9)
    (kk : ∀ (r : UInt32) (u : S) (t : State) (H1 : Heap) (locs1 : List Loc), t.heap = H1 → s.vm.Alike t.vm → post r u → B u t → H.size ≤ H1.size → (∀ q : Nat, q < H.size → ¬ A1 q → H1[q]? = H[q]?) → va_S A0 H0 H1 locs1 → W p l e R s m args below meth c H1 locs1 (cells + mc) (slots + ms) Q (F0 m (pc + 3) ls (.float r :: rest))) : W p l e R s m args below meth c H locs cells slots Q (F0 m pc ls st0) := by
  intro T hT X
  rcases hr T hT X with ⟨v, st₀, t, T', L, h0, X', hL, e1, e2, ⟨⟨r, u, hv, hp, hb⟩, hF⟩, st⟩ | ⟨q, st₀, t, T', L, E, ce, h0, X', hL, e1, e2, ⟨u, hp, hb, hF⟩, hce, hcv, hcl, st⟩
  · cases hv
    obtain ⟨k1, k2, k3⟩ := vx_keep h0 e1 hS hA hf hL hF
    obtain ⟨t2, a1, b1⟩ := kk r u t T'.heap (locs ++ L) e1.symm (by rw [← e2]; exact X'.warmed.alike) hp hb k1 k2 k3 T' rfl X'
    exact ⟨t2, st t2 a1, b1⟩
  · obtain ⟨k1, k2, k3⟩ := vx_keep h0 e1 hS hAX hf hL hF
    obtain ⟨t2, a1, b1⟩ := kx E ce q u t T'.heap (locs ++ L) e1.symm (by rw [← e2]; exact X'.warmed.alike) hp hb k1 k2 k3 (by rw [e1]; exact hce) hcv hcl T' rfl X'
    exact ⟨t2, st.trans a1, b1⟩
theorem vx_calld {S SX : Type} {post : UInt64 → S → Prop} {px : SX → Prop} {B : S → State → Prop} {BX : String → SX → State → Prop} {AX : Nat → Prop} (hr : vx_Run p l e R s m args below meth c H locs cells slots mc ms (F0 m pc ls st0) rest (va_Qd post B A1 a) (vx_X px BX AX) free) (hS : va_S A0 H0 H locs) (hA : ∀ q, q < H.size → A1 q → A0 q) (hf : ∀ q, free q → A0 q) (hAX : ∀ q, q < H.size → AX q → A0 q)
    (kx : ∀ (E : String) (ce : Cell) (q9 : Addr) (u : SX) (t : State) (H1 : Heap) (locs1 : List Loc), t.heap = H1 → s.vm.Alike t.vm → px u → BX E u t → H.size ≤ H1.size → (∀ q : Nat, q < H.size → ¬ AX q → H1[q]? = H[q]?) → va_S A0 H0 H1 locs1 → H1[q9]? = some ce → ce.vm = .none → s.vm.findClass E = some ce.cls → vx_W p l e R s m args below meth c H1 locs1 (cells + mc) (slots + ms) Q (F0 m pc ls rest) q9)
    (kk : ∀ (r : UInt64) (u : S) (t : State) (H1 : Heap) (locs1 : List Loc), t.heap = H1 → s.vm.Alike t.vm → post r u → B u t → H.size ≤ H1.size → (∀ q : Nat, q < H.size → ¬ A1 q → H1[q]? = H[q]?) → va_S A0 H0 H1 locs1 → W p l e R s m args below meth c H1 locs1 (cells + mc) (slots + ms) Q (F0 m (pc + 3) ls (.double r :: rest))) : W p l e R s m args below meth c H locs cells slots Q (F0 m pc ls st0) := by
  intro T hT X
  rcases hr T hT X with ⟨v, st₀, t, T', L, h0, X', hL, e1, e2, ⟨⟨r, u, hv, hp, hb⟩, hF⟩, st⟩ | ⟨q, st₀, t, T', L, E, ce, h0, X', hL, e1, e2, ⟨u, hp, hb, hF⟩, hce, hcv, hcl, st⟩
  · cases hv
    obtain ⟨k1, k2, k3⟩ := vx_keep h0 e1 hS hA hf hL hF
    obtain ⟨t2, a1, b1⟩ := kk r u t T'.heap (locs ++ L) e1.symm (by rw [← e2]; exact X'.warmed.alike) hp hb k1 k2 k3 T' rfl X'
    exact ⟨t2, st t2 a1, b1⟩
  · obtain ⟨k1, k2, k3⟩ := vx_keep h0 e1 hS hAX hf hL hF
    obtain ⟨t2, a1, b1⟩ := kx E ce q u t T'.heap (locs ++ L) e1.symm (by rw [← e2]; exact X'.warmed.alike) hp hb k1 k2 k3 (by rw [e1]; exact hce) hcv hcl T' rfl X'
    exact ⟨t2, st.trans a1, b1⟩
theorem vx_callv {S SX : Type} {post : S → Prop} {px : SX → Prop} {B : S → State → Prop} {BX : String → SX → State → Prop} {AX : Nat → Prop} (hr : vx_Run p l e R s m args below meth c H locs cells slots mc ms (F0 m pc ls st0) rest (va_Qv post B A1 a) (vx_X px BX AX) free) (hS : va_S A0 H0 H locs) (hA : ∀ q, q < H.size → A1 q → A0 q) (hf : ∀ q, free q → A0 q) (hAX : ∀ q, q < H.size → AX q → A0 q)
    (kx : ∀ (E : String) (ce : Cell) (q9 : Addr) (u : SX) (t : State) (H1 : Heap) (locs1 : List Loc), t.heap = H1 → s.vm.Alike t.vm → px u → BX E u t → H.size ≤ H1.size → (∀ q : Nat, q < H.size → ¬ AX q → H1[q]? = H[q]?) → va_S A0 H0 H1 locs1 → H1[q9]? = some ce → ce.vm = .none → s.vm.findClass E = some ce.cls → vx_W p l e R s m args below meth c H1 locs1 (cells + mc) (slots + ms) Q (F0 m pc ls rest) q9)
    (kk : ∀ (u : S) (t : State) (H1 : Heap) (locs1 : List Loc), t.heap = H1 → s.vm.Alike t.vm → post u → B u t → H.size ≤ H1.size → (∀ q : Nat, q < H.size → ¬ A1 q → H1[q]? = H[q]?) → va_S A0 H0 H1 locs1 → W p l e R s m args below meth c H1 locs1 (cells + mc) (slots + ms) Q (F0 m (pc + 3) ls (rest))) : W p l e R s m args below meth c H locs cells slots Q (F0 m pc ls st0) := by
  intro T hT X
  rcases hr T hT X with ⟨v, st₀, t, T', L, h0, X', hL, e1, e2, ⟨⟨u, hv, hp, hb⟩, hF⟩, st⟩ | ⟨q, st₀, t, T', L, E, ce, h0, X', hL, e1, e2, ⟨u, hp, hb, hF⟩, hce, hcv, hcl, st⟩
  · cases hv
    obtain ⟨k1, k2, k3⟩ := vx_keep h0 e1 hS hA hf hL hF
    obtain ⟨t2, a1, b1⟩ := kk u t T'.heap (locs ++ L) e1.symm (by rw [← e2]; exact X'.warmed.alike) hp hb k1 k2 k3 T' rfl X'
    exact ⟨t2, st t2 a1, b1⟩
  · obtain ⟨k1, k2, k3⟩ := vx_keep h0 e1 hS hAX hf hL hF
    obtain ⟨t2, a1, b1⟩ := kx E ce q u t T'.heap (locs ++ L) e1.symm (by rw [← e2]; exact X'.warmed.alike) hp hb k1 k2 k3 (by rw [e1]; exact hce) hcv hcl T' rfl X'
    exact ⟨t2, st.trans a1, b1⟩
/-- caught by the row x of this method's table; the rows ahead don't take it -/
theorem vx_catch {own name : String} {E : String} {ce : Cell} {q : Addr} (hown : s.vm.findClass own = some m.cls) (pre : List ExceptionTableEntry) (x : ExceptionTableEntry) (suf : List ExceptionTableEntry) (hsplit : c.exceptionTable.toList = pre ++ x :: suf)
    (hpass : ∀ z ∈ pre, covers z pc = false ∨ (z.catchType ≠ 0 ∧ ∃ nm : String, (Cond.classLink own z.catchType nm).before args s = true ∧ va_Nc E nm s)) (hx : covers x pc = true) (h0 : x.catchType ≠ 0)
    (hlink : (Cond.classLink own x.catchType name).before args s = true) (hcast : (Cond.castable E name).before args s = true) (hcell : H[q]? = some ce) (hv : ce.vm = .none) (hcl : s.vm.findClass E = some ce.cls)
    (kk : W p l e R s m args below meth c H locs cells slots Q (F0 m x.handlerPc ls [.ref q])) : vx_W p l e R s m args below meth c H locs cells slots Q (F0 m pc ls rest) q := by
  intro T hT X
  have hpl : e.platform.magicAccessors = ({} : Platform).magicAccessors := by rw [X.admits.platform]
  obtain ⟨c3, c4, hc3, hc4, hasg⟩ := Cond.castable_spec hcast
  cases Option.some.inj (hc3.symm.trans hcl)
  obtain ⟨c5, hc5, hcl5⟩ := Cond.classLink_spec hown hlink e.platform hpl
  cases Option.some.inj (hc4.symm.trans hc5)
  obtain ⟨vm', X', st⟩ := X.thenCaughtThrough q (g := F0 m pc ls rest) rfl (Steps.refl _) (by rw [hT]; exact hcell) (by rw [hv]; rfl) (by obtain ⟨k9, h9, -⟩ := Vm.findClass_spec hcl; exact ⟨k9, h9⟩) pre x suf hsplit
    (fun z hz => by
      rcases hpass z hz with h | ⟨hz0, nm, hl1, hn1⟩
      · exact Or.inl h
      · obtain ⟨c6, hc6, hcl6⟩ := Cond.classLink_spec hown hl1 e.platform hpl
        obtain ⟨a8, b8, h1, h2, h3⟩ := hn1
        cases Option.some.inj (h1.symm.trans hcl)
        cases Option.some.inj (h2.symm.trans hc6)
        exact Or.inr ⟨hz0, _, hcl6, h3⟩) hx (Or.inr ⟨h0, c4, hcl5, hasg⟩)
  obtain ⟨t, a1, b1⟩ := kk (T.setVm vm') hT X'
  exact ⟨t, st.trans a1, b1⟩
end Rows
section Ends
variable {p : Program} {l : Launch} {e : Env} {R : Room} {s : State} {m : MethodId} {args : Array Value} {below : List Frame} {meth : Method} {c : Code} {H : Heap} {locs : List Loc} {cells slots : Nat} {Q : State → Prop}
variable {mc ms : Nat} {free : Addr → Prop} {A0 A1 : Nat → Prop} {H0 : Heap} {a : Array Value} {ls : Array Slot} {st0 rest : List Value}
variable {Qc : Array Value → State → Outcome → State → Prop} {XC : String → State → State → Prop}
/-- what a body that may throw owes at its end -/
def vx_MQ (below : List Frame) (Qc : Array Value → State → Outcome → State → Prop) (XC : String → State → State → Prop) (a : Array Value) (s : State) (mc ms : Nat) (free : Addr → Prop) : State → Prop := fun t =>
  ∃ o, t.status = .running ∧ Ended t below o ∧ vx_Q Qc XC mc ms free a s o t
theorem vx_ret {g : JFrame} {mc ms : Nat} (k : W p l e R s m args below meth c H locs cells slots (MQ below Qc args s mc ms free) g) : W p l e R s m args below meth c H locs cells slots (vx_MQ below Qc XC args s mc ms free) g := by
  intro T hT X
  obtain ⟨t, a1, o, b1, b2, b3, b4⟩ := k T hT X
  exact ⟨t, a1, o, b1, b2, Or.inl ⟨b3, b4⟩⟩
/-- not caught here: it goes on to the caller -/
theorem vx_widen {g : JFrame} {q : Addr} {k n : Nat} (h1 : cells ≤ k) (h2 : slots ≤ n) (kk : vx_W p l e R s m args below meth c H locs k n Q g q) : vx_W p l e R s m args below meth c H locs cells slots Q g q := fun T hT X => kk T hT (stand_widen X h1 h2)
theorem vx_out {pc : Nat} {E : String} {ce : Cell} {q : Addr} {mc ms : Nat} (hout : ∀ x ∈ c.exceptionTable.toList, covers x pc = false) (hlocks : meth.locks = false) (hcell : H[q]? = some ce) (hv : ce.vm = .none) (hcl : s.vm.findClass E = some ce.cls)
    (hx : ∀ t : State, t.heap = H → s.vm.Alike t.vm → XC E s t) (hf : ∀ z ∈ locs, free z.base) (hc : cells ≤ mc) (hs : slots ≤ ms) :
    vx_W p l e R s m args below meth c H locs cells slots (vx_MQ below Qc XC args s mc ms free) (F0 m pc ls rest) q := by
  intro T hT X
  obtain ⟨st1, hrun, hend, hW, hsm⟩ := X.leaveThrown q (g := F0 m pc ls rest) rfl rfl rfl hout hlocks
  have hcell9 : (T.setFrames (.throwing q :: below)).heap[q]? = some ce := by
    show T.heap[q]? = some ce
    rw [hT]; exact hcell
  exact ⟨_, st1, .threw q, hrun, hend, Or.inr ⟨q, rfl, E, ce, locs, hx _ hT hW.alike, hcell9, hv, hcl, hW, hsm.mono hc hs, hf⟩⟩
theorem vx_frame {U : State} {k n : Nat} (h : s.sameButNew ({ U with vm := s.vm } : State) locs k n) : s.heap.size ≤ U.heap.size ∧ ∀ q : Nat, q < s.heap.size → (∀ z ∈ locs, z.base ≠ q) → U.heap[q]? = s.heap[q]? := by
  obtain ⟨-, h2, -, -, -, h6⟩ := h
  refine ⟨h2, fun q hq hz => ?_⟩
  obtain ⟨c9, e1, e2, e3, e4⟩ := h6 q _ (Array.getElem?_eq_getElem hq)
  have hs : c9.slots = (s.heap[q]).slots := Array.ext_getElem? fun i => e4 i fun hm => hz _ hm rfl
  have h9 : c9 = s.heap[q] := by
    rw [hs] at e2
    exact e2
  have e5 : U.heap[q]? = some c9 := e1
  rw [e5, h9, Array.getElem?_eq_getElem hq]
/-- the words of a throw but the four that speak of the heap -/
def vx_no (w : Cond) : Bool := decide (w ≠ .isRef (.static Bundle.tN "UNASSIGNED_STACK" Bundle.steD)) && decide (w ≠ .isRef (.static Bundle.tN "SUPPRESSED_SENTINEL" Bundle.listD)) && decide (w ≠ .laysStatic Bundle.tN "UNASSIGNED_STACK" Bundle.steD) && decide (w ≠ .laysStatic Bundle.tN "SUPPRESSED_SENTINEL" Bundle.listD)
def vx_at0 (own : String) (ic : Nat) (X : String) (names : List String) : List Cond := (Bundle.ownAtoms0 own ic X names).filter vx_no
def vx_atS (own : String) (ic : Nat) (X : String) (names : List String) : List Cond := (Bundle.ownAtoms own ic X names).filter vx_no
/-- a word that the tables alone decide, or a good one -/
def vx_ot (w : Cond) : Bool := w.onTables || goodWord w
theorem vx_ot_at {args a' : Array Value} {s U : State} {w : Cond} (hW : s.WarmedH U.vm) (hvm : s.vm = U.vm) (hg : vx_ot w = true) (h : w.before args s = true) : w.before a' U = true := by
  simp only [vx_ot, Bool.or_eq_true] at hg
  rcases hg with hg | hg
  · exact va_tabs hg hvm h
  · exact word_at hW (good_of_word hg) h
/-- a list's words: the good ones out of the method's own list, the others by premises of their own -/
theorem vx_hat {args : Array Value} {s : State} {L B : List Cond} (h1 : ∀ w ∈ L.filter goodWord, w.before args s = true) (h2 : ∀ w ∈ L.filter (fun w => !goodWord w), w ∈ B) (h3 : ∀ w ∈ B, w.before args s = true) : ∀ w ∈ L, w.before args s = true := by
  intro w hw
  by_cases g : goodWord w = true
  · exact h1 w (List.mem_filter.mpr ⟨hw, g⟩)
  · refine h3 w (h2 w (List.mem_filter.mpr ⟨hw, ?_⟩))
    show (!goodWord w) = true
    cases hgw : goodWord w
    · rfl
    · exact absurd hgw g
theorem vx_c {args : Array Value} {s : State} {w : Cond} {B : List Cond} (h : w.before args s = true) (t : ∀ w ∈ B, w.before args s = true) : ∀ w' ∈ w :: B, w'.before args s = true := fun w' h' => (List.mem_cons.mp h').elim (fun e => by rw [e]; exact h) (t w')
theorem vx_n {args : Array Value} {s : State} : ∀ w ∈ ([] : List Cond), w.before args s = true := fun _ h => nomatch h
theorem vx_own {args : Array Value} {s : State} {L : List Cond} (h1 : ∀ w ∈ L.filter vx_no, w.before args s = true)
    (hU : (Cond.isRef (.static Bundle.tN "UNASSIGNED_STACK" Bundle.steD)).before args s = true) (hN : (Cond.isRef (.static Bundle.tN "SUPPRESSED_SENTINEL" Bundle.listD)).before args s = true)
    (lU : (Cond.laysStatic Bundle.tN "UNASSIGNED_STACK" Bundle.steD).before args s = true) (lN : (Cond.laysStatic Bundle.tN "SUPPRESSED_SENTINEL" Bundle.listD).before args s = true) : ∀ w ∈ L, w.before args s = true := by
  intro w hw
  by_cases e1 : w = .isRef (.static Bundle.tN "UNASSIGNED_STACK" Bundle.steD)
  · rw [e1]; exact hU
  · by_cases e2 : w = .isRef (.static Bundle.tN "SUPPRESSED_SENTINEL" Bundle.listD)
    · rw [e2]; exact hN
    · by_cases e3 : w = .laysStatic Bundle.tN "UNASSIGNED_STACK" Bundle.steD
      · rw [e3]; exact lU
      · by_cases e4 : w = .laysStatic Bundle.tN "SUPPRESSED_SENTINEL" Bundle.listD
        · rw [e4]; exact lN
        · exact h1 w (List.mem_filter.mpr ⟨hw, by unfold vx_no; rw [decide_eq_true e1, decide_eq_true e2, decide_eq_true e3, decide_eq_true e4]; rfl⟩)
/-- where a static field lies, its class's statics cell in H -/
def vx_L (C n d : String) (A : Nat → Prop) (U : State) (H : Heap) : Prop := ∃ (c : ClassId) (k : Class) (i : Nat) (f : Field) (a : Nat) (cell : Cell), U.vm.findClass C = some c ∧ U.fieldFound? C n d = some (c, k, i, f) ∧ f.isStatic = true ∧ k.statics = some a ∧ H[a]? = some cell ∧ cell.vm.isStatics = true ∧ cell.cls = c ∧ f.slot < cell.slots.size ∧ k.staticTypes[f.slot]? = some f.type ∧ ¬ A a
theorem vx_L.moved {C n d : String} {A : Nat → Prop} {u U : State} {H : Heap} (hvm : u.vm.Alike U.vm) (h : vx_L C n d A u H) : vx_L C n d A U H := by
  obtain ⟨c, k, i, f, a, cell, h1, h2, h3, h4, h5, h6, h7, h8, h9, h10⟩ := h
  obtain ⟨k', hi', he⟩ := State.fieldFound?_setVm hvm h2
  exact ⟨c, k', i, f, a, cell, by rw [hvm.findClass]; exact h1, hi', h3, by rw [he]; exact h4, h5, h6, h7, h8, by rw [he]; exact h9, h10⟩
theorem vx_L.kept {C n d : String} {A : Nat → Prop} {U : State} {H H1 : Heap} (h : vx_L C n d A U H) (hq : ∀ a : Nat, a < H.size → ¬ A a → H1[a]? = H[a]?) : vx_L C n d A U H1 := by
  obtain ⟨c, k, i, f, a, cell, h1, h2, h3, h4, h5, h6, h7, h8, h9, h10⟩ := h
  exact ⟨c, k, i, f, a, cell, h1, h2, h3, h4, by rw [hq a (Array.getElem?_eq_some_iff.mp h5).1 h10]; exact h5, h6, h7, h8, h9, h10⟩
theorem vx_L.narrow {C n d : String} {A B : Nat → Prop} {U : State} {H : Heap} (h : vx_L C n d A U H) (hAB : ∀ q, B q → A q) : vx_L C n d B U H := by
  obtain ⟨c, k, i, f, a, cell, h1, h2, h3, h4, h5, h6, h7, h8, h9, h10⟩ := h
  exact ⟨c, k, i, f, a, cell, h1, h2, h3, h4, h5, h6, h7, h8, h9, fun z => h10 (hAB _ z)⟩
theorem vx_L.word {C n d : String} {A : Nat → Prop} {s : State} {args : Array Value} (h : vx_L C n d A s s.heap) : (Cond.laysStatic C n d).before args s = true := by
  obtain ⟨c, k, i, f, a, cell, h1, h2, h3, h4, h5, h6, h7, h8, h9, -⟩ := h
  show (Cond.laysStatic C n d).holds args s none s [] = true
  exact Cond.laysStatic_of h1 h2 h3 h4 h5 h6 h7 h8 h9
/-- .. and what it holds: null or some reference -/
def vx_Zq (C n d : String) (A : Nat → Prop) (U : State) (H : Heap) : Prop := va_Zq C n d A U H ∧ vx_L C n d A U H
theorem vx_Zq.moved {C n d : String} {A : Nat → Prop} {u U : State} {H : Heap} (hvm : u.vm.Alike U.vm) (h : vx_Zq C n d A u H) : vx_Zq C n d A U H := ⟨va_Zq.moved hvm h.1, vx_L.moved hvm h.2⟩
theorem vx_Zq.kept {C n d : String} {A : Nat → Prop} {U : State} {H H1 : Heap} (h : vx_Zq C n d A U H) (hq : ∀ a : Nat, a < H.size → ¬ A a → H1[a]? = H[a]?) : vx_Zq C n d A U H1 := ⟨va_Zq.kept h.1 hq, vx_L.kept h.2 hq⟩
theorem vx_Zq.narrow {C n d : String} {A B : Nat → Prop} {U : State} {H : Heap} (h : vx_Zq C n d A U H) (hAB : ∀ q, B q → A q) : vx_Zq C n d B U H := ⟨va_Zq.narrow h.1 hAB, vx_L.narrow h.2 hAB⟩
theorem vx_Zqof {args : Array Value} {s : State} {C n d : String} {A : Nat → Prop} (hl : (Cond.laysStatic C n d).before args s = true) (hini : (Cond.initialized C).before args s = true) (h : (Cond.isRef (.static C n d)).before args s = true) (hA : ∀ a : Nat, a < s.heap.size → ¬ A a) : vx_Zq C n d A s s.heap := by
  refine ⟨va_Zqof hl hini h hA, ?_⟩
  obtain ⟨c, k, i, f, a, cell, h1, h2, h3, h4, h5, h6, h7, h8, h9⟩ := Cond.laysStatic_spec hl
  exact ⟨c, k, i, f, a, cell, h1, h2, h3, h4, h5, h6, h7, h8, h9, hA a (Array.getElem?_eq_some_iff.mp h5).1⟩
theorem vx_isRef {C n d : String} {v : Value} {A : Nat → Prop} {s : State} {args : Array Value} (h : va_Z C n d v A s s.heap) (hv : v.isRef = true) : (Cond.isRef (.static C n d)).before args s = true := by
  obtain ⟨cf, kf, fi, f, a, cell, h1, h2, h3, h4, h5, h6, h7, -⟩ := h
  have he : (Term.static C n d).eval args s none [] s = some v := by
    simp [Term.eval, State.fieldNamed?, h1, h2, h4, h5, h6, h7]
  simp only [Cond.before, Cond.holds, Cond.value, he]
  cases v <;> simp_all [Value.isRef]
theorem vx_isRefq {C n d : String} {A : Nat → Prop} {s : State} {args : Array Value} (h : va_Zq C n d A s s.heap) : (Cond.isRef (.static C n d)).before args s = true := by
  rcases h with h | ⟨t, h⟩
  · exact vx_isRef h rfl
  · exact vx_isRef h rfl
/-- the same frame, seen from here: as if the method were called anew in this heap -/
theorem vx_rebase {T : State} (X : Stand p l e R s m args below meth c T locs cells slots) {R' : Room} (hf : R'.frames ≤ R.frames) (hl : R'.locals ≤ R.locals) (hc : cells + R'.cells ≤ R.cells) (hs : slots + R'.slots ≤ R.slots) :
    Stand p l e R' ((T.setVm s.vm).setFrames (.invoking m args :: below)) m args below meth c T [] 0 0 := by
  have htop : (T.setVm s.vm).topJava?.isSome := X.here.top
  have hF : ((T.setVm s.vm).setFrames (.invoking m args :: below)).frames = .invoking m args :: below := State.frames_setFrames _ (State.cur_lt_of_top htop)
  obtain ⟨g₀, hg0⟩ := Option.isSome_iff_exists.mp htop
  obtain ⟨r, hr⟩ := State.topJava?_eq_some.mp hg0
  have hl9 : e.platform.stackLimits (T.setVm s.vm).me = e.platform.stackLimits s.me := X.limits
  have hb9 : (T.setVm s.vm).me.stackBytes = s.me.stackBytes := X.bytes
  refine ⟨X.admits, X.cas, X.clock, hF, ?_, X.hears, X.method, X.code, X.here, X.tail, X.warmed, ?_, ?_, ?_⟩
  · have h := X.room
    have hU : ((T.setVm s.vm).setFrames (.invoking m args :: below)).localsInUse = s.localsInUse := by
      rw [State.localsInUse_invoking hF (meth := meth) (c := c) X.method X.code, State.localsInUse_invoking X.frames X.method X.code]
    simp only [State.hasRoom, Bool.and_eq_true, decide_eq_true_eq] at h ⊢
    obtain ⟨⟨⟨⟨h1, h2, h3, h4, h5, h6⟩, h7⟩, h8⟩, h9⟩ := h
    rw [X.frames, List.length_cons] at h2 h3
    have q1 := X.heapSize
    have q2 := X.used
    simp only [hF, hU, List.length_cons, State.stackLimits_setFrames, State.stackBytes_setFrames, hl9, hb9]
    refine ⟨⟨⟨⟨by omega, by omega, by omega, by omega, by omega, h6⟩, ?_⟩, ?_⟩, X.book⟩
    · show T.heap.size + R'.cells ≤ e.platform.maxCells
      omega
    · show T.slotsUsed + R'.slots ≤ e.platform.maxSlots
      omega
  · rw [State.stackLimits_setFrames]; rfl
  · rw [State.stackBytes_setFrames]; rfl
  · refine ⟨?_, Nat.le_refl _, Nat.le_refl _, ?_, ?_, fun a c9 h9 => ⟨c9, h9, rfl, rfl, fun _ _ => rfl⟩⟩
    · obtain ⟨t, ht, -⟩ := State.frames_cons hr
      show T.setVm s.vm = { ((T.setVm s.vm).setFrames (.invoking m args :: below)).setFrames (T.setVm s.vm).frames with heap := T.heap, slotsUsed := T.slotsUsed }
      rw [State.setFrames_setFrames, State.setFrames_self ht]
      rfl
    · show T.slotsUsed = T.slotsUsed + ((T.heap.toList.drop T.heap.size).map (·.slots.size)).sum
      rw [List.drop_eq_nil_of_le (Nat.le_of_eq Array.length_toList)]
      rfl
    · show ((T.heap.toList.drop T.heap.size).map (·.slots.size)).sum ≤ 0
      rw [List.drop_eq_nil_of_le (Nat.le_of_eq Array.length_toList)]
      exact Nat.le_refl _
/-- 'throw new E()': new; dup; invokespecial; athrow -/
theorem vx_throw0 {cc : ByteArray} {pc : Nat} (hexec : p.tables.exec = Jvm.exec) (hb : c.code = cc) (hl : l.stackTraces = false) {own cls : String} {names : List String} {ik ic mc ms : Nat} {A : Nat → Prop}
    (hown : s.vm.findClass own = some m.cls) (hcls : Bundle.fit cls = true) (hnames : ∀ n ∈ names, Bundle.fit n = true)
    (hk : (Cond.classLink own ik cls).before args s = true) (hini : (Cond.initialized cls).before args s = true) (hat : ∀ w ∈ vx_at0 own ic cls names, w.before args s = true)
    (hgood : ∀ w ∈ Cond.classLink own ik cls :: Cond.initialized cls :: vx_at0 own ic cls names, vx_ot w = true)
    (hU : vx_Zq Bundle.tN "UNASSIGNED_STACK" Bundle.steD A s s.heap) (hN : vx_Zq Bundle.tN "SUPPRESSED_SENTINEL" Bundle.listD A s s.heap) (hS : va_S A s.heap H locs) (hsize : ls.size = c.maxLocals)
    (d0 : decode cc pc = .ok (.new ik, 3)) (d3 : decode cc (pc + 3) = .ok (.dup, 1)) (d4 : decode cc (pc + 4) = .ok (.invokespecial ic, 3)) (d7 : decode cc (pc + 7) = .ok (.athrow, 1))
    (hout : ∀ x ∈ c.exceptionTable.toList, covers x (pc + 7) = false)
    (hRframes : names.length + 3 < R.frames) (hRlocals : (rest.map fun v => v.category).sum + (13 * (names.length + 1) + 42) ≤ R.locals) (hRcells : cells + 1 ≤ R.cells) (hRslots : slots + 6 ≤ R.slots) (hlocks : meth.locks = false)
    (hx : ∀ t : State, s.vm.Alike t.vm → H.size ≤ t.heap.size → (∀ q : Nat, q < H.size → t.heap[q]? = H[q]?) → XC cls s t)
    (hf : ∀ z ∈ locs, free z.base) (hc : cells + 1 ≤ mc) (hs : slots + 6 ≤ ms) :
    W p l e R s m args below meth c H locs cells slots (vx_MQ below Qc XC args s mc ms free) (F0 m pc ls rest) := by
  intro T hT X
  have htr : e.platform.stackTraces = false := (show e.platform.stackTraces = l.stackTraces by rw [X.admits.platform]).trans hl
  have Y := vx_rebase X (R' := { frames := R.frames, locals := R.locals, cells := 1, slots := 6 }) (Nat.le_refl _) (Nat.le_refl _) hRcells hRslots
  obtain ⟨s', hA⟩ : ∃ z, z = (T.setVm s.vm).setFrames (.invoking m args :: below) := ⟨_, rfl⟩
  rw [← hA] at Y
  have hvm : s'.vm = s.vm := by rw [hA]; rfl
  have hhp : s'.heap = H := by rw [hA]; exact hT
  have hW0 : s.WarmedH s'.vm := by rw [hvm]; exact State.WarmedH.refl s
  have hat' : ∀ w ∈ vx_at0 own ic cls names, w.before args s' = true := fun w hw => vx_ot_at hW0 hvm.symm (hgood w (List.mem_cons_of_mem _ (List.mem_cons_of_mem _ hw))) (hat w hw)
  have hk' : (Cond.classLink own ik cls).before args s' = true := vx_ot_at hW0 hvm.symm (hgood _ List.mem_cons_self) hk
  have hini' : (Cond.initialized cls).before args s' = true := vx_ot_at hW0 hvm.symm (hgood _ (List.mem_cons_of_mem _ List.mem_cons_self)) hini
  have hU' : vx_Zq Bundle.tN "UNASSIGNED_STACK" Bundle.steD A s' s'.heap := by rw [hhp]; exact vx_Zq.moved hW0.alike (hU.kept hS.2.1)
  have hN' : vx_Zq Bundle.tN "SUPPRESSED_SENTINEL" Bundle.listD A s' s'.heap := by rw [hhp]; exact vx_Zq.moved hW0.alike (hN.kept hS.2.1)
  have h : ∀ w ∈ Bundle.ownAtoms0 own ic cls names, w.before args s' = true := vx_own hat' (vx_isRefq hU'.1) (vx_isRefq hN'.1) hU'.2.word hN'.2.word
  have hown' : s'.vm.findClass own = some m.cls := by rw [hvm]; exact hown
  have hins : (Cond.instantiable cls 6).before args s' = true := h _ (by simp [Bundle.ownAtoms0])
  obtain ⟨vm₁, cX, kX, hfX, hkX, -, -, X₁, st1⟩ := Y.newCold hexec (own := own) (C := cls) (index := ik) (n := 6) hown' hk' hins hini'
    (g := F0 m pc ls rest) rfl (by rw [hb]; exact d0) (Nat.le_refl _) (Nat.le_refl _)
  generalize hT1 : (T.setVm vm₁).pushCell { cls := cX, slots := kX.instanceTypes.map defaultValue, vm := .none } = T1 at X₁ st1
  have hcat : (Value.ref T.heap.size).category = 1 := rfl
  have hcellA : T1.heap[T.heap.size]? = some (freshCell cX kX) := by rw [← hT1]; exact State.heap_pushCell_size _ _
  have d3' : decode c.code (pc + 3) = .ok (.dup, 1) := by rw [hb]; exact d3
  obtain ⟨U, hsteps, hrun, hend, hW, hsame, ce, hce, hO⟩ := X₁.ctorThrow0 hexec htr (own := own) (cls := cls) (names := names) (ic := ic) hown' hcls hnames h (fun x hx => nomatch hx) hfX hkX hcellA (by rw [hhp, hT]; exact Nat.le_refl _)
    (g := { method := m, pc := pc + 4, locals := ls, stack := .ref T.heap.size :: .ref T.heap.size :: rest, locked := none }) rfl hsize rfl rfl (rest := rest) rfl
    (by rw [hb]; exact d4) (by rw [hb]; exact d7) hout hRframes (by simp only [List.map_cons, List.sum_cons, hcat]; omega) hlocks
  obtain ⟨f1, f2⟩ := vx_frame hsame
  rw [hhp] at f1 f2
  have hWs : s.WarmedH U.vm := State.WarmedH.trans hW0 hW
  have hcl : s.vm.findClass cls = some ce.cls := by
    have h9 := hO.cls
    rw [hvm] at h9
    exact h9
  have hall : s.sameButNew ({ U with vm := s.vm } : State) locs mc ms := by
    subst hA
    obtain ⟨e1, e2⟩ := hsame
    rw [State.setFrames_setFrames] at e1
    have h2 : (T.setVm s.vm).sameButNew ({ U with vm := s.vm } : State) [] (0 + 1) (0 + 6) := ⟨e1, e2⟩
    have h3 := X.same.trans h2
    rw [List.append_nil] at h3
    exact h3.mono hc hs
  refine ⟨U, ?_, .threw T.heap.size, hrun, hend, Or.inr ⟨T.heap.size, rfl, cls, ce, locs, hx U hWs.alike f1 (fun q hq => f2 q hq (fun z hz => nomatch hz)), hce, hO.vm, hcl, hWs, hall, hf⟩⟩
  refine st1 _ ?_
  show Steps p.tables e below (T1.setTop { method := m, pc := pc + 3, locals := ls, stack := .ref T.heap.size :: rest, locked := none }) _
  jvm_step X₁.here [X₁.here.top, hexec, d3', Value.category]
  exact hsteps
/-- 'throw new E("text")': new; dup; ldc; invokespecial; athrow -/
theorem vx_throwS {cc : ByteArray} {pc : Nat} (hexec : p.tables.exec = Jvm.exec) (hb : c.code = cc) (hl : l.stackTraces = false) {own cls text : String} {names : List String} {ik is ic mc ms sa : Nat} {A : Nat → Prop}
    (hown : s.vm.findClass own = some m.cls) (hcls : Bundle.fit cls = true) (hnames : ∀ n ∈ names, Bundle.fit n = true)
    (hk : (Cond.classLink own ik cls).before args s = true) (hini : (Cond.initialized cls).before args s = true) (hstr : vk_R own is text sa s) (hat : ∀ w ∈ vx_atS own ic cls names, w.before args s = true)
    (hgood : ∀ w ∈ Cond.classLink own ik cls :: Cond.initialized cls :: vx_atS own ic cls names, vx_ot w = true)
    (hU : vx_Zq Bundle.tN "UNASSIGNED_STACK" Bundle.steD A s s.heap) (hN : vx_Zq Bundle.tN "SUPPRESSED_SENTINEL" Bundle.listD A s s.heap) (hS : va_S A s.heap H locs) (hsize : ls.size = c.maxLocals)
    (d0 : decode cc pc = .ok (.new ik, 3)) (d3 : decode cc (pc + 3) = .ok (.dup, 1)) (d4 : decode cc (pc + 4) = .ok (.ldc is, 2)) (d6 : decode cc (pc + 6) = .ok (.invokespecial ic, 3)) (d9 : decode cc (pc + 9) = .ok (.athrow, 1))
    (hout : ∀ x ∈ c.exceptionTable.toList, covers x (pc + 9) = false)
    (hRframes : names.length + 3 < R.frames) (hRlocals : (rest.map fun v => v.category).sum + (13 * (names.length + 1) + 43) ≤ R.locals) (hRcells : cells + 1 ≤ R.cells) (hRslots : slots + 6 ≤ R.slots) (hlocks : meth.locks = false)
    (hx : ∀ t : State, s.vm.Alike t.vm → H.size ≤ t.heap.size → (∀ q : Nat, q < H.size → t.heap[q]? = H[q]?) → XC cls s t)
    (hf : ∀ z ∈ locs, free z.base) (hc : cells + 1 ≤ mc) (hs : slots + 6 ≤ ms) :
    W p l e R s m args below meth c H locs cells slots (vx_MQ below Qc XC args s mc ms free) (F0 m pc ls rest) := by
  intro T hT X
  have htr : e.platform.stackTraces = false := (show e.platform.stackTraces = l.stackTraces by rw [X.admits.platform]).trans hl
  have Y := vx_rebase X (R' := { frames := R.frames, locals := R.locals, cells := 1, slots := 6 }) (Nat.le_refl _) (Nat.le_refl _) hRcells hRslots
  obtain ⟨s', hA⟩ : ∃ z, z = (T.setVm s.vm).setFrames (.invoking m args :: below) := ⟨_, rfl⟩
  rw [← hA] at Y
  have hvm : s'.vm = s.vm := by rw [hA]; rfl
  have hhp : s'.heap = H := by rw [hA]; exact hT
  have hW0 : s.WarmedH s'.vm := by rw [hvm]; exact State.WarmedH.refl s
  have hat' : ∀ w ∈ vx_atS own ic cls names, w.before args s' = true := fun w hw => vx_ot_at hW0 hvm.symm (hgood w (List.mem_cons_of_mem _ (List.mem_cons_of_mem _ hw))) (hat w hw)
  have hk' : (Cond.classLink own ik cls).before args s' = true := vx_ot_at hW0 hvm.symm (hgood _ List.mem_cons_self) hk
  have hini' : (Cond.initialized cls).before args s' = true := vx_ot_at hW0 hvm.symm (hgood _ (List.mem_cons_of_mem _ List.mem_cons_self)) hini
  have hU' : vx_Zq Bundle.tN "UNASSIGNED_STACK" Bundle.steD A s' s'.heap := by rw [hhp]; exact vx_Zq.moved hW0.alike (hU.kept hS.2.1)
  have hN' : vx_Zq Bundle.tN "SUPPRESSED_SENTINEL" Bundle.listD A s' s'.heap := by rw [hhp]; exact vx_Zq.moved hW0.alike (hN.kept hS.2.1)
  have h : ∀ w ∈ Bundle.ownAtoms own ic cls names, w.before args s' = true := vx_own hat' (vx_isRefq hU'.1) (vx_isRefq hN'.1) hU'.2.word hN'.2.word
  have hown' : s'.vm.findClass own = some m.cls := by rw [hvm]; exact hown
  have hins : (Cond.instantiable cls 6).before args s' = true := h _ (by simp [Bundle.ownAtoms])
  obtain ⟨vm₁, cX, kX, hfX, hkX, -, -, X₁, st1⟩ := Y.newCold hexec (own := own) (C := cls) (index := ik) (n := 6) hown' hk' hins hini'
    (g := F0 m pc ls rest) rfl (by rw [hb]; exact d0) (Nat.le_refl _) (Nat.le_refl _)
  generalize hT1 : (T.setVm vm₁).pushCell { cls := cX, slots := kX.instanceTypes.map defaultValue, vm := .none } = T1 at X₁ st1
  have hcat : (Value.ref T.heap.size).category = 1 := rfl
  have hcellA : T1.heap[T.heap.size]? = some (freshCell cX kX) := by rw [← hT1]; exact State.heap_pushCell_size _ _
  have d3' : decode c.code (pc + 3) = .ok (.dup, 1) := by rw [hb]; exact d3
  have d4' : decode c.code (pc + 4) = .ok (.ldc is, 2) := by rw [hb]; exact d4
  have hstr' : vk_R own is text sa s' := vk_R.warm hW0 hstr
  obtain ⟨U, hsteps, hrun, hend, hW, hsame, ce, hce, hO⟩ := X₁.ctorThrowS hexec htr (own := own) (cls := cls) (names := names) (ic := ic) hown' hcls hnames h (fun x hx => nomatch hx) hfX hkX hcellA (by rw [hhp, hT]; exact Nat.le_refl _) (msg := .ref sa) rfl
    (g := { method := m, pc := pc + 6, locals := ls, stack := .ref sa :: .ref T.heap.size :: .ref T.heap.size :: rest, locked := none }) rfl hsize rfl rfl (rest := rest) rfl
    (by rw [hb]; exact d6) (by rw [hb]; exact d9) hout hRframes (by simp only [List.map_cons, List.sum_cons, hcat]; omega) hlocks
  obtain ⟨f1, f2⟩ := vx_frame hsame
  rw [hhp] at f1 f2
  have hWs : s.WarmedH U.vm := State.WarmedH.trans hW0 hW
  have hcl : s.vm.findClass cls = some ce.cls := by
    have h9 := hO.cls
    rw [hvm] at h9
    exact h9
  have hall : s.sameButNew ({ U with vm := s.vm } : State) locs mc ms := by
    subst hA
    obtain ⟨e1, e2⟩ := hsame
    rw [State.setFrames_setFrames] at e1
    have h2 : (T.setVm s.vm).sameButNew ({ U with vm := s.vm } : State) [] (0 + 1) (0 + 6) := ⟨e1, e2⟩
    have h3 := X.same.trans h2
    rw [List.append_nil] at h3
    exact h3.mono hc hs
  refine ⟨U, ?_, .threw T.heap.size, hrun, hend, Or.inr ⟨T.heap.size, rfl, cls, ce, locs, hx U hWs.alike f1 (fun q hq => f2 q hq (fun z hz => nomatch hz)), hce, hO.vm, hcl, hWs, hall, hf⟩⟩
  refine st1 _ ?_
  show Steps p.tables e below (T1.setTop { method := m, pc := pc + 3, locals := ls, stack := .ref T.heap.size :: rest, locked := none }) _
  jvm_step X₁.here [X₁.here.top, hexec, d3', Value.category]
  exact X₁.ldcString hexec (own := own) (text := text) (index := is) (a := sa) hown' hstr'.1 hstr'.2
    (g := { method := m, pc := pc + 4, locals := ls, stack := .ref T.heap.size :: .ref T.heap.size :: rest, locked := none }) rfl d4' _ hsteps
/-- 'throw new E("text")', the text by a wide index -/
theorem vx_throwSW {cc : ByteArray} {pc : Nat} (hexec : p.tables.exec = Jvm.exec) (hb : c.code = cc) (hl : l.stackTraces = false) {own cls text : String} {names : List String} {ik is ic mc ms sa : Nat} {A : Nat → Prop}
    (hown : s.vm.findClass own = some m.cls) (hcls : Bundle.fit cls = true) (hnames : ∀ n ∈ names, Bundle.fit n = true)
    (hk : (Cond.classLink own ik cls).before args s = true) (hini : (Cond.initialized cls).before args s = true) (hstr : vk_R own is text sa s) (hat : ∀ w ∈ vx_atS own ic cls names, w.before args s = true)
    (hgood : ∀ w ∈ Cond.classLink own ik cls :: Cond.initialized cls :: vx_atS own ic cls names, vx_ot w = true)
    (hU : vx_Zq Bundle.tN "UNASSIGNED_STACK" Bundle.steD A s s.heap) (hN : vx_Zq Bundle.tN "SUPPRESSED_SENTINEL" Bundle.listD A s s.heap) (hS : va_S A s.heap H locs) (hsize : ls.size = c.maxLocals)
    (d0 : decode cc pc = .ok (.new ik, 3)) (d3 : decode cc (pc + 3) = .ok (.dup, 1)) (d4 : decode cc (pc + 4) = .ok (.ldc_w is, 3)) (d7 : decode cc (pc + 7) = .ok (.invokespecial ic, 3)) (d10 : decode cc (pc + 10) = .ok (.athrow, 1))
    (hout : ∀ x ∈ c.exceptionTable.toList, covers x (pc + 10) = false)
    (hRframes : names.length + 3 < R.frames) (hRlocals : (rest.map fun v => v.category).sum + (13 * (names.length + 1) + 43) ≤ R.locals) (hRcells : cells + 1 ≤ R.cells) (hRslots : slots + 6 ≤ R.slots) (hlocks : meth.locks = false)
    (hx : ∀ t : State, s.vm.Alike t.vm → H.size ≤ t.heap.size → (∀ q : Nat, q < H.size → t.heap[q]? = H[q]?) → XC cls s t)
    (hf : ∀ z ∈ locs, free z.base) (hc : cells + 1 ≤ mc) (hs : slots + 6 ≤ ms) :
    W p l e R s m args below meth c H locs cells slots (vx_MQ below Qc XC args s mc ms free) (F0 m pc ls rest) := by
  intro T hT X
  have htr : e.platform.stackTraces = false := (show e.platform.stackTraces = l.stackTraces by rw [X.admits.platform]).trans hl
  have Y := vx_rebase X (R' := { frames := R.frames, locals := R.locals, cells := 1, slots := 6 }) (Nat.le_refl _) (Nat.le_refl _) hRcells hRslots
  obtain ⟨s', hA⟩ : ∃ z, z = (T.setVm s.vm).setFrames (.invoking m args :: below) := ⟨_, rfl⟩
  rw [← hA] at Y
  have hvm : s'.vm = s.vm := by rw [hA]; rfl
  have hhp : s'.heap = H := by rw [hA]; exact hT
  have hW0 : s.WarmedH s'.vm := by rw [hvm]; exact State.WarmedH.refl s
  have hat' : ∀ w ∈ vx_atS own ic cls names, w.before args s' = true := fun w hw => vx_ot_at hW0 hvm.symm (hgood w (List.mem_cons_of_mem _ (List.mem_cons_of_mem _ hw))) (hat w hw)
  have hk' : (Cond.classLink own ik cls).before args s' = true := vx_ot_at hW0 hvm.symm (hgood _ List.mem_cons_self) hk
  have hini' : (Cond.initialized cls).before args s' = true := vx_ot_at hW0 hvm.symm (hgood _ (List.mem_cons_of_mem _ List.mem_cons_self)) hini
  have hU' : vx_Zq Bundle.tN "UNASSIGNED_STACK" Bundle.steD A s' s'.heap := by rw [hhp]; exact vx_Zq.moved hW0.alike (hU.kept hS.2.1)
  have hN' : vx_Zq Bundle.tN "SUPPRESSED_SENTINEL" Bundle.listD A s' s'.heap := by rw [hhp]; exact vx_Zq.moved hW0.alike (hN.kept hS.2.1)
  have h : ∀ w ∈ Bundle.ownAtoms own ic cls names, w.before args s' = true := vx_own hat' (vx_isRefq hU'.1) (vx_isRefq hN'.1) hU'.2.word hN'.2.word
  have hown' : s'.vm.findClass own = some m.cls := by rw [hvm]; exact hown
  have hins : (Cond.instantiable cls 6).before args s' = true := h _ (by simp [Bundle.ownAtoms])
  obtain ⟨vm₁, cX, kX, hfX, hkX, -, -, X₁, st1⟩ := Y.newCold hexec (own := own) (C := cls) (index := ik) (n := 6) hown' hk' hins hini'
    (g := F0 m pc ls rest) rfl (by rw [hb]; exact d0) (Nat.le_refl _) (Nat.le_refl _)
  generalize hT1 : (T.setVm vm₁).pushCell { cls := cX, slots := kX.instanceTypes.map defaultValue, vm := .none } = T1 at X₁ st1
  have hcat : (Value.ref T.heap.size).category = 1 := rfl
  have hcellA : T1.heap[T.heap.size]? = some (freshCell cX kX) := by rw [← hT1]; exact State.heap_pushCell_size _ _
  have d3' : decode c.code (pc + 3) = .ok (.dup, 1) := by rw [hb]; exact d3
  have d4' : decode c.code (pc + 4) = .ok (.ldc_w is, 3) := by rw [hb]; exact d4
  have hstr' : vk_R own is text sa s' := vk_R.warm hW0 hstr
  obtain ⟨U, hsteps, hrun, hend, hW, hsame, ce, hce, hO⟩ := X₁.ctorThrowS hexec htr (own := own) (cls := cls) (names := names) (ic := ic) hown' hcls hnames h (fun x hx => nomatch hx) hfX hkX hcellA (by rw [hhp, hT]; exact Nat.le_refl _) (msg := .ref sa) rfl
    (g := { method := m, pc := pc + 7, locals := ls, stack := .ref sa :: .ref T.heap.size :: .ref T.heap.size :: rest, locked := none }) rfl hsize rfl rfl (rest := rest) rfl
    (by rw [hb]; exact d7) (by rw [hb]; exact d10) hout hRframes (by simp only [List.map_cons, List.sum_cons, hcat]; omega) hlocks
  obtain ⟨f1, f2⟩ := vx_frame hsame
  rw [hhp] at f1 f2
  have hWs : s.WarmedH U.vm := State.WarmedH.trans hW0 hW
  have hcl : s.vm.findClass cls = some ce.cls := by
    have h9 := hO.cls
    rw [hvm] at h9
    exact h9
  have hall : s.sameButNew ({ U with vm := s.vm } : State) locs mc ms := by
    subst hA
    obtain ⟨e1, e2⟩ := hsame
    rw [State.setFrames_setFrames] at e1
    have h2 : (T.setVm s.vm).sameButNew ({ U with vm := s.vm } : State) [] (0 + 1) (0 + 6) := ⟨e1, e2⟩
    have h3 := X.same.trans h2
    rw [List.append_nil] at h3
    exact h3.mono hc hs
  refine ⟨U, ?_, .threw T.heap.size, hrun, hend, Or.inr ⟨T.heap.size, rfl, cls, ce, locs, hx U hWs.alike f1 (fun q hq => f2 q hq (fun z hz => nomatch hz)), hce, hO.vm, hcl, hWs, hall, hf⟩⟩
  refine st1 _ ?_
  show Steps p.tables e below (T1.setTop { method := m, pc := pc + 3, locals := ls, stack := .ref T.heap.size :: rest, locked := none }) _
  jvm_step X₁.here [X₁.here.top, hexec, d3', Value.category]
  exact X₁.ldcStringW hexec (own := own) (text := text) (index := is) (a := sa) hown' hstr'.1 hstr'.2
    (g := { method := m, pc := pc + 4, locals := ls, stack := .ref T.heap.size :: .ref T.heap.size :: rest, locked := none }) rfl d4' _ hsteps
end Ends
section Bodies
variable {l : Launch}
theorem vx_ofW {y : MethodName} {ws ws' : List Cond} {rm : Room} {Pc : Array Value → State → Prop} {Qc : Array Value → State → Outcome → State → Prop} {XC : String → State → State → Prop} {mc ms : Nat} {free : Addr → Prop} {cc : ByteArray} {maxL : Nat} {ret : Option FieldType}
    (hy : plainName y.cls = true) (hw : ws = Cond.code y cc maxL ret :: ws')
    (body : ∀ p e s m args below meth c s₁, BodyLoose p l y (headSpec ws rm) cc maxL ret e s m args below meth c s₁ → c.maxLocals = maxL → (∀ x ∈ c.exceptionTable.toList, False) → Pc args s →
      W p l e (headSpec ws rm).room s m args below meth c s.heap [] 0 0 (vx_MQ below Qc XC args s mc ms free) (entryFrame m args maxL)) : vx_Met l y ws rm Pc Qc XC mc ms free := by
  refine MetFree.of_bodyS (code := cc) (maxLocals := maxL) (ret := ret) hy ?_ ?_
  · intro args s m h hn
    obtain ⟨meth, c, h1, h2, h3, h4, h5, h6, -, -⟩ := Cond.code_spec hn (atoms_spec (ws := ws) h _ (by rw [hw]; exact List.mem_cons_self))
    exact ⟨meth, c, h1, h2, h3, h4, h5, h6⟩
  · intro p e s m args below meth c s₁ B hml hP _
    have hh0 : s₁.heap = s.heap := by rw [B.state]; rfl
    have ht : ∀ x ∈ c.exceptionTable.toList, False := by
      obtain ⟨meth9, c9, h1, h2, -, -, -, -, h7, -⟩ := Cond.code_spec B.named (atoms_spec (ws := ws) B.pre _ (by rw [hw]; exact List.mem_cons_self))
      cases Option.some.inj (h1.symm.trans B.method)
      cases Option.some.inj (h2.symm.trans (Stand.of_body B).code)
      intro x hx
      rw [Array.isEmpty_iff.mp h7] at hx
      cases hx
    obtain ⟨t, a1, o, b1, b2, b3⟩ := body p e s m args below meth c s₁ B hml ht hP s₁ hh0 (Stand.of_body B)
    exact ⟨t, o, a1, b1, b2, b3⟩
/-- the table of a body with handlers -/
theorem vx_table {p : Program} {x y : MethodName} {S : Spec} {cc bytes : ByteArray} {maxL maxL' : Nat} {ret ret' : Option FieldType} {e : Env} {s s₁ : State} {m : MethodId} {args : Array Value} {below : List Frame} {meth : Method} {c : Code} {hh : List (Nat × Nat × Nat × Nat)}
    (B : BodyLoose p l y S cc maxL ret e s m args below meth c s₁) (h : (Cond.codeWith y bytes maxL' ret' hh).before args s = true) : c.exceptionTable.toList = tableOf hh := by
  obtain ⟨m9, meth9, c9, hn9, h1, h2, -, -, h6, -⟩ := Cond.codeWith_spec h
  cases Option.some.inj (hn9.symm.trans B.named)
  cases Option.some.inj (h1.symm.trans B.method)
  cases Option.some.inj (h2.symm.trans (Stand.of_body B).code)
  rw [← h6, table_eq]
end Bodies
end VXA
/-! ===== END ===== -/
/-! ===== BEGIN a static call of a method with an exception table ===== -/
section VXS
variable {p : Program} {l : Launch} {e : Env} {R : Room} {s : State} {m : MethodId} {args : Array Value} {below : List Frame} {meth : Method} {c : Code} {T : State} {H : Heap} {locs : List Loc} {cells slots : Nat}
abbrev vx_CSW (R : Room) (s : State) (args : Array Value) (own : String) (index : Nat) (y : MethodName) (bytes : ByteArray) (maxL : Nat) (ret : Option FieldType) (hh : List (Nat × Nat × Nat × Nat)) (ws : List Cond) (rm : Room) (mc ms n : Nat) : Prop :=
  (rm.cells = mc ∧ rm.slots = ms ∧ rm.frames + 1 ≤ R.frames ∧ 8 + (maxL + 11) + rm.locals ≤ R.locals ∧ (∀ w ∈ ws, ∀ (a' : Array Value) (U : State), s.WarmedH U.vm → w.before a' U = true) ∧ Cond.codeWith y bytes maxL ret hh ∈ ws) ∧
  (Cond.codeWith y bytes maxL ret hh).before args s = true ∧ (Cond.initialized y.cls).before args s = true ∧ (y.cls ≠ "java/lang/invoke/MethodHandle" ∧ y.cls ≠ "java/lang/invoke/VarHandle") ∧
  (∀ sig, parseMethodDescriptor y.desc = some sig → n = sig.parameters.length) ∧ (Cond.methodLink own index y).before args s = true ∧ (Cond.static y).before args s = true
theorem vx_cwSW {own : String} {index maxL mc ms : Nat} {y : MethodName} {bytes : ByteArray} {ret : Option FieldType} {hh : List (Nat × Nat × Nat × Nat)} {Ts ws ws' : List Cond} {rm : Room} (n : Nat) (ht : ∀ w ∈ Ts, w.before args s = true) (hT : GoodIn Ts (va_wsS own index y ws)) (hw : ws = Cond.codeWith y bytes maxL ret hh :: ws') (hrc : rm.cells = mc) (hrs : rm.slots = ms)
    (hd : y.cls ≠ "java/lang/invoke/MethodHandle" ∧ y.cls ≠ "java/lang/invoke/VarHandle" ∧ (parseMethodDescriptor y.desc).map (fun d => d.parameters.length) = some n) (hR : rm.frames + 1 ≤ R.frames ∧ 8 + (maxL + 11) + rm.locals ≤ R.locals) :
    vx_CSW R s args own index y bytes maxL ret hh ws rm mc ms n := by
  have ok : ∀ w ∈ va_wsS own index y ws, w.before args s = true := fun w h => ht w (hT w h).1
  have hG : GoodIn Ts ws := fun w h => hT w (by unfold va_wsS; exact List.mem_append_right _ h)
  have hc : Cond.codeWith y bytes maxL ret hh ∈ ws := by rw [hw]; exact List.mem_cons_self
  refine ⟨⟨hrc, hrs, hR.1, hR.2, pay_in ht hG, hc⟩, ht _ (hG _ hc).1, ok _ (by simp [va_wsS]), ⟨hd.1, hd.2.1⟩, fun sig h => ?_, ok _ (by simp [va_wsS]), ok _ (by simp [va_wsS])⟩
  have h2 := hd.2.2
  rw [h] at h2
  exact (Option.some.inj h2).symm
theorem vx_callSW (X : Stand p l e R s m args below meth c T locs cells slots) (hexec : p.tables.exec = Jvm.exec) {own : String} {index : Nat} {y : MethodName} {bytes : ByteArray} {maxL : Nat} {ret : Option FieldType} {hh : List (Nat × Nat × Nat × Nat)}
    (hown : s.vm.findClass own = some m.cls) (hlink : (Cond.methodLink own index y).before args s = true) (hstat : (Cond.static y).before args s = true) (hinit : (Cond.initialized y.cls).before args s = true)
    (hcode : (Cond.codeWith y bytes maxL ret hh).before args s = true) (hy : y.cls ≠ "java/lang/invoke/MethodHandle" ∧ y.cls ≠ "java/lang/invoke/VarHandle")
    {W9 : Nat} {Pre : Pt → Array Value → Prop} {Post : Pt → Array Value → Option Value → Pt → Prop} (hK : Back l R p e below s args y 3 W9 Pre Post)
    {g : JFrame} (hg : g.method = m) (hsize : g.locals.size = c.maxLocals) {argsL rest : List Value} (hlen : ∀ sig, parseMethodDescriptor y.desc = some sig → argsL.length = sig.parameters.length)
    (hstack : g.stack = argsL.reverse ++ rest) (hW : 2 * g.monitorRoom + (rest.map fun v => v.category).sum ≤ W9) (hdg : decode c.code g.pc = .ok (.invokestatic index, 3))
    (hpre : ∀ vm₁, s.WarmedH vm₁ → Pre ⟨T.setVm vm₁, locs, cells, slots⟩ argsL.toArray) :
    ∃ (v : Option Value) (vm₁ : Vm) (B : Pt), s.WarmedH vm₁ ∧ Stand p l e R s m args below meth c B.U B.locs B.cells B.slots ∧ Post ⟨T.setVm vm₁, locs, cells, slots⟩ argsL.toArray v B ∧
      ∀ target, Steps p.tables e below (B.U.setTop { g with pc := g.pc + 3, stack := v.toList ++ rest }) target → Steps p.tables e below (T.setTop g) target := by
  obtain ⟨mk, methM, cM, hnamed, hmethM, -, -, -, -, -, -, hsigM⟩ := Cond.codeWith_spec hcode
  have hstatic : methM.isStatic = true := Cond.static_spec hnamed hmethM hstat
  obtain ⟨kP, hkP, -⟩ := className_of_methodNamed hnamed
  have hinitP : kP.init = .initialized := Cond.initialized_spec (findClass_of_methodNamed hnamed) hkP hinit
  obtain ⟨vm₁, X₁, hstep₁⟩ := X.invokestatic hexec hown hlink hnamed hmethM hstatic hkP hinitP hy (g := g) hg (argsL := argsL) (rest := rest) (hlen _ hsigM) hstack hdg
  obtain ⟨v, B, X', hpost, hsteps⟩ := hK m meth c ⟨T.setVm vm₁, locs, cells, slots⟩ { g with stack := rest } (.invokestatic index) mk argsL.toArray X₁ hg hsize hdg hW (X₁.named hnamed) (hpre vm₁ X₁.warmed)
  exact ⟨v, vm₁, B, X₁.warmed, X', hpost, fun target h => hstep₁ _ fun acts => by rw [doInvoke_state]; exact hsteps.trans h⟩
theorem vx_runSW {y : MethodName} {bytes cc : ByteArray} {maxL nL mc ms n index : Nat} {ret : Option FieldType} {hh : List (Nat × Nat × Nat × Nat)} {ws : List Cond} {rm : Room} {Pc : Array Value → State → Prop} {Qc : Array Value → State → Outcome → State → Prop} {free : Addr → Prop} {Ts : List Cond} {own : String} {As rest : List Value} {g : JFrame}
    (S : CallFix p m c cc nL s args Ts own) (hM : Met l y ws rm Pc Qc mc ms free) (cw : vx_CSW R s args own index y bytes maxL ret hh ws rm mc ms n) (hp : PreS s H Pc As)
    (hg : g.method = m) (hn : As.length = n) (hsize : g.locals.size = nL) (hstack : g.stack = As.reverse ++ rest) (hW : 2 * g.monitorRoom + (rest.map fun v => v.category).sum ≤ 8) (hdg : decode cc g.pc = .ok (.invokestatic index, 3)) (hf : cells + mc ≤ R.cells ∧ slots + ms ≤ R.slots) :
    va_Run p l e R s m args below meth c H locs cells slots mc ms g rest (Qc As.toArray) (free) := by
  obtain ⟨⟨hrc, hrs, hfr, hlo, hws, hcw⟩, hcode, hini, hy, hlen, hl, hstt⟩ := cw
  have hK : Back l R p e below s args y 3 8 (PreOf R mc ms Pc) (PostOf Qc mc ms free) := va_backW (hh := hh) (bytes := bytes) (maxL := maxL) (ret := ret) hM hp.1 hrc hrs hfr hlo hws hcw (fun a' U hW => word_at hW (Or.inl (by first | rfl | simp [Cond.onTables, Cond.keeps, Cond.steady])) hini)
  obtain ⟨hx, hb, hml, ho, -⟩ := S
  intro T hT X
  obtain ⟨v, vm₁, ⟨U', l2, c2, s2⟩, hW₁, X', ⟨g', mk, t, L, e1, e2, hq, h1, hL, h2, h3⟩, st⟩ := vx_callSW X hx (hh := hh) (bytes := bytes) (maxL := maxL) (ret := ret) ho hl hstt hini hcode hy hK hg (hsize.trans hml.symm) (argsL := As) (rest := rest) (fun sig h => hn.trans (hlen sig h)) hstack hW (by rw [hb]; exact hdg)
    (fun vm₁ hW₁ => ⟨hf.1, hf.2, hp.2 (T.setVm vm₁) hT hW₁⟩)
  dsimp only [Pt.U, Pt.locs, Pt.cells, Pt.slots] at X' e1 e2 h1 h2 h3 st
  subst h1; subst h2; subst h3
  exact ⟨v, (T.setVm vm₁).calling g' mk As.toArray, t, U', L, hT, X', hL, e1, e2, hq, st⟩
/-- not caught here, past rows that name other classes: it goes on to the caller -/
theorem vx_outP {p : Program} {l : Launch} {e : Env} {R : Room} {s : State} {m : MethodId} {args : Array Value} {below : List Frame} {meth : Method} {c : Code} {H : Heap} {locs : List Loc} {cells slots : Nat} {free : Addr → Prop} {ls : Array Slot} {rest : List Value} {Qc : Array Value → State → Outcome → State → Prop} {XC : String → State → State → Prop}
    {pc : Nat} {own E : String} {ce : Cell} {q : Addr} {mc ms : Nat} (hown : s.vm.findClass own = some m.cls) (hlocks : meth.locks = false)
    (hpass : ∀ z ∈ c.exceptionTable.toList, covers z pc = false ∨ (z.catchType ≠ 0 ∧ ∃ nm : String, (Cond.classLink own z.catchType nm).before args s = true ∧ va_Nc E nm s)) (hcell : H[q]? = some ce) (hv : ce.vm = .none) (hcl : s.vm.findClass E = some ce.cls)
    (hx : ∀ t : State, t.heap = H → s.vm.Alike t.vm → XC E s t) (hf : ∀ z ∈ locs, free z.base) (hc : cells ≤ mc) (hs : slots ≤ ms) :
    vx_W p l e R s m args below meth c H locs cells slots (vx_MQ below Qc XC args s mc ms free) (F0 m pc ls rest) q := by
  intro T hT X
  have hpl : e.platform.magicAccessors = ({} : Platform).magicAccessors := by rw [X.admits.platform]
  obtain ⟨vm', hW', X', st⟩ := X.outThrough hlocks q (g := F0 m pc ls rest) rfl rfl rfl (cell := ce) (by rw [hT]; exact hcell) (by rw [hv]; rfl)
    (by obtain ⟨k9, h9, -⟩ := Vm.findClass_spec hcl; exact ⟨k9, h9⟩) (fun z hz => by
      rcases hpass z hz with h | ⟨hz0, nm, hl1, hn1⟩
      · exact Or.inl h
      · obtain ⟨c6, hc6, hcl6⟩ := Cond.classLink_spec hown hl1 e.platform hpl
        obtain ⟨a8, b8, h1, h2, h3⟩ := hn1
        cases Option.some.inj (h1.symm.trans hcl)
        cases Option.some.inj (h2.symm.trans hc6)
        exact Or.inr ⟨hz0, _, hcl6, h3⟩)
  obtain ⟨g₀, hfr⟩ := X'.frames_eq
  have hcell9 : ((T.setVm vm').setFrames (.throwing q :: below)).heap[q]? = some ce := by
    show T.heap[q]? = some ce
    rw [hT]; exact hcell
  have hend : Ended ((T.setVm vm').setFrames (.throwing q :: below)) below (.threw q) := State.frames_setFrames _ (State.cur_lt_of_frames hfr)
  refine ⟨(T.setVm vm').setFrames (.throwing q :: below), ?_, .threw q, X'.here.running, hend, Or.inr ⟨q, rfl, E, ce, locs, hx _ hT (X'.ends _).1.alike, hcell9, hv, hcl, (X'.ends _).1, (X'.ends _).2.mono hc hs, hf⟩⟩
  rw [X.pushThrowing_eq]
  exact st
/-- a thing of a world lies in the heap -/
theorem vx_lt {D : va_G} {cl : List vw_C} {ws : va_W} {H1 : Heap} (h : va_P D cl ws H1) {k : Nat} {q : Nat × va_E} (hk : ws[k]? = some q) : q.1 < H1.size := (h k q hk).lt
end VXS
/-! ===== END ===== -/
/-! ===== BEGIN methods with a table of their own: called by a name, returning or throwing ===== -/
section VXH
/-! vx_backW, vx_callVX, vx_callSX, vx_callVW, vx_runVW, vx_runVX, vx_runSX, vx_ofWH follow the same proofs as their sisters above (Free/Laws.lean, Shelf42/LK1.lean); vx_outP calls Shelf42/NT130.lean (outThrough). -/
section
variable {l : Launch} {R : Room} {p : Program} {e : Env} {below : List Frame} {s : State} {sargs : Array Value} {y : MethodName} {len W9 : Nat}
theorem vx_backW {ws : List Cond} {rm : Room} {Pc : Array Value → State → Prop} {Qc : Array Value → State → Outcome → State → Prop} {XC : String → State → State → Prop} {mc ms : Nat} {free : Addr → Prop} {bytes : ByteArray} {maxL : Nat} {ret : Option FieldType} {hh : List (Nat × Nat × Nat × Nat)}
    (hM : vx_Met l y ws rm Pc Qc XC mc ms free) (hblind : FrameBlind Pc) (hrc : rm.cells = mc) (hrs : rm.slots = ms)
    (hframes : rm.frames + 1 ≤ R.frames) (hlocals : W9 + (maxL + 11) + rm.locals ≤ R.locals)
    (hws : ∀ w ∈ ws, ∀ a' U, s.WarmedH U.vm → w.before a' U = true) (hcode : Cond.codeWith y bytes maxL ret hh ∈ ws) (hinit : ∀ a' U, s.WarmedH U.vm → (Cond.initialized y.cls).before a' U = true) :
    vx_Back l R p e below s sargs y len W9 (PreOf R mc ms Pc) (PostOf Qc mc ms free) (vx_Post XC mc ms free) := by
  intro m meth c A g ig mk a X hg hsize hdg hW hn hp
  have h1 : (headSpec ws rm).pre.before a A.U = true := atoms_intro fun w hw => hws w hw _ _ X.warmed
  have h2 : (Cond.codeWith y bytes maxL ret hh).before a A.U = true := hws _ hcode _ _ X.warmed
  have h3 : (Cond.initialized y.cls).before a A.U = true := hinit _ _ X.warmed
  have h4 : A.cells + (headSpec ws rm).room.cells ≤ R.cells := by rw [show (headSpec ws rm).room.cells = mc from hrc]; exact hp.1
  have h5 : A.slots + (headSpec ws rm).room.slots ≤ R.slots := by rw [show (headSpec ws rm).room.slots = ms from hrs]; exact hp.2.1
  have hPc : Pc a (A.U.calling g mk a) := hblind _ _ _ _ hp.2.2
  obtain ⟨U, Ls, c0, s0⟩ := A
  dsimp only [Pt.U, Pt.locs, Pt.cells, Pt.slots] at h1 h2 h3 h4 h5 X hn hPc ⊢
  obtain ⟨m9, methY, cY, hn9, hmY, hcY, -, hlY, -⟩ := Cond.codeWith_spec h2
  cases Option.some.inj (hn9.symm.trans hn)
  obtain ⟨kY, hkY, -⟩ := className_of_methodNamed hn
  have hinitY : kY.init = .initialized := Cond.initialized_spec (findClass_of_methodNamed hn) hkY h3
  have h : At U g.method c below := by rw [hg]; exact X.here
  have hlocals9 : W9 + (maxL + 11) + (headSpec ws rm).room.locals ≤ R.locals := hlocals
  have happ : (headSpec ws rm).appliesLoose y e.platform (U.calling g mk a) = true :=
    Spec.appliesLoose_calling (g := g) h hdg hn hkY hinitY
      (X.room_calling (g := g) (R' := (headSpec ws rm).room) hsize hmY hcY hframes (by rw [hlY]; omega) h4 h5) h1
  obtain ⟨mid, hmid⟩ := h.above
  have hfr : (U.setTop g).frames = (.java g :: mid) ++ below := by rw [State.frames_setTop' g h.top, hmid]; rfl
  obtain ⟨o, s₂, hsteps, -, hend, hq⟩ := Steps.callFree hM p X.admits X.cas X.clock (acts := []) hfr happ hPc trivial
  have hq' : vx_Q Qc XC mc ms free a (U.calling g mk a) o s₂ := hq
  rw [State.frames_setTop' g h.top] at hend
  obtain ⟨g₀, hg0⟩ := Option.isSome_iff_exists.mp h.top
  obtain ⟨r, hr⟩ := State.topJava?_eq_some.mp hg0
  have hr' : (({ U with heap := s₂.heap, slotsUsed := s₂.slotsUsed } : State).setVm s₂.vm).frames = .java g₀ :: r := hr
  rcases hq' with ⟨hqc, L, hfe, hL⟩ | ⟨q, rfl, E, ce, L, hx, hce, hcv, hcl, hW₂, hsm, hL⟩
  · obtain ⟨⟨v, rfl⟩, hW₂, e2, q2, q3, q4, q5, q6⟩ := id hfe
    have e3 : s₂ = ({ (U.calling g mk a).setFrames s₂.frames with heap := s₂.heap, slotsUsed := s₂.slotsUsed } : State).setVm s₂.vm := by
      have : s₂ = ({ s₂ with vm := (U.calling g mk a).vm } : State).setVm s₂.vm := rfl
      rw [e2] at this
      exact this
    obtain ⟨c₂, i₂, len₂, hc₂, hd₂, hf₂⟩ := hend
    have hW' : U.WarmedH s₂.vm := hW₂
    have hcc : c₂ = c := by
      have h1 : s₂.code? g.method = U.code? g.method := by
        rw [State.code?_eq, State.code?_eq, hW'.alike.method?]
      exact Option.some.inj (hc₂.symm.trans (h1.trans h.code))
    subst hcc
    have hlen : len₂ = len := by rw [hdg] at hd₂; cases hd₂; rfl
    subst hlen
    have hs₂ : s₂ = (({ U with heap := s₂.heap, slotsUsed := s₂.slotsUsed } : State).setVm s₂.vm).setTop { g with pc := g.pc + len₂, stack := v.toList ++ g.stack } := by
      refine e3.trans ?_
      rw [hf₂, State.calling_eq h.top, State.setFrames_setFrames, State.setTop_of_frames _ hr', hr]
      rfl
    have hsame : U.sameButNew ({ U with heap := s₂.heap, slotsUsed := s₂.slotsUsed } : State) L mc ms := by
      refine ⟨?_, q2, q3, q4, q5, q6⟩
      obtain ⟨t, ht, -⟩ := State.frames_cons hr
      show ({ U with heap := s₂.heap, slotsUsed := s₂.slotsUsed } : State) = { U.setFrames U.frames with heap := s₂.heap, slotsUsed := s₂.slotsUsed }
      rw [State.setFrames_self ht]
    subst hg
    refine Or.inl ⟨v, ⟨(({ U with heap := s₂.heap, slotsUsed := s₂.slotsUsed } : State).setVm s₂.vm), Ls ++ L, c0 + mc, s0 + ms⟩,
      ⟨X.admits, X.cas, X.clock, X.frames, X.room, X.hears, X.method, X.code, (X.here.setHeapUsed s₂.heap s₂.slotsUsed).setVm hW'.alike, X.tail, State.WarmedH.trans X.warmed hW', X.limits, X.bytes, X.same.trans (hsame.setVm s.vm)⟩,
      ⟨g, mk, s₂, L, rfl, rfl, hqc, rfl, hL, rfl, rfl⟩, ?_⟩
    show Steps p.tables e below _ ((({ U with heap := s₂.heap, slotsUsed := s₂.slotsUsed } : State).setVm s₂.vm).setTop { g with pc := g.pc + len₂, stack := v.toList ++ g.stack })
    rw [← hs₂]
    exact hsteps
  · obtain ⟨e2, q2, q3, q4, q5, q6⟩ := id hsm
    have e3 : s₂ = ({ (U.calling g mk a).setFrames s₂.frames with heap := s₂.heap, slotsUsed := s₂.slotsUsed } : State).setVm s₂.vm := by
      have : s₂ = ({ s₂ with vm := (U.calling g mk a).vm } : State).setVm s₂.vm := rfl
      rw [e2] at this
      exact this
    have hf₂ : s₂.frames = .throwing q :: .java g :: U.frames.tail := hend
    have hW' : U.WarmedH s₂.vm := hW₂
    have hs₂ : s₂ = ((({ U with heap := s₂.heap, slotsUsed := s₂.slotsUsed } : State).setVm s₂.vm).setTop g).pushFrame (.throwing q) := by
      refine e3.trans ?_
      rw [hf₂, State.calling_eq h.top, State.setFrames_setFrames, State.pushFrame, State.frames_setTop _ hr', State.setTop_of_frames _ hr', State.setFrames_setFrames, hr]
      rfl
    have hsame : U.sameButNew ({ U with heap := s₂.heap, slotsUsed := s₂.slotsUsed } : State) L mc ms := by
      refine ⟨?_, q2, q3, q4, q5, q6⟩
      obtain ⟨t, ht, -⟩ := State.frames_cons hr
      show ({ U with heap := s₂.heap, slotsUsed := s₂.slotsUsed } : State) = { U.setFrames U.frames with heap := s₂.heap, slotsUsed := s₂.slotsUsed }
      rw [State.setFrames_self ht]
    subst hg
    refine Or.inr ⟨q, ⟨(({ U with heap := s₂.heap, slotsUsed := s₂.slotsUsed } : State).setVm s₂.vm), Ls ++ L, c0 + mc, s0 + ms⟩,
      ⟨X.admits, X.cas, X.clock, X.frames, X.room, X.hears, X.method, X.code, (X.here.setHeapUsed s₂.heap s₂.slotsUsed).setVm hW'.alike, X.tail, State.WarmedH.trans X.warmed hW', X.limits, X.bytes, X.same.trans (hsame.setVm s.vm)⟩,
      ⟨g, mk, s₂, L, E, ce, rfl, rfl, hx, hce, hcv, hcl, rfl, hL, rfl, rfl⟩, ?_⟩
    show Steps p.tables e below _ (((({ U with heap := s₂.heap, slotsUsed := s₂.slotsUsed } : State).setVm s₂.vm).setTop g).pushFrame (.throwing q))
    rw [← hs₂]
    exact hsteps
end
variable {p : Program} {l : Launch} {e : Env} {R : Room} {s : State} {m : MethodId} {args : Array Value} {below : List Frame} {meth : Method} {c : Code} {T : State} {H : Heap} {locs : List Loc} {cells slots : Nat}
theorem vx_callVX (X : Stand p l e R s m args below meth c T locs cells slots) (hexec : p.tables.exec = Jvm.exec) {own C : String} {index : Nat} {y : MethodName} {bytes : ByteArray} {maxL : Nat} {ret : Option FieldType} {hh : List (Nat × Nat × Nat × Nat)}
    (hown : s.vm.findClass own = some m.cls) (hlink : (Cond.methodLink own index y).before args s = true) (hinst : (Cond.instanceMethod y).before args s = true) (hsel : (Cond.selects C y y).before args s = true)
    (hcode : (Cond.codeWith y bytes maxL ret hh).before args s = true) (hy : y.cls ≠ "java/lang/invoke/MethodHandle" ∧ y.cls ≠ "java/lang/invoke/VarHandle")
    {W9 : Nat} {Pre : Pt → Array Value → Prop} {Post : Pt → Array Value → Option Value → Pt → Prop} {PostX : Pt → Array Value → Addr → Pt → Prop} (hK : vx_Back l R p e below s args y 3 W9 Pre Post PostX)
    {b : Addr} {cellB : Cell} (hcell : T.heap[b]? = some cellB) (hobj : cellB.vm.isStatics = false) (hcls : s.vm.findClass C = some cellB.cls)
    {g : JFrame} (hg : g.method = m) (hsize : g.locals.size = c.maxLocals) {argsL rest : List Value} (hlen : ∀ sig, parseMethodDescriptor y.desc = some sig → argsL.length = sig.parameters.length)
    (hstack : g.stack = argsL.reverse ++ .ref b :: rest) (hW : 2 * g.monitorRoom + (rest.map fun v => v.category).sum ≤ W9) (hdg : decode c.code g.pc = .ok (.invokevirtual index, 3))
    (hpre : ∀ vm₁, s.WarmedH vm₁ → Pre ⟨T.setVm vm₁, locs, cells, slots⟩ (Value.ref b :: argsL).toArray) :
    (∃ (v : Option Value) (vm₁ : Vm) (B : Pt), s.WarmedH vm₁ ∧ Stand p l e R s m args below meth c B.U B.locs B.cells B.slots ∧ Post ⟨T.setVm vm₁, locs, cells, slots⟩ (Value.ref b :: argsL).toArray v B ∧
      ∀ target, Steps p.tables e below (B.U.setTop { g with pc := g.pc + 3, stack := v.toList ++ rest }) target → Steps p.tables e below (T.setTop g) target) ∨
    (∃ (q : Addr) (vm₁ : Vm) (B : Pt), s.WarmedH vm₁ ∧ Stand p l e R s m args below meth c B.U B.locs B.cells B.slots ∧ PostX ⟨T.setVm vm₁, locs, cells, slots⟩ (Value.ref b :: argsL).toArray q B ∧
      Steps p.tables e below (T.setTop g) ((B.U.setTop { g with stack := rest }).pushFrame (.throwing q))) := by
  obtain ⟨mk, methM, hnamed, hmethM, hstM, habM⟩ := Cond.instanceMethod_spec hinst
  obtain ⟨m8, methM', cM, hn8, hmethM', -, -, -, -, -, -, hsigM⟩ := Cond.codeWith_spec hcode
  cases Option.some.inj (hn8.symm.trans hnamed)
  cases hmethM.symm.trans hmethM'
  obtain ⟨c2, r2, m2, q1, q2, q3, q4, kP, hkP, hkPi⟩ := Cond.selects_spec hsel
  cases hcls.symm.trans q1
  cases (State.methodFound?_of_named hnamed hy).symm.trans q2
  cases hnamed.symm.trans q3
  have hselP : selectMethod e.platform s.vm cellB.cls mk = .method mk := by rw [Launch.admits_selectMethod X.admits]; exact q4
  obtain ⟨vm₁, X₁, hstep₁⟩ := X.invokevirtual hexec hown hlink hnamed hmethM hstM hkP hkPi hy (a := b) (cell := cellB) hcell
    (fun z h => by rw [h] at hobj; cases hobj) hselP hmethM habM hkP hkPi (g := g) hg (argsL := argsL) (rest := rest) (hlen _ hsigM) hstack hdg
  rcases hK m meth c ⟨T.setVm vm₁, locs, cells, slots⟩ { g with stack := rest } (.invokevirtual index) mk (Value.ref b :: argsL).toArray X₁ hg hsize hdg hW (X₁.named hnamed) (hpre vm₁ X₁.warmed) with ⟨v, B, X', hpost, hsteps⟩ | ⟨q, B, X', hpost, hsteps⟩
  · exact Or.inl ⟨v, vm₁, B, X₁.warmed, X', hpost, fun target h => hstep₁ _ fun acts => by rw [doInvoke_state]; exact hsteps.trans h⟩
  · exact Or.inr ⟨q, vm₁, B, X₁.warmed, X', hpost, hstep₁ _ fun acts => by rw [doInvoke_state]; exact hsteps⟩
theorem vx_callSX (X : Stand p l e R s m args below meth c T locs cells slots) (hexec : p.tables.exec = Jvm.exec) {own : String} {index : Nat} {y : MethodName} {bytes : ByteArray} {maxL : Nat} {ret : Option FieldType} {hh : List (Nat × Nat × Nat × Nat)}
    (hown : s.vm.findClass own = some m.cls) (hlink : (Cond.methodLink own index y).before args s = true) (hstat : (Cond.static y).before args s = true) (hinit : (Cond.initialized y.cls).before args s = true)
    (hcode : (Cond.codeWith y bytes maxL ret hh).before args s = true) (hy : y.cls ≠ "java/lang/invoke/MethodHandle" ∧ y.cls ≠ "java/lang/invoke/VarHandle")
    {W9 : Nat} {Pre : Pt → Array Value → Prop} {Post : Pt → Array Value → Option Value → Pt → Prop} {PostX : Pt → Array Value → Addr → Pt → Prop} (hK : vx_Back l R p e below s args y 3 W9 Pre Post PostX)
    {g : JFrame} (hg : g.method = m) (hsize : g.locals.size = c.maxLocals) {argsL rest : List Value} (hlen : ∀ sig, parseMethodDescriptor y.desc = some sig → argsL.length = sig.parameters.length)
    (hstack : g.stack = argsL.reverse ++ rest) (hW : 2 * g.monitorRoom + (rest.map fun v => v.category).sum ≤ W9) (hdg : decode c.code g.pc = .ok (.invokestatic index, 3))
    (hpre : ∀ vm₁, s.WarmedH vm₁ → Pre ⟨T.setVm vm₁, locs, cells, slots⟩ argsL.toArray) :
    (∃ (v : Option Value) (vm₁ : Vm) (B : Pt), s.WarmedH vm₁ ∧ Stand p l e R s m args below meth c B.U B.locs B.cells B.slots ∧ Post ⟨T.setVm vm₁, locs, cells, slots⟩ argsL.toArray v B ∧
      ∀ target, Steps p.tables e below (B.U.setTop { g with pc := g.pc + 3, stack := v.toList ++ rest }) target → Steps p.tables e below (T.setTop g) target) ∨
    (∃ (q : Addr) (vm₁ : Vm) (B : Pt), s.WarmedH vm₁ ∧ Stand p l e R s m args below meth c B.U B.locs B.cells B.slots ∧ PostX ⟨T.setVm vm₁, locs, cells, slots⟩ argsL.toArray q B ∧
      Steps p.tables e below (T.setTop g) ((B.U.setTop { g with stack := rest }).pushFrame (.throwing q))) := by
  obtain ⟨mk, methM, cM, hnamed, hmethM, -, -, -, -, -, -, hsigM⟩ := Cond.codeWith_spec hcode
  have hstatic : methM.isStatic = true := Cond.static_spec hnamed hmethM hstat
  obtain ⟨kP, hkP, -⟩ := className_of_methodNamed hnamed
  have hinitP : kP.init = .initialized := Cond.initialized_spec (findClass_of_methodNamed hnamed) hkP hinit
  obtain ⟨vm₁, X₁, hstep₁⟩ := X.invokestatic hexec hown hlink hnamed hmethM hstatic hkP hinitP hy (g := g) hg (argsL := argsL) (rest := rest) (hlen _ hsigM) hstack hdg
  rcases hK m meth c ⟨T.setVm vm₁, locs, cells, slots⟩ { g with stack := rest } (.invokestatic index) mk argsL.toArray X₁ hg hsize hdg hW (X₁.named hnamed) (hpre vm₁ X₁.warmed) with ⟨v, B, X', hpost, hsteps⟩ | ⟨q, B, X', hpost, hsteps⟩
  · exact Or.inl ⟨v, vm₁, B, X₁.warmed, X', hpost, fun target h => hstep₁ _ fun acts => by rw [doInvoke_state]; exact hsteps.trans h⟩
  · exact Or.inr ⟨q, vm₁, B, X₁.warmed, X', hpost, hstep₁ _ fun acts => by rw [doInvoke_state]; exact hsteps⟩
theorem vx_callVW (X : Stand p l e R s m args below meth c T locs cells slots) (hexec : p.tables.exec = Jvm.exec) {own C : String} {index : Nat} {y : MethodName} {bytes : ByteArray} {maxL : Nat} {ret : Option FieldType} {hh : List (Nat × Nat × Nat × Nat)}
    (hown : s.vm.findClass own = some m.cls) (hlink : (Cond.methodLink own index y).before args s = true) (hinst : (Cond.instanceMethod y).before args s = true) (hsel : (Cond.selects C y y).before args s = true)
    (hcode : (Cond.codeWith y bytes maxL ret hh).before args s = true) (hy : y.cls ≠ "java/lang/invoke/MethodHandle" ∧ y.cls ≠ "java/lang/invoke/VarHandle")
    {W9 : Nat} {Pre : Pt → Array Value → Prop} {Post : Pt → Array Value → Option Value → Pt → Prop} (hK : Back l R p e below s args y 3 W9 Pre Post)
    {b : Addr} {cellB : Cell} (hcell : T.heap[b]? = some cellB) (hobj : cellB.vm.isStatics = false) (hcls : s.vm.findClass C = some cellB.cls)
    {g : JFrame} (hg : g.method = m) (hsize : g.locals.size = c.maxLocals) {argsL rest : List Value} (hlen : ∀ sig, parseMethodDescriptor y.desc = some sig → argsL.length = sig.parameters.length)
    (hstack : g.stack = argsL.reverse ++ .ref b :: rest) (hW : 2 * g.monitorRoom + (rest.map fun v => v.category).sum ≤ W9) (hdg : decode c.code g.pc = .ok (.invokevirtual index, 3))
    (hpre : ∀ vm₁, s.WarmedH vm₁ → Pre ⟨T.setVm vm₁, locs, cells, slots⟩ (Value.ref b :: argsL).toArray) :
    ∃ (v : Option Value) (vm₁ : Vm) (B : Pt), s.WarmedH vm₁ ∧ Stand p l e R s m args below meth c B.U B.locs B.cells B.slots ∧ Post ⟨T.setVm vm₁, locs, cells, slots⟩ (Value.ref b :: argsL).toArray v B ∧
      ∀ target, Steps p.tables e below (B.U.setTop { g with pc := g.pc + 3, stack := v.toList ++ rest }) target → Steps p.tables e below (T.setTop g) target := by
  obtain ⟨mk, methM, hnamed, hmethM, hstM, habM⟩ := Cond.instanceMethod_spec hinst
  obtain ⟨m8, methM', cM, hn8, hmethM', -, -, -, -, -, -, hsigM⟩ := Cond.codeWith_spec hcode
  cases Option.some.inj (hn8.symm.trans hnamed)
  cases hmethM.symm.trans hmethM'
  obtain ⟨c2, r2, m2, q1, q2, q3, q4, kP, hkP, hkPi⟩ := Cond.selects_spec hsel
  cases hcls.symm.trans q1
  cases (State.methodFound?_of_named hnamed hy).symm.trans q2
  cases hnamed.symm.trans q3
  have hselP : selectMethod e.platform s.vm cellB.cls mk = .method mk := by rw [Launch.admits_selectMethod X.admits]; exact q4
  obtain ⟨vm₁, X₁, hstep₁⟩ := X.invokevirtual hexec hown hlink hnamed hmethM hstM hkP hkPi hy (a := b) (cell := cellB) hcell
    (fun z h => by rw [h] at hobj; cases hobj) hselP hmethM habM hkP hkPi (g := g) hg (argsL := argsL) (rest := rest) (hlen _ hsigM) hstack hdg
  obtain ⟨v, B, X', hpost, hsteps⟩ := hK m meth c ⟨T.setVm vm₁, locs, cells, slots⟩ { g with stack := rest } (.invokevirtual index) mk (Value.ref b :: argsL).toArray X₁ hg hsize hdg hW (X₁.named hnamed) (hpre vm₁ X₁.warmed)
  exact ⟨v, vm₁, B, X₁.warmed, X', hpost, fun target h => hstep₁ _ fun acts => by rw [doInvoke_state]; exact hsteps.trans h⟩
abbrev vx_CVW (R : Room) (s : State) (args : Array Value) (own C : String) (index : Nat) (y : MethodName) (bytes : ByteArray) (maxL : Nat) (ret : Option FieldType) (hh : List (Nat × Nat × Nat × Nat)) (ws : List Cond) (rm : Room) (mc ms n : Nat) : Prop :=
  (rm.cells = mc ∧ rm.slots = ms ∧ rm.frames + 1 ≤ R.frames ∧ 8 + (maxL + 11) + rm.locals ≤ R.locals ∧ (∀ w ∈ ws, ∀ (a' : Array Value) (U : State), s.WarmedH U.vm → w.before a' U = true) ∧ Cond.codeWith y bytes maxL ret hh ∈ ws) ∧
  (Cond.codeWith y bytes maxL ret hh).before args s = true ∧ (Cond.initialized y.cls).before args s = true ∧ (y.cls ≠ "java/lang/invoke/MethodHandle" ∧ y.cls ≠ "java/lang/invoke/VarHandle") ∧
  (∀ sig, parseMethodDescriptor y.desc = some sig → n = sig.parameters.length) ∧ (Cond.methodLink own index y).before args s = true ∧ (Cond.instanceMethod y).before args s = true ∧ (Cond.selects C y y).before args s = true
theorem vx_cwVW {own C : String} {index maxL mc ms : Nat} {y : MethodName} {bytes : ByteArray} {ret : Option FieldType} {hh : List (Nat × Nat × Nat × Nat)} {Ts ws ws' : List Cond} {rm : Room} (n : Nat) (ht : ∀ w ∈ Ts, w.before args s = true) (hT : GoodIn Ts (wsV own index C y ws)) (hw : ws = Cond.codeWith y bytes maxL ret hh :: ws') (hrc : rm.cells = mc) (hrs : rm.slots = ms)
    (hd : y.cls = C ∧ y.cls ≠ "java/lang/invoke/MethodHandle" ∧ y.cls ≠ "java/lang/invoke/VarHandle" ∧ (parseMethodDescriptor y.desc).map (fun d => d.parameters.length) = some n) (hR : rm.frames + 1 ≤ R.frames ∧ 8 + (maxL + 11) + rm.locals ≤ R.locals) :
    vx_CVW R s args own C index y bytes maxL ret hh ws rm mc ms n := by
  obtain ⟨hC, hd⟩ := hd
  subst hC
  have ok : ∀ w ∈ wsV own index y.cls y ws, w.before args s = true := fun w h => ht w (hT w h).1
  have hG : GoodIn Ts ws := fun w h => hT w (by unfold wsV; exact List.mem_append_right _ h)
  have hc : Cond.codeWith y bytes maxL ret hh ∈ ws := by rw [hw]; exact List.mem_cons_self
  refine ⟨⟨hrc, hrs, hR.1, hR.2, pay_in ht hG, hc⟩, ht _ (hG _ hc).1, ok _ (by simp [wsV]), ⟨hd.1, hd.2.1⟩, fun sig h => ?_, ok _ (by simp [wsV]), ok _ (by simp [wsV]), ok _ (by simp [wsV])⟩
  have h2 := hd.2.2
  rw [h] at h2
  exact (Option.some.inj h2).symm
theorem vx_runVW {y : MethodName} {bytes cc : ByteArray} {maxL nL mc ms n index : Nat} {ret : Option FieldType} {hh : List (Nat × Nat × Nat × Nat)} {ws : List Cond} {rm : Room} {Pc : Array Value → State → Prop} {Qc : Array Value → State → Outcome → State → Prop} {free : Addr → Prop} {Ts : List Cond} {own C : String} {b : Addr} {As rest : List Value} {g : JFrame}
    (S : CallFix p m c cc nL s args Ts own) (hM : Met l y ws rm Pc Qc mc ms free) (cw : vx_CVW R s args own C index y bytes maxL ret hh ws rm mc ms n) (hp : PreV s H C b Pc As)
    (hg : g.method = m) (hn : As.length = n) (hsize : g.locals.size = nL) (hstack : g.stack = As.reverse ++ .ref b :: rest) (hW : 2 * g.monitorRoom + (rest.map fun v => v.category).sum ≤ 8) (hdg : decode cc g.pc = .ok (.invokevirtual index, 3)) (hf : cells + mc ≤ R.cells ∧ slots + ms ≤ R.slots) :
    va_Run p l e R s m args below meth c H locs cells slots mc ms g rest (Qc (Value.ref b :: As).toArray) free := by
  obtain ⟨⟨hrc, hrs, hfr, hlo, hws, hcw⟩, hcode, hini, hy, hlen, hl, hin, hse⟩ := cw
  have hK : Back l R p e below s args y 3 8 (PreOf R mc ms Pc) (PostOf Qc mc ms free) := va_backW (hh := hh) (bytes := bytes) (maxL := maxL) (ret := ret) hM hp.1 hrc hrs hfr hlo hws hcw (fun a' U hW => word_at hW (Or.inl (by first | rfl | simp [Cond.onTables, Cond.keeps, Cond.steady])) hini)
  obtain ⟨hx, hb, hml, ho, -⟩ := S
  obtain ⟨-, ⟨cellB, hcB, hoB, hclB⟩, hPc⟩ := hp
  intro T hT X
  obtain ⟨v, vm₁, ⟨U', l2, c2, s2⟩, hW₁, X', ⟨g', mk, t, L, e1, e2, hq, h1, hL, h2, h3⟩, st⟩ := vx_callVW X hx (C := C) (hh := hh) (bytes := bytes) (maxL := maxL) (ret := ret) ho hl hin hse hcode hy hK (by rw [hT]; exact hcB) hoB hclB hg (hsize.trans hml.symm) (argsL := As) (rest := rest) (fun sig h => hn.trans (hlen sig h)) hstack hW (by rw [hb]; exact hdg)
    (fun vm₁ hW₁ => ⟨hf.1, hf.2, hPc (T.setVm vm₁) hT hW₁⟩)
  dsimp only [Pt.U, Pt.locs, Pt.cells, Pt.slots] at X' e1 e2 h1 h2 h3 st
  subst h1; subst h2; subst h3
  exact ⟨v, (T.setVm vm₁).calling g' mk (Value.ref b :: As).toArray, t, U', L, hT, X', hL, e1, e2, hq, st⟩
section
variable {y : MethodName} {bytes cc : ByteArray} {maxL nL mc ms n index : Nat} {ret : Option FieldType} {ws : List Cond} {rm : Room} {Pc : Array Value → State → Prop} {Qc : Array Value → State → Outcome → State → Prop} {XC : String → State → State → Prop} {free : Addr → Prop} {Ts : List Cond} {own C : String} {b : Addr} {As rest : List Value} {g : JFrame}
theorem vx_runVX {hh : List (Nat × Nat × Nat × Nat)} (S : CallFix p m c cc nL s args Ts own) (hM : vx_Met l y ws rm Pc Qc XC mc ms free) (cw : vx_CVW R s args own C index y bytes maxL ret hh ws rm mc ms n) (hp : PreV s H C b Pc As)
    (hg : g.method = m) (hn : As.length = n) (hsize : g.locals.size = nL) (hstack : g.stack = As.reverse ++ .ref b :: rest) (hW : 2 * g.monitorRoom + (rest.map fun v => v.category).sum ≤ 8) (hdg : decode cc g.pc = .ok (.invokevirtual index, 3)) (hf : cells + mc ≤ R.cells ∧ slots + ms ≤ R.slots) :
    vx_Run p l e R s m args below meth c H locs cells slots mc ms g rest (Qc (Value.ref b :: As).toArray) XC free := by
  obtain ⟨⟨hrc, hrs, hfr, hlo, hws, hcw⟩, hcode, hini, hy, hlen, hl, hin, hse⟩ := cw
  have hK : vx_Back l R p e below s args y 3 8 (PreOf R mc ms Pc) (PostOf Qc mc ms free) (vx_Post XC mc ms free) := vx_backW (hh := hh) (bytes := bytes) (maxL := maxL) (ret := ret) hM hp.1 hrc hrs hfr hlo hws hcw (fun a' U hW => word_at hW (Or.inl (by first | rfl | simp [Cond.onTables, Cond.keeps, Cond.steady])) hini)
  obtain ⟨hx, hb, hml, ho, -⟩ := S
  obtain ⟨-, ⟨cellB, hcB, hoB, hclB⟩, hPc⟩ := hp
  intro T hT X
  rcases vx_callVX X hx (C := C) (hh := hh) (bytes := bytes) (maxL := maxL) (ret := ret) ho hl hin hse hcode hy hK (by rw [hT]; exact hcB) hoB hclB hg (hsize.trans hml.symm) (argsL := As) (rest := rest) (fun sig h => hn.trans (hlen sig h)) hstack hW (by rw [hb]; exact hdg)
    (fun vm₁ hW₁ => ⟨hf.1, hf.2, hPc (T.setVm vm₁) hT hW₁⟩) with ⟨v, vm₁, ⟨U', l2, c2, s2⟩, hW₁, X', ⟨g', mk, t, L, e1, e2, hq, h1, hL, h2, h3⟩, st⟩ | ⟨q, vm₁, ⟨U', l2, c2, s2⟩, hW₁, X', ⟨g', mk, t, L, E, ce, e1, e2, hq, hce, hcv, hcl, h1, hL, h2, h3⟩, st⟩
  · dsimp only [Pt.U, Pt.locs, Pt.cells, Pt.slots] at X' e1 e2 h1 h2 h3 st
    subst h1; subst h2; subst h3
    exact Or.inl ⟨v, (T.setVm vm₁).calling g' mk (Value.ref b :: As).toArray, t, U', L, hT, X', hL, e1, e2, hq, st⟩
  · dsimp only [Pt.U, Pt.locs, Pt.cells, Pt.slots] at X' e1 e2 h1 h2 h3 st hcl
    subst h1; subst h2; subst h3
    exact Or.inr ⟨q, (T.setVm vm₁).calling g' mk (Value.ref b :: As).toArray, t, U', L, E, ce, hT, X', hL, e1, e2, hq, hce, hcv, vx_cls hW₁ hcl, st⟩
theorem vx_runSX {hh : List (Nat × Nat × Nat × Nat)} (S : CallFix p m c cc nL s args Ts own) (hM : vx_Met l y ws rm Pc Qc XC mc ms free) (cw : vx_CSW R s args own index y bytes maxL ret hh ws rm mc ms n) (hp : PreS s H Pc As)
    (hg : g.method = m) (hn : As.length = n) (hsize : g.locals.size = nL) (hstack : g.stack = As.reverse ++ rest) (hW : 2 * g.monitorRoom + (rest.map fun v => v.category).sum ≤ 8) (hdg : decode cc g.pc = .ok (.invokestatic index, 3)) (hf : cells + mc ≤ R.cells ∧ slots + ms ≤ R.slots) :
    vx_Run p l e R s m args below meth c H locs cells slots mc ms g rest (Qc As.toArray) XC free := by
  obtain ⟨⟨hrc, hrs, hfr, hlo, hws, hcw⟩, hcode, hini, hy, hlen, hl, hstt⟩ := cw
  have hK : vx_Back l R p e below s args y 3 8 (PreOf R mc ms Pc) (PostOf Qc mc ms free) (vx_Post XC mc ms free) := vx_backW (hh := hh) (bytes := bytes) (maxL := maxL) (ret := ret) hM hp.1 hrc hrs hfr hlo hws hcw (fun a' U hW => word_at hW (Or.inl (by first | rfl | simp [Cond.onTables, Cond.keeps, Cond.steady])) hini)
  obtain ⟨hx, hb, hml, ho, -⟩ := S
  intro T hT X
  rcases vx_callSX X hx (hh := hh) (bytes := bytes) (maxL := maxL) (ret := ret) ho hl hstt hini hcode hy hK hg (hsize.trans hml.symm) (argsL := As) (rest := rest) (fun sig h => hn.trans (hlen sig h)) hstack hW (by rw [hb]; exact hdg)
    (fun vm₁ hW₁ => ⟨hf.1, hf.2, hp.2 (T.setVm vm₁) hT hW₁⟩) with ⟨v, vm₁, ⟨U', l2, c2, s2⟩, hW₁, X', ⟨g', mk, t, L, e1, e2, hq, h1, hL, h2, h3⟩, st⟩ | ⟨q, vm₁, ⟨U', l2, c2, s2⟩, hW₁, X', ⟨g', mk, t, L, E, ce, e1, e2, hq, hce, hcv, hcl, h1, hL, h2, h3⟩, st⟩
  · dsimp only [Pt.U, Pt.locs, Pt.cells, Pt.slots] at X' e1 e2 h1 h2 h3 st
    subst h1; subst h2; subst h3
    exact Or.inl ⟨v, (T.setVm vm₁).calling g' mk As.toArray, t, U', L, hT, X', hL, e1, e2, hq, st⟩
  · dsimp only [Pt.U, Pt.locs, Pt.cells, Pt.slots] at X' e1 e2 h1 h2 h3 st hcl
    subst h1; subst h2; subst h3
    exact Or.inr ⟨q, (T.setVm vm₁).calling g' mk As.toArray, t, U', L, E, ce, hT, X', hL, e1, e2, hq, hce, hcv, vx_cls hW₁ hcl, st⟩
end
end VXH
theorem vx_ofWH {l : Launch} {y : MethodName} {ws ws' : List Cond} {rm : Room} {Pc : Array Value → State → Prop} {Qc : Array Value → State → Outcome → State → Prop} {XC : String → State → State → Prop} {mc ms : Nat} {free : Addr → Prop} {cc : ByteArray} {maxL : Nat} {ret : Option FieldType} {hh : List (Nat × Nat × Nat × Nat)}
    (hy : plainName y.cls = true) (hw : ws = Cond.codeWith y cc maxL ret hh :: ws')
    (body : ∀ p e s m args below meth c s₁, BodyLoose p l y (headSpec ws rm) cc maxL ret e s m args below meth c s₁ → c.maxLocals = maxL → Pc args s →
      W p l e (headSpec ws rm).room s m args below meth c s.heap [] 0 0 (vx_MQ below Qc XC args s mc ms free) (entryFrame m args maxL)) : vx_Met l y ws rm Pc Qc XC mc ms free := by
  refine MetFree.of_bodyS (code := cc) (maxLocals := maxL) (ret := ret) hy ?_ ?_
  · intro args s m h hn
    obtain ⟨m9, meth, c, hn9, h1, h2, h3, h4, -, h5, h6, -⟩ := Cond.codeWith_spec (atoms_spec (ws := ws) h _ (by rw [hw]; exact List.mem_cons_self))
    cases hn.symm.trans hn9
    exact ⟨meth, c, h1, h2, h3, h4, h5, h6⟩
  · intro p e s m args below meth c s₁ B hml hP _
    have hh0 : s₁.heap = s.heap := by rw [B.state]; rfl
    obtain ⟨t, a1, o, b1, b2, b3⟩ := body p e s m args below meth c s₁ B hml hP s₁ hh0 (Stand.of_body B)
    exact ⟨t, o, a1, b1, b2, b3⟩
/-! ===== END ===== -/

/-! ===== BEGIN what the machine throws by itself, no traces kept ===== -/
section VXM
set_option maxHeartbeats 1000000 in
/-- the machine throws cls with the message text, no traces kept: from its note over the frame g to 'throwing' over the same frame (follows the proofs of Stand.vmThrowsMessage, Shelf/KitTracedVmS.lean, and Stand.throwsMessageColdBareV, StandMessageColdV.lean, without the step out of the frame) -/
theorem vx_vmAt {p : Program} {l : Launch} {e : Env} {R : Room} {s : State} {m₀ : MethodId} {args : Array Value} {below : List Frame} {meth : Method} {c : Code} {W : State} {locs : List Loc} {cells slots : Nat}
    (X : Stand p l e R s m₀ args below meth c W locs cells slots) (hexec : p.tables.exec = Jvm.exec) (htr : e.platform.stackTraces = false) {cls : String} {names : List String} {text : String}
    (hcls : Bundle.fit cls = true) (hnames : ∀ n ∈ names, Bundle.fit n = true) (hsoe : (cls == "java/lang/StackOverflowError") = false) (hoom : (cls == "java/lang/OutOfMemoryError") = false)
    (h : ∀ a ∈ Bundle.messageArmAtoms cls names, a.before args s = true)
    (hlocs : ∀ x ∈ locs, ∀ cell, s.heap[x.base]? = some cell → cell.vm.isStatics = false)
    (htext : (text == notModelled) = false) (hlimit : ¬ (stringBytes (stringToUtf16 text)).size > e.platform.arrayLengthLimit) (hheap : ¬ (stringBytes (stringToUtf16 text)).size * componentBytes .byte > e.platform.maxHeapBytes)
    {g : JFrame} (hg : g.method = m₀) (hsize : g.locals.size = c.maxLocals)
    (hRframes : names.length + 4 < R.frames) (hRlocals : 2 * g.monitorRoom + (g.stack.map fun v => v.category).sum + 10240 ≤ R.locals) (hshort : 13 * names.length + 55 ≤ 10240)
    (hRcells : cells + 3 ≤ R.cells) (hRslots : slots + ((stringBytes (stringToUtf16 text)).size + 4 + 6) ≤ R.slots) (hlocks : meth.locks = false) :
    ∃ (S : State) (q : Addr) (ce : Cell), (∀ target, Steps p.tables e below ((S.setTop g).pushFrame (.throwing q)) target → Steps p.tables e below ((W.setTop g).pushFrame (.throwNew cls (some text) none)) target) ∧
      Stand p l e R s m₀ args below meth c S locs (cells + 3) (slots + ((stringBytes (stringToUtf16 text)).size + 4 + 6)) ∧ S.heap[q]? = some ce ∧ s.vm.findClass cls = some ce.cls ∧ ce.vm = .none := by
  have howns : e.platform.frameOwnsMonitors = true := by rw [X.admits.platform]
  have hfin : e.platform.finalization = false := by rw [X.admits.platform]
  have hpl : e.platform.magicAccessors = ({} : Platform).magicAccessors := by rw [X.admits.platform]
  have a : ∀ x, x ∈ Bundle.messageArmAtoms cls names → x.holds args s none s [] = true := fun x hx => h x hx
  obtain ⟨T, Z0, L, -, Y⟩ := ThrowableC.of_atoms (args := args) howns hfin hpl (fun x hx => h x (by simp [Bundle.messageArmAtoms, hx]))
  obtain ⟨Z, M, LZ, LM, hnZ⟩ := Init0T.ofS_atoms (args := args) hpl L Y (fun x hx => h x (by simp [Bundle.messageArmAtoms, hx]))
  obtain ⟨P1, Ps, hlen, L1, hL, hP1m, hlink1, hlink⟩ := Bundle.chainS (args := args) hpl hnZ names cls hcls hnames (fun x hx => h x (by simp [Bundle.messageArmAtoms, hx]))
  obtain ⟨Zs, LZs, hn4, hfitv, hfitc⟩ := StringT.of_atoms (args := args) (fun x hx => h x (by simp [Bundle.messageArmAtoms, hx]))
  have hfound : s.vm.findClass cls = some P1.m.cls := findClass_of_methodNamed hP1m
  obtain ⟨c1, kX, hc1, hk, hord, -, -, hn6⟩ := Cond.instantiable_spec (a (.instantiable cls 6) (by simp [Bundle.messageArmAtoms]))
  cases Option.some.inj (hc1.symm.trans hfound)
  have hinit := Cond.initialized_spec hfound hk (a (.initialized cls) (by simp [Bundle.messageArmAtoms]))
  have hctor : kX.findMethod "<init>" "(Ljava/lang/String;)V" = some P1.m.idx := findMethod_of_methodNamed hP1m hk
  have hsel0 : selectMethod e.platform s.vm P1.m.cls T.fill0 = .method T.fill0 := by
    obtain ⟨c2, r2, m2, q1, q2, q3, q4, -⟩ := Cond.selects_spec (a (.selects cls Bundle.tFill0 Bundle.tFill0) (by simp [Bundle.messageArmAtoms]))
    cases Option.some.inj (q1.symm.trans hfound)
    cases Option.some.inj (q2.symm.trans (State.methodFound?_of_named Y.fill0 (by decide)))
    cases Option.some.inj (q3.symm.trans Y.fill0)
    rw [Launch.admits_selectMethod X.admits]; exact q4
  have hselF : selectMethod e.platform s.vm P1.m.cls T.fill = .method T.fill := by
    obtain ⟨c2, r2, m2, q1, q2, q3, q4, -⟩ := Cond.selects_spec (a (.selects cls Bundle.tFill Bundle.tFill) (by simp [Bundle.messageArmAtoms]))
    cases Option.some.inj (q1.symm.trans hfound)
    cases Option.some.inj (q2.symm.trans (State.methodFound?_of_named Y.fill (by decide)))
    cases Option.some.inj (q3.symm.trans Y.fill)
    rw [Launch.admits_selectMethod X.admits]; exact q4
  obtain ⟨cellS0, hcS0, hiss⟩ := Y.statics
  obtain ⟨u0, hu0⟩ := Cond.staticRefV Y.unassigned L.unassignedStatic L.statics hcS0 hiss (a (.isRef (.static Bundle.tN "UNASSIGNED_STACK" Bundle.steD)) (by simp [Bundle.messageArmAtoms]))
  obtain ⟨sen, hsen⟩ := Cond.staticRefV Y.sentinel L.sentinelStatic L.statics hcS0 hiss (a (.isRef (.static Bundle.tN "SUPPRESSED_SENTINEL" Bundle.listD)) (by simp [Bundle.messageArmAtoms]))
  obtain ⟨ci198, i198, fB, hk198, hg198, ha198, hsB, -, hnB, htB, hffB⟩ := Cond.ownField (t := .object "java/lang/Object") Y.found L.cls (by decide +kernel) (a (.fieldLink Bundle.tN 198 Bundle.tN "backtrace" "Ljava/lang/Object;") (by simp [Bundle.messageArmAtoms])) (a (.lays Bundle.tN Bundle.tN "backtrace" "Ljava/lang/Object;") (by simp [Bundle.messageArmAtoms])) e.platform hpl
  obtain ⟨cellS, hcS', heS, -, hkeep⟩ := X.same.2.2.2.2.2 T.aS cellS0 hcS0
  have hcellS : W.heap[T.aS]? = some cellS := hcS'
  have hout' : ∀ i, (⟨T.aS, i⟩ : Loc) ∉ locs := fun i hmem => by
    have := hlocs _ hmem cellS0 hcS0
    rw [hiss] at this; cases this
  have hknownS : cellS.vm ≠ .unknown := by
    rw [heS]; intro hu
    rw [show cellS0.vm = .unknown from hu] at hiss
    cases hiss
  have hvU : cellS.slots[T.fUnassigned.slot]? = some u0.v := by rw [hkeep _ (hout' _)]; exact hu0
  have hvSen : cellS.slots[T.fSentinel.slot]? = some sen.v := by rw [hkeep _ (hout' _)]; exact hsen
  obtain ⟨iM, hffM⟩ := Y.msg
  obtain ⟨tyC, dC, hdC, hdnC⟩ := Cond.laysAt hfound hk Y.cause (a (.lays cls Bundle.tN "cause" "Ljava/lang/Throwable;") (by simp [Bundle.messageArmAtoms]))
  obtain ⟨tyS, dS, hdS, hdnS⟩ := Cond.laysAt hfound hk Y.stack (a (.lays cls Bundle.tN "stackTrace" Bundle.steD) (by simp [Bundle.messageArmAtoms]))
  obtain ⟨tyP, dP, hdP, hdnP⟩ := Cond.laysAt hfound hk Y.supp (a (.lays cls Bundle.tN "suppressedExceptions" Bundle.listD) (by simp [Bundle.messageArmAtoms]))
  obtain ⟨tyM, dM, hdM, hdnM⟩ := Cond.laysAt hfound hk hffM (a (.lays cls Bundle.tN "detailMessage" "Ljava/lang/String;") (by simp [Bundle.messageArmAtoms]))
  obtain ⟨tyB, dB, hdB, hdnB⟩ := Cond.laysAt hfound hk hffB (a (.lays cls Bundle.tN "backtrace" "Ljava/lang/Object;") (by simp [Bundle.messageArmAtoms]))
  have bC := Cond.laysApart hdB hdC hdnB hdnC (by rw [hnB, Y.causeName]; decide)
  have bS := Cond.laysApart hdB hdS hdnB hdnS (by rw [hnB, Y.stackName]; decide)
  have bP := Cond.laysApart hdB hdP hdnB hdnP (by rw [hnB, Y.suppName]; decide)
  have hbk : ((preparedCellV T.toThrowableT (freshCell P1.m.cls kX) (W.heap.size + 2) u0 sen).withEntry W.cur).slots[fB.slot]? = some .null := by
    have := fresh_default (c := P1.m.cls) tyB
    rw [htB] at this
    simpa [preparedCellV, Cell.setSlot, Cell.withEntry, Array.getElem?_setIfInBounds, bC, bS, bP, bC.symm, bS.symm, bP.symm, defaultValue] using this
  have tkC := Takes.of_laid (v := .ref (W.heap.size + 2)) hk hord tyC (by rw [Y.causeType]; rfl)
  have tkS := Takes.of_laid (v := u0.v) hk hord tyS (by rw [Y.stackType]; exact fits_refV_array _ u0)
  have tkP := Takes.of_laid (v := sen.v) hk hord tyP (by rw [Y.suppType]; exact fits_refV_object _ sen)
  have tkM := Takes.of_laid (v := .ref (W.heap.size + 1)) hk hord tyM (by rw [Y.msgType]; rfl)
  have hskip : SkipFacts T e.platform s (fun u => u) u0 ((preparedCellV T.toThrowableT (freshCell P1.m.cls kX) (W.heap.size + 2) u0 sen).withEntry W.cur) := ⟨{ ci198 := ci198, i198 := i198, fBack := fB }, ⟨hk198, hg198, ha198, hsB⟩, hbk, fun _ _ => rfl⟩
  have h0 : At W g.method c below := by rw [hg]; exact X.here
  obtain ⟨hbeyond, hfreeW⟩ := X.vmMayThrow hsize (.throwNew cls (some text) none) (fun f hf => by cases hf) rfl hRlocals
  have hfr' : W.frames.length + Ps.length + 4 < (e.platform.stackLimits W.me).1 := by have := X.framesAbove hRframes; omega
  have hwd' : (stackUse (.java g :: W.frames.tail)).2 + 13 * Ps.length + 55 ≤ (e.platform.stackLimits W.me).2 := by have := X.stackAbove hsize (K := 13 * Ps.length + 55) (by omega); omega
  have hslots : W.slotsUsed + (stringBytes (stringToUtf16 text)).size + Zs.kS.instanceTypes.size + kX.instanceTypes.size ≤ e.platform.maxSlots := by
    have := X.slotsAbove hRslots
    rw [hn4, hn6]
    omega
  obtain ⟨vm', hW', st⟩ := Steps.vmThrowsMessageColdByV p (s₀ := s) (S := W) (g := g) h0 hexec T L Z LZ M LM X.warmed (t := W.cur) rfl Zs LZs P1 L1 Ps hL hlink1 hlink hsoe hoom hfound hk hinit hord hctor
    (Launch.admits_hotImplicitExceptions X.admits) hbeyond hfreeW htext hlimit hheap (X.cellsAbove hRcells) hslots (hfitv _) (hfitc _)
    (Nn := fun u => u) heapOnly_id (fun _ _ => rfl) (fun _ => rfl) (fun u x y => setCell_twice _ _ _ _) (fun _ => Nat.le_refl _) (cN := ((preparedCellV T.toThrowableT (freshCell P1.m.cls kX) (W.heap.size + 2) u0 sen).withEntry W.cur))
    hsel0 hcellS hknownS hvU tkS (fun _ hu => hu) (fun _ hu => hu) rfl rfl rfl (by simp [preparedCellV, Cell.setSlot, Cell.withEntry]) hskip (fun _ _ hA hW _ hroom _ hrest => L.nativeOff p htr hA hW hroom hrest) hselF hvSen tkC tkP tkM Y.objLocals rfl hfr' hwd'
  rw [plainBareV_eq T.toThrowableT (W.heap.size + 2) u0 sen (.ref (W.heap.size + 1)) W.cur rfl rfl] at st
  obtain ⟨-, -, w3, w4, -, -, -⟩ := withThrown_facts e.platform W Zs text P1.m.cls kX
  have X3 := ((X.pushed (bytesOf Zs.cB (stringToUtf16 text))).pushed (stringAt Zs.cS Zs.kS Zs.fv Zs.fc (stringToUtf16 text) W.heap.size)).pushed (freshCell P1.m.cls kX)
  rw [← withString_eq] at X3
  have X4 := X3.noted hW'
  have ha : (W.heap.size + 2) < ((withThrown W Zs text P1.m.cls kX).setVm vm').heap.size := by show _ < (withThrown W Zs text P1.m.cls kX).heap.size; rw [w3]; omega
  have hcell : ((withThrown W Zs text P1.m.cls kX).setVm vm').heap[(W.heap.size + 2)]? = some (freshCell P1.m.cls kX) := w4
  have X5 := ((((X4.stored hcell T.fCause.slot (.ref (W.heap.size + 2))).storedAgain ha T.fStack.slot u0.v).storedAgain ha T.fSupp.slot sen.v).storedAgain ha T.fStack.slot u0.v).storedAgain ha T.fMsg.slot (.ref (W.heap.size + 1))
  obtain ⟨g₁, hfrM⟩ := X5.frames_eq
  have hU : ((((withThrown W Zs text P1.m.cls kX).setVm vm').setCell (W.heap.size + 2) (plainBareV T.toThrowableT (freshCell P1.m.cls kX) (W.heap.size + 2) u0 sen (.ref (W.heap.size + 1)))).setTop g).pushFrame (.throwing (W.heap.size + 2)) = (((withThrown W Zs text P1.m.cls kX).setVm vm').setCell (W.heap.size + 2) (plainBareV T.toThrowableT (freshCell P1.m.cls kX) (W.heap.size + 2) u0 sen (.ref (W.heap.size + 1)))).setFrames (.throwing (W.heap.size + 2) :: .java g :: below) := by
    rw [State.pushFrame, State.frames_setTop _ hfrM, State.setTop_of_frames _ hfrM, State.setFrames_setFrames]
  have b1 : (bytesOf Zs.cB (stringToUtf16 text)).slots.size = (stringBytes (stringToUtf16 text)).size := by
    rw [(Cell.writeAll_facts _ _).2.2]; simp [bytes0]
  have b2 : (stringAt Zs.cS Zs.kS Zs.fv Zs.fc (stringToUtf16 text) W.heap.size).slots.size = 4 := by simp [string0, Cell.setSlot, hn4]
  have b3 : (freshCell P1.m.cls kX).slots.size = 6 := by simp [hn6]
  rw [b1, b2, b3] at X5
  have e9 : slots + (stringBytes (stringToUtf16 text)).size + 4 + 6 = slots + ((stringBytes (stringToUtf16 text)).size + 4 + 6) := by omega
  rw [e9] at X5
  simp only [List.append_assoc, List.cons_append, List.nil_append] at X5
  refine ⟨((withThrown W Zs text P1.m.cls kX).setVm vm').setCell (W.heap.size + 2) (plainBareV T.toThrowableT (freshCell P1.m.cls kX) (W.heap.size + 2) u0 sen (.ref (W.heap.size + 1))), W.heap.size + 2, _, fun target ht => st _ (by rw [X.tail, ← hU]; exact ht),
    X5.forget (fun y hy => ?_), heapAt_setCell_self _ ha, hfound, rfl⟩
  simp only [List.mem_cons, List.not_mem_nil, or_false] at hy
  have hge : s.heap.size ≤ W.heap.size := X.same.2.1
  rcases hy with rfl | rfl | rfl | rfl | rfl <;> exact Nat.le_trans hge (Nat.le_add_right _ 2)
set_option maxHeartbeats 1000000 in
/-- the machine throws NullPointerException, no traces kept: from its note over the frame g to 'throwing' over the same frame (follows the proof of Stand.vmThrowsNpe, Shelf42/KT2.lean; throwsNpeColdBareVAt, Shelf42/NT91.lean, called) -/
theorem vx_npeAt {p : Program} {l : Launch} {e : Env} {R : Room} {s : State} {m₀ : MethodId} {args : Array Value} {below : List Frame} {meth : Method} {c : Code} {W : State} {locs : List Loc} {cells slots : Nat}
    (X : Stand p l e R s m₀ args below meth c W locs cells slots) (hexec : p.tables.exec = Jvm.exec) (htr : e.platform.stackTraces = false) {n : Nat}
    (h : ∀ a ∈ Bundle.npeArmAtoms n, a.before args s = true)
    (hlocs : ∀ x ∈ locs, ∀ cell, s.heap[x.base]? = some cell → cell.vm.isStatics = false)
    {g : JFrame} (hg : g.method = m₀) (hsize : g.locals.size = c.maxLocals)
    (hRframes : 7 < R.frames) (hRlocals : 2 * g.monitorRoom + (g.stack.map fun v => v.category).sum + 10240 ≤ R.locals)
    (hRcells : cells + 1 ≤ R.cells) (hRslots : slots + n ≤ R.slots) (hlocks : meth.locks = false) :
    ∃ (S : State) (q : Addr) (ce : Cell), (∀ target, Steps p.tables e below ((S.setTop g).pushFrame (.throwing q)) target → Steps p.tables e below ((W.setTop g).pushFrame (.throwNew "java/lang/NullPointerException" none none)) target) ∧
      Stand p l e R s m₀ args below meth c S locs (cells + 1) (slots + n) ∧ S.heap[q]? = some ce ∧ s.vm.findClass "java/lang/NullPointerException" = some ce.cls ∧ ce.vm = .none := by
  have howns : e.platform.frameOwnsMonitors = true := by rw [X.admits.platform]
  have hfin : e.platform.finalization = false := by rw [X.admits.platform]
  have hpl : e.platform.magicAccessors = ({} : Platform).magicAccessors := by rw [X.admits.platform]
  have hpl2 : e.platform.arrayCloneIsPublic = true := by rw [X.admits.platform]
  have a' : ∀ x, x ∈ Bundle.npeArmAtoms n → x.holds args s none s [] = true := fun x hx => h x hx
  obtain ⟨T, Z, L, LZ, Y⟩ := ThrowableC.of_atoms (args := args) howns hfin hpl (fun x hx => h x (by simp [Bundle.npeArmAtoms, hx]))
  obtain ⟨N, LN, hcN, hnNF, hordN, hffS⟩ := NpeC.of_atoms (args := args) hpl hpl2 L Y (fun x hx => h x (by simp [Bundle.npeArmAtoms, hx]))
  obtain ⟨P1, L1, hP1m, hP1s⟩ := PassC.of_atoms (args := args) (s := s) hpl (X := Bundle.nN) (Y := Bundle.rN) (by decide) (by decide) LibCode.NullPointerException.Init0.at_0 LibCode.NullPointerException.Init0.at_1 LibCode.NullPointerException.Init0.at_4 (fun x hx => h x (by simp [Bundle.npeArmAtoms, hx]))
  obtain ⟨PR, LR, hPRm, hPRs⟩ := PassC.of_atoms (args := args) (s := s) hpl (X := Bundle.rN) (Y := Bundle.eN) (by decide) (by decide) LibCode.RuntimeException.Init0.at_0 LibCode.RuntimeException.Init0.at_1 LibCode.RuntimeException.Init0.at_4 (fun x hx => h x (by simp [Bundle.npeArmAtoms, hx]))
  obtain ⟨PE, LEx, hPEm, hPEs⟩ := PassC.of_atoms (args := args) (s := s) hpl (X := Bundle.eN) (Y := Bundle.tN) (by decide) (by decide) LibCode.Exception.Init0.at_0 LibCode.Exception.Init0.at_1 LibCode.Exception.Init0.at_4 (fun x hx => h x (by simp [Bundle.npeArmAtoms, hx]))
  have hfound : s.vm.findClass Bundle.nN = some P1.m.cls := findClass_of_methodNamed hP1m
  have ecls : N.cN = P1.m.cls := Option.some.inj (hcN.symm.trans hfound)
  have hk : s.vm.classes[P1.m.cls]? = some N.kN := by rw [← ecls]; exact LN.cls
  have hinit := Cond.initialized_spec hfound hk (a' (.initialized Bundle.nN) (by simp [Bundle.npeArmAtoms]))
  have hctor : N.kN.findMethod "<init>" "()V" = some P1.m.idx := findMethod_of_methodNamed hP1m hk
  obtain ⟨c1, k1, hc1, hk1, -, -, -, hn⟩ := Cond.instantiable_spec (a' (.instantiable Bundle.nN n) (by simp [Bundle.npeArmAtoms]))
  cases Option.some.inj (hc1.symm.trans hfound)
  cases Option.some.inj (hk1.symm.trans hk)
  have hfsz : (freshCell P1.m.cls N.kN).slots.size = n := by simp [hn]
  have hlink1 : P1.sup = PR.m := Option.some.inj (hP1s.symm.trans hPRm)
  have hlinkR : PR.sup = PE.m := Option.some.inj (hPRs.symm.trans hPEm)
  have hlinkE : PE.sup = Z.m T.toThrowableT := Option.some.inj (hPEs.symm.trans Y.init0)
  have hLs : ∀ P, P ∈ [PR, PE] → P.Links0 e.platform s := fun P hP => by
    simp only [List.mem_cons, List.not_mem_nil, or_false] at hP
    rcases hP with rfl | rfl
    · exact LR
    · exact LEx
  have hsel0 : selectMethod e.platform s.vm P1.m.cls T.fill0 = .method T.fill0 := by
    obtain ⟨c2, r2, m2, q1, q2, q3, q4, -⟩ := Cond.selects_spec (a' (.selects Bundle.nN Bundle.tFill0 Bundle.tFill0) (by simp [Bundle.npeArmAtoms]))
    cases Option.some.inj (q1.symm.trans hfound)
    cases Option.some.inj (q2.symm.trans (State.methodFound?_of_named Y.fill0 (by decide)))
    cases Option.some.inj (q3.symm.trans Y.fill0)
    rw [Launch.admits_selectMethod X.admits]; exact q4
  have hselF : selectMethod e.platform s.vm P1.m.cls T.fill = .method N.fill := by
    obtain ⟨c2, r2, m2, q1, q2, q3, q4, -⟩ := Cond.selects_spec (a' (.selects Bundle.nN Bundle.tFill Bundle.nFill) (by simp [Bundle.npeArmAtoms]))
    cases Option.some.inj (q1.symm.trans hfound)
    cases Option.some.inj (q2.symm.trans (State.methodFound?_of_named Y.fill (by decide)))
    cases Option.some.inj (q3.symm.trans hnNF)
    rw [Launch.admits_selectMethod X.admits]; exact q4
  obtain ⟨cellS0, hcS0, hiss⟩ := Y.statics
  obtain ⟨u0, hu0⟩ := Cond.staticRefV Y.unassigned L.unassignedStatic L.statics hcS0 hiss (a' (.isRef (.static Bundle.tN "UNASSIGNED_STACK" Bundle.steD)) (by simp [Bundle.npeArmAtoms]))
  obtain ⟨sen, hsen⟩ := Cond.staticRefV Y.sentinel L.sentinelStatic L.statics hcS0 hiss (a' (.isRef (.static Bundle.tN "SUPPRESSED_SENTINEL" Bundle.listD)) (by simp [Bundle.npeArmAtoms]))
  obtain ⟨ci198, i198, fB, hk198, hg198, ha198, hsB, -, hnB, htB, hffB⟩ := Cond.ownField (t := .object "java/lang/Object") Y.found L.cls (by decide +kernel) (a' (.fieldLink Bundle.tN 198 Bundle.tN "backtrace" Bundle.objD) (by simp [Bundle.npeArmAtoms])) (a' (.lays Bundle.tN Bundle.tN "backtrace" Bundle.objD) (by simp [Bundle.npeArmAtoms])) e.platform hpl
  obtain ⟨cellS, hcS', heS, -, hkeep⟩ := X.same.2.2.2.2.2 T.aS cellS0 hcS0
  have hcellS : W.heap[T.aS]? = some cellS := hcS'
  have hout' : ∀ i, (⟨T.aS, i⟩ : Loc) ∉ locs := fun i hmem => by
    have := hlocs _ hmem cellS0 hcS0
    rw [hiss] at this; cases this
  have hknownS : cellS.vm ≠ .unknown := by
    rw [heS]; intro hu
    rw [show cellS0.vm = .unknown from hu] at hiss
    cases hiss
  have hvU : cellS.slots[T.fUnassigned.slot]? = some u0.v := by rw [hkeep _ (hout' _)]; exact hu0
  have hvSen : cellS.slots[T.fSentinel.slot]? = some sen.v := by rw [hkeep _ (hout' _)]; exact hsen
  obtain ⟨tyC, dC, hdC, hdnC⟩ := Cond.laysAt hfound hk Y.cause (a' (.lays Bundle.nN Bundle.tN "cause" "Ljava/lang/Throwable;") (by simp [Bundle.npeArmAtoms]))
  obtain ⟨tyS, dS, hdS, hdnS⟩ := Cond.laysAt hfound hk Y.stack (a' (.lays Bundle.nN Bundle.tN "stackTrace" Bundle.steD) (by simp [Bundle.npeArmAtoms]))
  obtain ⟨tyP, dP, hdP, hdnP⟩ := Cond.laysAt hfound hk Y.supp (a' (.lays Bundle.nN Bundle.tN "suppressedExceptions" Bundle.listD) (by simp [Bundle.npeArmAtoms]))
  obtain ⟨tyX, dX, hdX, hdnX⟩ := Cond.laysAt hfound hk hffS (a' (.lays Bundle.nN Bundle.nN "extendedMessageState" "I") (by simp [Bundle.npeArmAtoms, Bundle.npeAtoms]))
  obtain ⟨hnX, htX⟩ := State.fieldFound?_type hffS (t := .int) (by decide +kernel)
  have xC := Cond.laysApart hdC hdX hdnC hdnX (by rw [hnX, Y.causeName]; decide)
  have xS := Cond.laysApart hdS hdX hdnS hdnX (by rw [hnX, Y.stackName]; decide)
  have xP := Cond.laysApart hdP hdX hdnP hdnX (by rw [hnX, Y.suppName]; decide)
  have hv0 : (freshCell P1.m.cls N.kN).slots[N.fState.slot]? = some (.int 0) := by
    have := fresh_default (c := P1.m.cls) tyX
    rw [htX] at this; exact this
  obtain ⟨tyB, dB, hdB, hdnB⟩ := Cond.laysAt hfound hk hffB (a' (.lays Bundle.nN Bundle.tN "backtrace" Bundle.objD) (by simp [Bundle.npeArmAtoms]))
  have bC := Cond.laysApart hdB hdC hdnB hdnC (by rw [hnB, Y.causeName]; decide)
  have bS := Cond.laysApart hdB hdS hdnB hdnS (by rw [hnB, Y.stackName]; decide)
  have bP := Cond.laysApart hdB hdP hdnB hdnP (by rw [hnB, Y.suppName]; decide)
  have bX := Cond.laysApart hdB hdX hdnB hdnX (by rw [hnB, hnX]; decide)
  have hbk : ((npeCell N.toNpeT (preparedCellV T.toThrowableT (freshCell P1.m.cls N.kN) W.heap.size u0 sen) W.cur).withEntry W.cur).slots[fB.slot]? = some .null := by
    have := fresh_default (c := P1.m.cls) tyB
    rw [htB] at this
    simpa [npeCell, preparedCellV, Cell.setSlot, Cell.withEntry, Array.getElem?_setIfInBounds, bC, bS, bP, bX, bC.symm, bS.symm, bP.symm, bX.symm, defaultValue] using this
  have tkC := Takes.of_laid (v := .ref W.heap.size) hk hordN tyC (by rw [Y.causeType]; rfl)
  have tkS := Takes.of_laid (v := u0.v) hk hordN tyS (by rw [Y.stackType]; exact fits_refV_array _ u0)
  have tkP := Takes.of_laid (v := sen.v) hk hordN tyP (by rw [Y.suppType]; exact fits_refV_object _ sen)
  have tkX := Takes.of_laid (v := .int 1) hk hordN tyX (by rw [htX]; rfl)
  have hskip : SkipFacts T e.platform s (fun u => u) u0 ((npeCell N.toNpeT (preparedCellV T.toThrowableT (freshCell P1.m.cls N.kN) W.heap.size u0 sen) W.cur).withEntry W.cur) := ⟨{ ci198 := ci198, i198 := i198, fBack := fB }, ⟨hk198, hg198, ha198, hsB⟩, hbk, fun _ _ => rfl⟩
  obtain ⟨vm', X3, st, -⟩ := X.throwsNpeColdBareVAt hexec hg hsize T L Z LZ N LN P1 L1 [PR, PE] hLs hlink1 ⟨hlinkR, hlinkE, trivial⟩ hfound hk hinit hordN hctor hsel0 hselF hcellS hknownS hvU hvSen
    hv0 xC xS xP tkC tkS tkP tkX Y.objLocals hskip (fun _ _ hA hW _ hroom _ hrest => L.nativeOff p htr hA hW hroom hrest) (by simpa using hRframes) hRlocals (by simp) hRcells (by rw [hn]; exact hRslots)
  have hlt : W.heap.size < ((W.pushCell (freshCell P1.m.cls N.kN)).setVm vm').heap.size := by
    show W.heap.size < (W.pushCell (freshCell P1.m.cls N.kN)).heap.size
    rw [State.heap_size_pushCell]; omega
  rw [hfsz] at X3
  obtain ⟨g₁, hfrM⟩ := X3.frames_eq
  have hU : ((((W.pushCell (freshCell P1.m.cls N.kN)).setVm vm').setCell W.heap.size (npeBareV T.toThrowableT N.toNpeT (freshCell P1.m.cls N.kN) W.heap.size u0 sen)).setTop g).pushFrame (.throwing W.heap.size) = (((W.pushCell (freshCell P1.m.cls N.kN)).setVm vm').setCell W.heap.size (npeBareV T.toThrowableT N.toNpeT (freshCell P1.m.cls N.kN) W.heap.size u0 sen)).setFrames (.throwing W.heap.size :: .java g :: below) := by
    rw [State.pushFrame, State.frames_setTop _ hfrM, State.setTop_of_frames _ hfrM, State.setFrames_setFrames]
  refine ⟨_, W.heap.size, _, fun target ht => st.trans (by rw [← hU]; exact ht), X3.forget (fun y hy => ?_), heapAt_setCell_self _ hlt, hfound, rfl⟩
  simp only [List.mem_cons, List.not_mem_nil, or_false] at hy
  have hge : s.heap.size ≤ W.heap.size := X.same.2.1
  rcases hy with rfl | rfl | rfl | rfl | rfl <;> exact hge
/-- the words of a machine's NullPointerException, but the four that speak of the heap -/
def vx_atN (n : Nat) : List Cond := (Bundle.npeArmAtoms n).filter vx_no
/-- the words of a machine's throw with a message, but the four that speak of the heap -/
def vx_atM (X : String) (names : List String) : List Cond := (Bundle.messageArmAtoms X names).filter vx_no
section
variable {p : Program} {l : Launch} {e : Env} {R : Room} {s : State} {m : MethodId} {args : Array Value} {below : List Frame} {meth : Method} {c : Code} {H : Heap} {locs : List Loc} {cells slots : Nat}
/-- a frame seen from a rebased start, seen from the first start again -/
theorem vx_back9 {T S : State} {R' : Room} {k n : Nat} (X : Stand p l e R s m args below meth c T locs cells slots) (Y : Stand p l e R' ((T.setVm s.vm).setFrames (.invoking m args :: below)) m args below meth c T [] 0 0) (Z : Stand p l e R' ((T.setVm s.vm).setFrames (.invoking m args :: below)) m args below meth c S [] k n) :
    Stand p l e R s m args below meth c S locs (cells + k) (slots + n) := by
  have hW0 : s.WarmedH ((T.setVm s.vm).setFrames (.invoking m args :: below)).vm := State.WarmedH.refl s
  refine { admits := X.admits, cas := X.cas, clock := X.clock, frames := X.frames, room := X.room, hears := X.hears, method := X.method, code := X.code, here := Z.here, tail := Z.tail, warmed := State.WarmedH.trans hW0 Z.warmed, limits := Z.limits.trans (Y.limits.symm.trans X.limits), bytes := Z.bytes.trans (Y.bytes.symm.trans X.bytes), same := ?_ }
  obtain ⟨e1, e2⟩ := Z.same
  rw [State.setFrames_setFrames] at e1
  have h2 : (T.setVm s.vm).sameButNew (S.setVm s.vm) [] k n := ⟨e1, e2⟩
  have h3 := X.same.trans h2
  rw [List.append_nil] at h3
  exact h3
/-- from the machine's note that E is thrown here with this text -/
def vx_Note (p : Program) (l : Launch) (e : Env) (R : Room) (s : State) (m : MethodId) (args : Array Value) (below : List Frame) (meth : Method) (c : Code) (H : Heap) (locs : List Loc) (cells slots : Nat) (Q : State → Prop) (g : JFrame) (E text : String) : Prop :=
  ∀ T : State, T.heap = H → Stand p l e R s m args below meth c T locs cells slots → ∃ t, Steps p.tables e below ((T.setTop g).pushFrame (.throwNew E (some text) none)) t ∧ Q t
theorem vx_vm {pc : Nat} {ls : Array Slot} {rest : List Value} {Q : State → Prop} (hexec : p.tables.exec = Jvm.exec) (hl : l.stackTraces = false) {cls text : String} {names : List String} {nb : Nat} {A : Nat → Prop}
    (hcls : Bundle.fit cls = true) (hnames : ∀ n ∈ names, Bundle.fit n = true) (hsoe : (cls == "java/lang/StackOverflowError") = false) (hoom : (cls == "java/lang/OutOfMemoryError") = false)
    (hat : ∀ w ∈ vx_atM cls names, w.before args s = true) (hgood : ∀ w ∈ vx_atM cls names, vx_ot w = true)
    (hU : vx_Zq Bundle.tN "UNASSIGNED_STACK" Bundle.steD A s s.heap) (hN : vx_Zq Bundle.tN "SUPPRESSED_SENTINEL" Bundle.listD A s s.heap) (hS : va_S A s.heap H locs) (hsize : ls.size = c.maxLocals)
    (htext : (text == notModelled) = false) (hnb : (stringBytes (stringToUtf16 text)).size ≤ nb) (hnb1 : nb ≤ 1000)
    (hRframes : names.length + 4 < R.frames) (hRlocals : (rest.map fun v => v.category).sum + 10240 ≤ R.locals) (hshort : 13 * names.length + 55 ≤ 10240) (hRcells : cells + 3 ≤ R.cells) (hRslots : slots + (nb + 10) ≤ R.slots) (hlocks : meth.locks = false)
    (k : ∀ (H1 : Heap) (q9 : Addr) (ce : Cell), H.size ≤ H1.size → (∀ q : Nat, q < H.size → H1[q]? = H[q]?) → va_S A s.heap H1 locs → H1[q9]? = some ce → ce.vm = .none → s.vm.findClass cls = some ce.cls → vx_W p l e R s m args below meth c H1 locs (cells + 3) (slots + (nb + 10)) Q (F0 m pc ls rest) q9) :
    vx_Note p l e R s m args below meth c H locs cells slots Q (F0 m pc ls rest) cls text := by
  intro T hT X
  have htr : e.platform.stackTraces = false := (show e.platform.stackTraces = l.stackTraces by rw [X.admits.platform]).trans hl
  have Y := vx_rebase X (R' := { frames := R.frames, locals := R.locals, cells := 3, slots := nb + 10 }) (Nat.le_refl _) (Nat.le_refl _) hRcells hRslots
  have hhp : ((T.setVm s.vm).setFrames (.invoking m args :: below)).heap = H := hT
  have hW0 : s.WarmedH ((T.setVm s.vm).setFrames (.invoking m args :: below)).vm := State.WarmedH.refl s
  have hat' : ∀ w ∈ vx_atM cls names, w.before args ((T.setVm s.vm).setFrames (.invoking m args :: below)) = true := fun w hw => vx_ot_at hW0 rfl (hgood w hw) (hat w hw)
  have hU' : vx_Zq Bundle.tN "UNASSIGNED_STACK" Bundle.steD A ((T.setVm s.vm).setFrames (.invoking m args :: below)) ((T.setVm s.vm).setFrames (.invoking m args :: below)).heap := by rw [hhp]; exact vx_Zq.moved hW0.alike (hU.kept hS.2.1)
  have hN' : vx_Zq Bundle.tN "SUPPRESSED_SENTINEL" Bundle.listD A ((T.setVm s.vm).setFrames (.invoking m args :: below)) ((T.setVm s.vm).setFrames (.invoking m args :: below)).heap := by rw [hhp]; exact vx_Zq.moved hW0.alike (hN.kept hS.2.1)
  obtain ⟨S, q, ce, st, Z, hce, hcl', hv⟩ := vx_vmAt Y hexec htr (cls := cls) (names := names) (text := text) hcls hnames hsoe hoom (vx_own hat' (vx_isRefq hU'.1) (vx_isRefq hN'.1) hU'.2.word hN'.2.word) (fun x hx => nomatch hx) htext
    (by rw [Launch.admits_arrayLengthLimit X.admits]; omega) (by rw [Launch.admits_maxHeapBytes X.admits]; simp only [componentBytes]; omega)
    (g := F0 m pc ls rest) rfl hsize hRframes (by show 2 * 0 + (rest.map fun v => v.category).sum + 10240 ≤ R.locals; omega) hshort (by show 0 + 3 ≤ 3; omega) (by show 0 + (_ + 4 + 6) ≤ nb + 10; omega) hlocks
  obtain ⟨f1, f2⟩ := vx_frame Z.same
  have f1' : H.size ≤ S.heap.size := by rw [← hT]; exact f1
  have f2' : ∀ q : Nat, q < H.size → S.heap[q]? = H[q]? := fun q hq => by
    rw [← hT]
    exact f2 q (by rw [← hT] at hq; exact hq) (fun z hz => nomatch hz)
  have X5 := vx_back9 X Y Z
  have X6 : Stand p l e R s m args below meth c S locs (cells + 3) (slots + (nb + 10)) := { X5 with same := X5.same.mono (by omega) (by omega) }
  obtain ⟨t, a1, b1⟩ := k S.heap q ce f1' f2' ⟨Nat.le_trans hS.1 f1', fun q h1 h2 => (f2' q (Nat.lt_of_lt_of_le h1 hS.1)).trans (hS.2.1 q h1 h2), hS.2.2⟩ hce hv hcl' S rfl X6
  exact ⟨t, st t a1, b1⟩
/-- from the machine's note that NullPointerException is thrown here -/
def vx_NoteN (p : Program) (l : Launch) (e : Env) (R : Room) (s : State) (m : MethodId) (args : Array Value) (below : List Frame) (meth : Method) (c : Code) (H : Heap) (locs : List Loc) (cells slots : Nat) (Q : State → Prop) (g : JFrame) : Prop :=
  ∀ T : State, T.heap = H → Stand p l e R s m args below meth c T locs cells slots → ∃ t, Steps p.tables e below ((T.setTop g).pushFrame (.throwNew "java/lang/NullPointerException" none none)) t ∧ Q t
theorem vx_npe {pc : Nat} {ls : Array Slot} {rest : List Value} {Q : State → Prop} (hexec : p.tables.exec = Jvm.exec) (hl : l.stackTraces = false) {nb : Nat} {A : Nat → Prop}
    (hat : ∀ w ∈ vx_atN nb, w.before args s = true) (hgood : ∀ w ∈ vx_atN nb, vx_ot w = true)
    (hU : vx_Zq Bundle.tN "UNASSIGNED_STACK" Bundle.steD A s s.heap) (hN : vx_Zq Bundle.tN "SUPPRESSED_SENTINEL" Bundle.listD A s s.heap) (hS : va_S A s.heap H locs) (hsize : ls.size = c.maxLocals)
    (hRframes : 7 < R.frames) (hRlocals : (rest.map fun v => v.category).sum + 10240 ≤ R.locals) (hRcells : cells + 1 ≤ R.cells) (hRslots : slots + nb ≤ R.slots) (hlocks : meth.locks = false)
    (k : ∀ (H1 : Heap) (q9 : Addr) (ce : Cell), H.size ≤ H1.size → (∀ q : Nat, q < H.size → H1[q]? = H[q]?) → va_S A s.heap H1 locs → H1[q9]? = some ce → ce.vm = .none → s.vm.findClass "java/lang/NullPointerException" = some ce.cls → vx_W p l e R s m args below meth c H1 locs (cells + 1) (slots + nb) Q (F0 m pc ls rest) q9) :
    vx_NoteN p l e R s m args below meth c H locs cells slots Q (F0 m pc ls rest) := by
  intro T hT X
  have htr : e.platform.stackTraces = false := (show e.platform.stackTraces = l.stackTraces by rw [X.admits.platform]).trans hl
  have Y := vx_rebase X (R' := { frames := R.frames, locals := R.locals, cells := 1, slots := nb }) (Nat.le_refl _) (Nat.le_refl _) hRcells hRslots
  have hhp : ((T.setVm s.vm).setFrames (.invoking m args :: below)).heap = H := hT
  have hW0 : s.WarmedH ((T.setVm s.vm).setFrames (.invoking m args :: below)).vm := State.WarmedH.refl s
  have hat' : ∀ w ∈ vx_atN nb, w.before args ((T.setVm s.vm).setFrames (.invoking m args :: below)) = true := fun w hw => vx_ot_at hW0 rfl (hgood w hw) (hat w hw)
  have hU' : vx_Zq Bundle.tN "UNASSIGNED_STACK" Bundle.steD A ((T.setVm s.vm).setFrames (.invoking m args :: below)) ((T.setVm s.vm).setFrames (.invoking m args :: below)).heap := by rw [hhp]; exact vx_Zq.moved hW0.alike (hU.kept hS.2.1)
  have hN' : vx_Zq Bundle.tN "SUPPRESSED_SENTINEL" Bundle.listD A ((T.setVm s.vm).setFrames (.invoking m args :: below)) ((T.setVm s.vm).setFrames (.invoking m args :: below)).heap := by rw [hhp]; exact vx_Zq.moved hW0.alike (hN.kept hS.2.1)
  obtain ⟨S, q, ce, st, Z, hce, hcl', hv⟩ := vx_npeAt Y hexec htr (n := nb) (vx_own hat' (vx_isRefq hU'.1) (vx_isRefq hN'.1) hU'.2.word hN'.2.word) (fun x hx => nomatch hx)
    (g := F0 m pc ls rest) rfl hsize hRframes (by show 2 * 0 + (rest.map fun v => v.category).sum + 10240 ≤ R.locals; omega) (by show 0 + 1 ≤ 1; omega) (by show 0 + nb ≤ nb; omega) hlocks
  obtain ⟨f1, f2⟩ := vx_frame Z.same
  have f1' : H.size ≤ S.heap.size := by rw [← hT]; exact f1
  have f2' : ∀ q : Nat, q < H.size → S.heap[q]? = H[q]? := fun q hq => by
    rw [← hT]
    exact f2 q (by rw [← hT] at hq; exact hq) (fun z hz => nomatch hz)
  have X5 := vx_back9 X Y Z
  have X6 : Stand p l e R s m args below meth c S locs (cells + 1) (slots + nb) := { X5 with same := X5.same.mono (by omega) (by omega) }
  obtain ⟨t, a1, b1⟩ := k S.heap q ce f1' f2' ⟨Nat.le_trans hS.1 f1', fun q h1 h2 => (f2' q (Nat.lt_of_lt_of_le h1 hS.1)).trans (hS.2.1 q h1 h2), hS.2.2⟩ hce hv hcl' S rfl X6
  exact ⟨t, st t a1, b1⟩
variable {Q : State → Prop} {cc : ByteArray} {pc : Nat} {ls : Array Slot} {rest : List Value}
theorem vx_idivZ (hexec : p.tables.exec = Jvm.exec) (hb : c.code = cc) {a b : Int32} (h0 : b = 0) (d : decode cc pc = .ok (.idiv, 1)) (k : vx_Note p l e R s m args below meth c H locs cells slots Q (F0 m pc ls rest) "java/lang/ArithmeticException" "/ by zero") :
    W p l e R s m args below meth c H locs cells slots Q (F0 m pc ls (.int b :: .int a :: rest)) := by
  intro T hT X
  obtain ⟨t, st, q⟩ := k T hT X
  exact ⟨t, X.idivZero hexec (g := F0 m pc ls (.int b :: .int a :: rest)) rfl (a := a) (rest := rest) (by rw [h0]) (by rw [hb]; exact d) t st, q⟩
theorem vx_iremZ (hexec : p.tables.exec = Jvm.exec) (hb : c.code = cc) {a b : Int32} (h0 : b = 0) (d : decode cc pc = .ok (.irem, 1)) (k : vx_Note p l e R s m args below meth c H locs cells slots Q (F0 m pc ls rest) "java/lang/ArithmeticException" "/ by zero") :
    W p l e R s m args below meth c H locs cells slots Q (F0 m pc ls (.int b :: .int a :: rest)) := by
  intro T hT X
  obtain ⟨t, st, q⟩ := k T hT X
  exact ⟨t, X.iremZero hexec (g := F0 m pc ls (.int b :: .int a :: rest)) rfl (a := a) (rest := rest) (by rw [h0]) (by rw [hb]; exact d) t st, q⟩
theorem vx_ldivZ (hexec : p.tables.exec = Jvm.exec) (hb : c.code = cc) {a b : Int64} (h0 : b = 0) (d : decode cc pc = .ok (.ldiv, 1)) (k : vx_Note p l e R s m args below meth c H locs cells slots Q (F0 m pc ls rest) "java/lang/ArithmeticException" "/ by zero") :
    W p l e R s m args below meth c H locs cells slots Q (F0 m pc ls (.long b :: .long a :: rest)) := by
  intro T hT X
  obtain ⟨t, st, q⟩ := k T hT X
  exact ⟨t, X.ldivZero hexec (g := F0 m pc ls (.long b :: .long a :: rest)) rfl (a := a) (rest := rest) (by rw [h0]) (by rw [hb]; exact d) t st, q⟩
theorem vx_lremZ (hexec : p.tables.exec = Jvm.exec) (hb : c.code = cc) {a b : Int64} (h0 : b = 0) (d : decode cc pc = .ok (.lrem, 1)) (k : vx_Note p l e R s m args below meth c H locs cells slots Q (F0 m pc ls rest) "java/lang/ArithmeticException" "/ by zero") :
    W p l e R s m args below meth c H locs cells slots Q (F0 m pc ls (.long b :: .long a :: rest)) := by
  intro T hT X
  obtain ⟨t, st, q⟩ := k T hT X
  exact ⟨t, X.lremZero hexec (g := F0 m pc ls (.long b :: .long a :: rest)) rfl (a := a) (rest := rest) (by rw [h0]) (by rw [hb]; exact d) t st, q⟩
theorem vx_ialdZ {D : va_G} {cl : List vw_C} {ws : va_W} {tys : List (ClassId × FieldType)} {a : Nat} (hexec : p.tables.exec = Jvm.exec) (hb : c.code = cc) (hK : va_K D cl tys s) (hP : va_P D cl ws H) (q0 t0 : Nat) {cA : ClassId} {n : Nat} {f : Nat → Int32} (ha : ws[q0]? = some (a, .inl (cA, n, .inl f))) (ht : tys[t0]? = some (cA, .int)) {i : Int32} (hout : ¬ vp_in i n) (hdg : decode cc pc = .ok (.iaload, 1))
    (k : ∀ tx : String, tx = (toString "Index " ++ toString i ++ toString " out of bounds for length " ++ toString n : String) → vx_Note p l e R s m args below meth c H locs cells slots Q (F0 m pc ls rest) "java/lang/ArrayIndexOutOfBoundsException" tx) : W p l e R s m args below meth c H locs cells slots Q (F0 m pc ls (.int i :: .ref a :: rest)) := by
  intro T hT X
  obtain ⟨t, st, q⟩ := k _ rfl T hT X
  refine ⟨t, ?_, q⟩
  have h1 := X.ialoadOut hexec (by rw [hT]; exact hP q0 _ ha) ((hK.2 t0 _ ht).1 n (fun j => .int (f j))) (j := i) (by show (i < 0 ∨ (arrV _ _ _).slots.size ≤ _); rw [arrV_size]; exact Classical.byContradiction hout) (g := F0 m pc ls (.int i :: .ref a :: rest)) rfl (rest := rest) rfl (by rw [hb]; exact hdg) t
  simp only [arrV_size] at h1
  exact h1 st
theorem vx_iastZ {D : va_G} {cl : List vw_C} {ws : va_W} {tys : List (ClassId × FieldType)} {a : Nat} (hexec : p.tables.exec = Jvm.exec) (hb : c.code = cc) (hK : va_K D cl tys s) (hP : va_P D cl ws H) (q0 t0 : Nat) {cA : ClassId} {n : Nat} {f : Nat → Int32} (ha : ws[q0]? = some (a, .inl (cA, n, .inl f))) (ht : tys[t0]? = some (cA, .int)) {i : Int32} {x : Int32} (hout : ¬ vp_in i n) (hdg : decode cc pc = .ok (.iastore, 1))
    (k : ∀ tx : String, tx = (toString "Index " ++ toString i ++ toString " out of bounds for length " ++ toString n : String) → vx_Note p l e R s m args below meth c H locs cells slots Q (F0 m pc ls rest) "java/lang/ArrayIndexOutOfBoundsException" tx) : W p l e R s m args below meth c H locs cells slots Q (F0 m pc ls (.int x :: .int i :: .ref a :: rest)) := by
  intro T hT X
  obtain ⟨t, st, q⟩ := k _ rfl T hT X
  refine ⟨t, ?_, q⟩
  have h1 := X.iastoreOut hexec (by rw [hT]; exact hP q0 _ ha) ((hK.2 t0 _ ht).1 n (fun j => .int (f j))) (j := i) (by show (i < 0 ∨ (arrV _ _ _).slots.size ≤ _); rw [arrV_size]; exact Classical.byContradiction hout) (g := F0 m pc ls (.int x :: .int i :: .ref a :: rest)) rfl (rest := rest) rfl (by rw [hb]; exact hdg) t
  simp only [arrV_size] at h1
  exact h1 st
theorem vx_baldZ {D : va_G} {cl : List vw_C} {ws : va_W} {tys : List (ClassId × FieldType)} {a : Nat} (hexec : p.tables.exec = Jvm.exec) (hb : c.code = cc) (hK : va_K D cl tys s) (hP : va_P D cl ws H) (q0 t0 : Nat) {cA : ClassId} {n : Nat} {f : Nat → Int32} (ha : ws[q0]? = some (a, .inl (cA, n, .inl f))) (ht : tys[t0]? = some (cA, .byte)) {i : Int32} (hout : ¬ vp_in i n) (hdg : decode cc pc = .ok (.baload, 1))
    (k : ∀ tx : String, tx = (toString "Index " ++ toString i ++ toString " out of bounds for length " ++ toString n : String) → vx_Note p l e R s m args below meth c H locs cells slots Q (F0 m pc ls rest) "java/lang/ArrayIndexOutOfBoundsException" tx) : W p l e R s m args below meth c H locs cells slots Q (F0 m pc ls (.int i :: .ref a :: rest)) := by
  intro T hT X
  obtain ⟨t, st, q⟩ := k _ rfl T hT X
  refine ⟨t, ?_, q⟩
  have h1 := X.baloadOut hexec (by rw [hT]; exact hP q0 _ ha) ((hK.2 t0 _ ht).1 n (fun j => .int (f j))) (j := i) (by show (i < 0 ∨ (arrV _ _ _).slots.size ≤ _); rw [arrV_size]; exact Classical.byContradiction hout) (g := F0 m pc ls (.int i :: .ref a :: rest)) rfl (rest := rest) rfl (by rw [hb]; exact hdg) t
  simp only [arrV_size] at h1
  exact h1 st
theorem vx_bastZ {D : va_G} {cl : List vw_C} {ws : va_W} {tys : List (ClassId × FieldType)} {a : Nat} (hexec : p.tables.exec = Jvm.exec) (hb : c.code = cc) (hK : va_K D cl tys s) (hP : va_P D cl ws H) (q0 t0 : Nat) {cA : ClassId} {n : Nat} {f : Nat → Int32} (ha : ws[q0]? = some (a, .inl (cA, n, .inl f))) (ht : tys[t0]? = some (cA, .byte)) {i : Int32} {x : Int32} (hout : ¬ vp_in i n) (hdg : decode cc pc = .ok (.bastore, 1))
    (k : ∀ tx : String, tx = (toString "Index " ++ toString i ++ toString " out of bounds for length " ++ toString n : String) → vx_Note p l e R s m args below meth c H locs cells slots Q (F0 m pc ls rest) "java/lang/ArrayIndexOutOfBoundsException" tx) : W p l e R s m args below meth c H locs cells slots Q (F0 m pc ls (.int x :: .int i :: .ref a :: rest)) := by
  intro T hT X
  obtain ⟨t, st, q⟩ := k _ rfl T hT X
  refine ⟨t, ?_, q⟩
  have h1 := X.bastoreOut hexec (by rw [hT]; exact hP q0 _ ha) ((hK.2 t0 _ ht).1 n (fun j => .int (f j))) (j := i) (by show (i < 0 ∨ (arrV _ _ _).slots.size ≤ _); rw [arrV_size]; exact Classical.byContradiction hout) (g := F0 m pc ls (.int x :: .int i :: .ref a :: rest)) rfl (rest := rest) rfl (by rw [hb]; exact hdg) t
  simp only [arrV_size] at h1
  exact h1 st
theorem vx_zaldZ {D : va_G} {cl : List vw_C} {ws : va_W} {tys : List (ClassId × FieldType)} {a : Nat} (hexec : p.tables.exec = Jvm.exec) (hb : c.code = cc) (hK : va_K D cl tys s) (hP : va_P D cl ws H) (q0 t0 : Nat) {cA : ClassId} {n : Nat} {f : Nat → Int32} (ha : ws[q0]? = some (a, .inl (cA, n, .inl f))) (ht : tys[t0]? = some (cA, .boolean)) {i : Int32} (hout : ¬ vp_in i n) (hdg : decode cc pc = .ok (.baload, 1))
    (k : ∀ tx : String, tx = (toString "Index " ++ toString i ++ toString " out of bounds for length " ++ toString n : String) → vx_Note p l e R s m args below meth c H locs cells slots Q (F0 m pc ls rest) "java/lang/ArrayIndexOutOfBoundsException" tx) : W p l e R s m args below meth c H locs cells slots Q (F0 m pc ls (.int i :: .ref a :: rest)) := by
  intro T hT X
  obtain ⟨t, st, q⟩ := k _ rfl T hT X
  refine ⟨t, ?_, q⟩
  have h1 := X.baloadOut hexec (by rw [hT]; exact hP q0 _ ha) ((hK.2 t0 _ ht).1 n (fun j => .int (f j))) (j := i) (by show (i < 0 ∨ (arrV _ _ _).slots.size ≤ _); rw [arrV_size]; exact Classical.byContradiction hout) (g := F0 m pc ls (.int i :: .ref a :: rest)) rfl (rest := rest) rfl (by rw [hb]; exact hdg) t
  simp only [arrV_size] at h1
  exact h1 st
theorem vx_zastZ {D : va_G} {cl : List vw_C} {ws : va_W} {tys : List (ClassId × FieldType)} {a : Nat} (hexec : p.tables.exec = Jvm.exec) (hb : c.code = cc) (hK : va_K D cl tys s) (hP : va_P D cl ws H) (q0 t0 : Nat) {cA : ClassId} {n : Nat} {f : Nat → Int32} (ha : ws[q0]? = some (a, .inl (cA, n, .inl f))) (ht : tys[t0]? = some (cA, .boolean)) {i : Int32} {x : Int32} (hout : ¬ vp_in i n) (hdg : decode cc pc = .ok (.bastore, 1))
    (k : ∀ tx : String, tx = (toString "Index " ++ toString i ++ toString " out of bounds for length " ++ toString n : String) → vx_Note p l e R s m args below meth c H locs cells slots Q (F0 m pc ls rest) "java/lang/ArrayIndexOutOfBoundsException" tx) : W p l e R s m args below meth c H locs cells slots Q (F0 m pc ls (.int x :: .int i :: .ref a :: rest)) := by
  intro T hT X
  obtain ⟨t, st, q⟩ := k _ rfl T hT X
  refine ⟨t, ?_, q⟩
  have h1 := X.bastoreOut hexec (by rw [hT]; exact hP q0 _ ha) ((hK.2 t0 _ ht).1 n (fun j => .int (f j))) (j := i) (by show (i < 0 ∨ (arrV _ _ _).slots.size ≤ _); rw [arrV_size]; exact Classical.byContradiction hout) (g := F0 m pc ls (.int x :: .int i :: .ref a :: rest)) rfl (rest := rest) rfl (by rw [hb]; exact hdg) t
  simp only [arrV_size] at h1
  exact h1 st
theorem vx_caldZ {D : va_G} {cl : List vw_C} {ws : va_W} {tys : List (ClassId × FieldType)} {a : Nat} (hexec : p.tables.exec = Jvm.exec) (hb : c.code = cc) (hK : va_K D cl tys s) (hP : va_P D cl ws H) (q0 t0 : Nat) {cA : ClassId} {n : Nat} {f : Nat → Int32} (ha : ws[q0]? = some (a, .inl (cA, n, .inl f))) (ht : tys[t0]? = some (cA, .char)) {i : Int32} (hout : ¬ vp_in i n) (hdg : decode cc pc = .ok (.caload, 1))
    (k : ∀ tx : String, tx = (toString "Index " ++ toString i ++ toString " out of bounds for length " ++ toString n : String) → vx_Note p l e R s m args below meth c H locs cells slots Q (F0 m pc ls rest) "java/lang/ArrayIndexOutOfBoundsException" tx) : W p l e R s m args below meth c H locs cells slots Q (F0 m pc ls (.int i :: .ref a :: rest)) := by
  intro T hT X
  obtain ⟨t, st, q⟩ := k _ rfl T hT X
  refine ⟨t, ?_, q⟩
  have h1 := X.caloadOut hexec (by rw [hT]; exact hP q0 _ ha) ((hK.2 t0 _ ht).1 n (fun j => .int (f j))) (j := i) (by show (i < 0 ∨ (arrV _ _ _).slots.size ≤ _); rw [arrV_size]; exact Classical.byContradiction hout) (g := F0 m pc ls (.int i :: .ref a :: rest)) rfl (rest := rest) rfl (by rw [hb]; exact hdg) t
  simp only [arrV_size] at h1
  exact h1 st
theorem vx_castZ {D : va_G} {cl : List vw_C} {ws : va_W} {tys : List (ClassId × FieldType)} {a : Nat} (hexec : p.tables.exec = Jvm.exec) (hb : c.code = cc) (hK : va_K D cl tys s) (hP : va_P D cl ws H) (q0 t0 : Nat) {cA : ClassId} {n : Nat} {f : Nat → Int32} (ha : ws[q0]? = some (a, .inl (cA, n, .inl f))) (ht : tys[t0]? = some (cA, .char)) {i : Int32} {x : Int32} (hout : ¬ vp_in i n) (hdg : decode cc pc = .ok (.castore, 1))
    (k : ∀ tx : String, tx = (toString "Index " ++ toString i ++ toString " out of bounds for length " ++ toString n : String) → vx_Note p l e R s m args below meth c H locs cells slots Q (F0 m pc ls rest) "java/lang/ArrayIndexOutOfBoundsException" tx) : W p l e R s m args below meth c H locs cells slots Q (F0 m pc ls (.int x :: .int i :: .ref a :: rest)) := by
  intro T hT X
  obtain ⟨t, st, q⟩ := k _ rfl T hT X
  refine ⟨t, ?_, q⟩
  have h1 := X.castoreOut hexec (by rw [hT]; exact hP q0 _ ha) ((hK.2 t0 _ ht).1 n (fun j => .int (f j))) (j := i) (by show (i < 0 ∨ (arrV _ _ _).slots.size ≤ _); rw [arrV_size]; exact Classical.byContradiction hout) (g := F0 m pc ls (.int x :: .int i :: .ref a :: rest)) rfl (rest := rest) rfl (by rw [hb]; exact hdg) t
  simp only [arrV_size] at h1
  exact h1 st
theorem vx_saldZ {D : va_G} {cl : List vw_C} {ws : va_W} {tys : List (ClassId × FieldType)} {a : Nat} (hexec : p.tables.exec = Jvm.exec) (hb : c.code = cc) (hK : va_K D cl tys s) (hP : va_P D cl ws H) (q0 t0 : Nat) {cA : ClassId} {n : Nat} {f : Nat → Int32} (ha : ws[q0]? = some (a, .inl (cA, n, .inl f))) (ht : tys[t0]? = some (cA, .short)) {i : Int32} (hout : ¬ vp_in i n) (hdg : decode cc pc = .ok (.saload, 1))
    (k : ∀ tx : String, tx = (toString "Index " ++ toString i ++ toString " out of bounds for length " ++ toString n : String) → vx_Note p l e R s m args below meth c H locs cells slots Q (F0 m pc ls rest) "java/lang/ArrayIndexOutOfBoundsException" tx) : W p l e R s m args below meth c H locs cells slots Q (F0 m pc ls (.int i :: .ref a :: rest)) := by
  intro T hT X
  obtain ⟨t, st, q⟩ := k _ rfl T hT X
  refine ⟨t, ?_, q⟩
  have h1 := X.saloadOut hexec (by rw [hT]; exact hP q0 _ ha) ((hK.2 t0 _ ht).1 n (fun j => .int (f j))) (j := i) (by show (i < 0 ∨ (arrV _ _ _).slots.size ≤ _); rw [arrV_size]; exact Classical.byContradiction hout) (g := F0 m pc ls (.int i :: .ref a :: rest)) rfl (rest := rest) rfl (by rw [hb]; exact hdg) t
  simp only [arrV_size] at h1
  exact h1 st
theorem vx_sastZ {D : va_G} {cl : List vw_C} {ws : va_W} {tys : List (ClassId × FieldType)} {a : Nat} (hexec : p.tables.exec = Jvm.exec) (hb : c.code = cc) (hK : va_K D cl tys s) (hP : va_P D cl ws H) (q0 t0 : Nat) {cA : ClassId} {n : Nat} {f : Nat → Int32} (ha : ws[q0]? = some (a, .inl (cA, n, .inl f))) (ht : tys[t0]? = some (cA, .short)) {i : Int32} {x : Int32} (hout : ¬ vp_in i n) (hdg : decode cc pc = .ok (.sastore, 1))
    (k : ∀ tx : String, tx = (toString "Index " ++ toString i ++ toString " out of bounds for length " ++ toString n : String) → vx_Note p l e R s m args below meth c H locs cells slots Q (F0 m pc ls rest) "java/lang/ArrayIndexOutOfBoundsException" tx) : W p l e R s m args below meth c H locs cells slots Q (F0 m pc ls (.int x :: .int i :: .ref a :: rest)) := by
  intro T hT X
  obtain ⟨t, st, q⟩ := k _ rfl T hT X
  refine ⟨t, ?_, q⟩
  have h1 := X.sastoreOut hexec (by rw [hT]; exact hP q0 _ ha) ((hK.2 t0 _ ht).1 n (fun j => .int (f j))) (j := i) (by show (i < 0 ∨ (arrV _ _ _).slots.size ≤ _); rw [arrV_size]; exact Classical.byContradiction hout) (g := F0 m pc ls (.int x :: .int i :: .ref a :: rest)) rfl (rest := rest) rfl (by rw [hb]; exact hdg) t
  simp only [arrV_size] at h1
  exact h1 st
theorem vx_laldZ {D : va_G} {cl : List vw_C} {ws : va_W} {tys : List (ClassId × FieldType)} {a : Nat} (hexec : p.tables.exec = Jvm.exec) (hb : c.code = cc) (hK : va_K D cl tys s) (hP : va_P D cl ws H) (q0 t0 : Nat) {cA : ClassId} {n : Nat} {f : Nat → Int64} (ha : ws[q0]? = some (a, .inl (cA, n, .inr (.inl f)))) (ht : tys[t0]? = some (cA, .long)) {i : Int32} (hout : ¬ vp_in i n) (hdg : decode cc pc = .ok (.laload, 1))
    (k : ∀ tx : String, tx = (toString "Index " ++ toString i ++ toString " out of bounds for length " ++ toString n : String) → vx_Note p l e R s m args below meth c H locs cells slots Q (F0 m pc ls rest) "java/lang/ArrayIndexOutOfBoundsException" tx) : W p l e R s m args below meth c H locs cells slots Q (F0 m pc ls (.int i :: .ref a :: rest)) := by
  intro T hT X
  obtain ⟨t, st, q⟩ := k _ rfl T hT X
  refine ⟨t, ?_, q⟩
  have h1 := X.laloadOut hexec (by rw [hT]; exact hP q0 _ ha) ((hK.2 t0 _ ht).1 n (fun j => .long (f j))) (j := i) (by show (i < 0 ∨ (arrV _ _ _).slots.size ≤ _); rw [arrV_size]; exact Classical.byContradiction hout) (g := F0 m pc ls (.int i :: .ref a :: rest)) rfl (rest := rest) rfl (by rw [hb]; exact hdg) t
  simp only [arrV_size] at h1
  exact h1 st
theorem vx_lastZ {D : va_G} {cl : List vw_C} {ws : va_W} {tys : List (ClassId × FieldType)} {a : Nat} (hexec : p.tables.exec = Jvm.exec) (hb : c.code = cc) (hK : va_K D cl tys s) (hP : va_P D cl ws H) (q0 t0 : Nat) {cA : ClassId} {n : Nat} {f : Nat → Int64} (ha : ws[q0]? = some (a, .inl (cA, n, .inr (.inl f)))) (ht : tys[t0]? = some (cA, .long)) {i : Int32} {x : Int64} (hout : ¬ vp_in i n) (hdg : decode cc pc = .ok (.lastore, 1))
    (k : ∀ tx : String, tx = (toString "Index " ++ toString i ++ toString " out of bounds for length " ++ toString n : String) → vx_Note p l e R s m args below meth c H locs cells slots Q (F0 m pc ls rest) "java/lang/ArrayIndexOutOfBoundsException" tx) : W p l e R s m args below meth c H locs cells slots Q (F0 m pc ls (.long x :: .int i :: .ref a :: rest)) := by
  intro T hT X
  obtain ⟨t, st, q⟩ := k _ rfl T hT X
  refine ⟨t, ?_, q⟩
  have h1 := X.lastoreOut hexec (by rw [hT]; exact hP q0 _ ha) ((hK.2 t0 _ ht).1 n (fun j => .long (f j))) (j := i) (by show (i < 0 ∨ (arrV _ _ _).slots.size ≤ _); rw [arrV_size]; exact Classical.byContradiction hout) (g := F0 m pc ls (.long x :: .int i :: .ref a :: rest)) rfl (rest := rest) rfl (by rw [hb]; exact hdg) t
  simp only [arrV_size] at h1
  exact h1 st
theorem vx_faldZ {D : va_G} {cl : List vw_C} {ws : va_W} {tys : List (ClassId × FieldType)} {a : Nat} (hexec : p.tables.exec = Jvm.exec) (hb : c.code = cc) (hK : va_K D cl tys s) (hP : va_P D cl ws H) (q0 t0 : Nat) {cA : ClassId} {n : Nat} {f : Nat → UInt32} (ha : ws[q0]? = some (a, .inl (cA, n, .inr (.inr (.inl f))))) (ht : tys[t0]? = some (cA, .float)) {i : Int32} (hout : ¬ vp_in i n) (hdg : decode cc pc = .ok (.faload, 1))
    (k : ∀ tx : String, tx = (toString "Index " ++ toString i ++ toString " out of bounds for length " ++ toString n : String) → vx_Note p l e R s m args below meth c H locs cells slots Q (F0 m pc ls rest) "java/lang/ArrayIndexOutOfBoundsException" tx) : W p l e R s m args below meth c H locs cells slots Q (F0 m pc ls (.int i :: .ref a :: rest)) := by
  intro T hT X
  obtain ⟨t, st, q⟩ := k _ rfl T hT X
  refine ⟨t, ?_, q⟩
  have h1 := X.faloadOut hexec (by rw [hT]; exact hP q0 _ ha) ((hK.2 t0 _ ht).1 n (fun j => .float (f j))) (j := i) (by show (i < 0 ∨ (arrV _ _ _).slots.size ≤ _); rw [arrV_size]; exact Classical.byContradiction hout) (g := F0 m pc ls (.int i :: .ref a :: rest)) rfl (rest := rest) rfl (by rw [hb]; exact hdg) t
  simp only [arrV_size] at h1
  exact h1 st
theorem vx_fastZ {D : va_G} {cl : List vw_C} {ws : va_W} {tys : List (ClassId × FieldType)} {a : Nat} (hexec : p.tables.exec = Jvm.exec) (hb : c.code = cc) (hK : va_K D cl tys s) (hP : va_P D cl ws H) (q0 t0 : Nat) {cA : ClassId} {n : Nat} {f : Nat → UInt32} (ha : ws[q0]? = some (a, .inl (cA, n, .inr (.inr (.inl f))))) (ht : tys[t0]? = some (cA, .float)) {i : Int32} {x : UInt32} (hout : ¬ vp_in i n) (hdg : decode cc pc = .ok (.fastore, 1))
    (k : ∀ tx : String, tx = (toString "Index " ++ toString i ++ toString " out of bounds for length " ++ toString n : String) → vx_Note p l e R s m args below meth c H locs cells slots Q (F0 m pc ls rest) "java/lang/ArrayIndexOutOfBoundsException" tx) : W p l e R s m args below meth c H locs cells slots Q (F0 m pc ls (.float x :: .int i :: .ref a :: rest)) := by
  intro T hT X
  obtain ⟨t, st, q⟩ := k _ rfl T hT X
  refine ⟨t, ?_, q⟩
  have h1 := X.fastoreOut hexec (by rw [hT]; exact hP q0 _ ha) ((hK.2 t0 _ ht).1 n (fun j => .float (f j))) (j := i) (by show (i < 0 ∨ (arrV _ _ _).slots.size ≤ _); rw [arrV_size]; exact Classical.byContradiction hout) (g := F0 m pc ls (.float x :: .int i :: .ref a :: rest)) rfl (rest := rest) rfl (by rw [hb]; exact hdg) t
  simp only [arrV_size] at h1
  exact h1 st
theorem vx_daldZ {D : va_G} {cl : List vw_C} {ws : va_W} {tys : List (ClassId × FieldType)} {a : Nat} (hexec : p.tables.exec = Jvm.exec) (hb : c.code = cc) (hK : va_K D cl tys s) (hP : va_P D cl ws H) (q0 t0 : Nat) {cA : ClassId} {n : Nat} {f : Nat → UInt64} (ha : ws[q0]? = some (a, .inl (cA, n, .inr (.inr (.inr (.inl f)))))) (ht : tys[t0]? = some (cA, .double)) {i : Int32} (hout : ¬ vp_in i n) (hdg : decode cc pc = .ok (.daload, 1))
    (k : ∀ tx : String, tx = (toString "Index " ++ toString i ++ toString " out of bounds for length " ++ toString n : String) → vx_Note p l e R s m args below meth c H locs cells slots Q (F0 m pc ls rest) "java/lang/ArrayIndexOutOfBoundsException" tx) : W p l e R s m args below meth c H locs cells slots Q (F0 m pc ls (.int i :: .ref a :: rest)) := by
  intro T hT X
  obtain ⟨t, st, q⟩ := k _ rfl T hT X
  refine ⟨t, ?_, q⟩
  have h1 := X.daloadOut hexec (by rw [hT]; exact hP q0 _ ha) ((hK.2 t0 _ ht).1 n (fun j => .double (f j))) (j := i) (by show (i < 0 ∨ (arrV _ _ _).slots.size ≤ _); rw [arrV_size]; exact Classical.byContradiction hout) (g := F0 m pc ls (.int i :: .ref a :: rest)) rfl (rest := rest) rfl (by rw [hb]; exact hdg) t
  simp only [arrV_size] at h1
  exact h1 st
theorem vx_dastZ {D : va_G} {cl : List vw_C} {ws : va_W} {tys : List (ClassId × FieldType)} {a : Nat} (hexec : p.tables.exec = Jvm.exec) (hb : c.code = cc) (hK : va_K D cl tys s) (hP : va_P D cl ws H) (q0 t0 : Nat) {cA : ClassId} {n : Nat} {f : Nat → UInt64} (ha : ws[q0]? = some (a, .inl (cA, n, .inr (.inr (.inr (.inl f)))))) (ht : tys[t0]? = some (cA, .double)) {i : Int32} {x : UInt64} (hout : ¬ vp_in i n) (hdg : decode cc pc = .ok (.dastore, 1))
    (k : ∀ tx : String, tx = (toString "Index " ++ toString i ++ toString " out of bounds for length " ++ toString n : String) → vx_Note p l e R s m args below meth c H locs cells slots Q (F0 m pc ls rest) "java/lang/ArrayIndexOutOfBoundsException" tx) : W p l e R s m args below meth c H locs cells slots Q (F0 m pc ls (.double x :: .int i :: .ref a :: rest)) := by
  intro T hT X
  obtain ⟨t, st, q⟩ := k _ rfl T hT X
  refine ⟨t, ?_, q⟩
  have h1 := X.dastoreOut hexec (by rw [hT]; exact hP q0 _ ha) ((hK.2 t0 _ ht).1 n (fun j => .double (f j))) (j := i) (by show (i < 0 ∨ (arrV _ _ _).slots.size ≤ _); rw [arrV_size]; exact Classical.byContradiction hout) (g := F0 m pc ls (.double x :: .int i :: .ref a :: rest)) rfl (rest := rest) rfl (by rw [hb]; exact hdg) t
  simp only [arrV_size] at h1
  exact h1 st
theorem vx_arraylengthN (hexec : p.tables.exec = Jvm.exec) (hb : c.code = cc) (hdg : decode cc pc = .ok (.arraylength, 1)) (k : vx_NoteN p l e R s m args below meth c H locs cells slots Q (F0 m pc ls rest)) : W p l e R s m args below meth c H locs cells slots Q (F0 m pc ls (.null :: rest)) := by
  intro T hT X
  obtain ⟨t, st, q⟩ := k T hT X
  exact ⟨t, X.arraylengthNull hexec (g := F0 m pc ls (.null :: rest)) rfl (rest := rest) rfl (by rw [hb]; exact hdg) t st, q⟩
theorem vx_ialoadN (hexec : p.tables.exec = Jvm.exec) (hb : c.code = cc) {i : Int32} (hdg : decode cc pc = .ok (.iaload, 1)) (k : vx_NoteN p l e R s m args below meth c H locs cells slots Q (F0 m pc ls rest)) : W p l e R s m args below meth c H locs cells slots Q (F0 m pc ls (.int i :: .null :: rest)) := by
  intro T hT X
  obtain ⟨t, st, q⟩ := k T hT X
  exact ⟨t, X.ialoadNull hexec (g := F0 m pc ls (.int i :: .null :: rest)) rfl (rest := rest) rfl (by rw [hb]; exact hdg) t st, q⟩
theorem vx_laloadN (hexec : p.tables.exec = Jvm.exec) (hb : c.code = cc) {i : Int32} (hdg : decode cc pc = .ok (.laload, 1)) (k : vx_NoteN p l e R s m args below meth c H locs cells slots Q (F0 m pc ls rest)) : W p l e R s m args below meth c H locs cells slots Q (F0 m pc ls (.int i :: .null :: rest)) := by
  intro T hT X
  obtain ⟨t, st, q⟩ := k T hT X
  exact ⟨t, X.laloadNull hexec (g := F0 m pc ls (.int i :: .null :: rest)) rfl (rest := rest) rfl (by rw [hb]; exact hdg) t st, q⟩
theorem vx_faloadN (hexec : p.tables.exec = Jvm.exec) (hb : c.code = cc) {i : Int32} (hdg : decode cc pc = .ok (.faload, 1)) (k : vx_NoteN p l e R s m args below meth c H locs cells slots Q (F0 m pc ls rest)) : W p l e R s m args below meth c H locs cells slots Q (F0 m pc ls (.int i :: .null :: rest)) := by
  intro T hT X
  obtain ⟨t, st, q⟩ := k T hT X
  exact ⟨t, X.faloadNull hexec (g := F0 m pc ls (.int i :: .null :: rest)) rfl (rest := rest) rfl (by rw [hb]; exact hdg) t st, q⟩
theorem vx_daloadN (hexec : p.tables.exec = Jvm.exec) (hb : c.code = cc) {i : Int32} (hdg : decode cc pc = .ok (.daload, 1)) (k : vx_NoteN p l e R s m args below meth c H locs cells slots Q (F0 m pc ls rest)) : W p l e R s m args below meth c H locs cells slots Q (F0 m pc ls (.int i :: .null :: rest)) := by
  intro T hT X
  obtain ⟨t, st, q⟩ := k T hT X
  exact ⟨t, X.daloadNull hexec (g := F0 m pc ls (.int i :: .null :: rest)) rfl (rest := rest) rfl (by rw [hb]; exact hdg) t st, q⟩
theorem vx_aaloadN (hexec : p.tables.exec = Jvm.exec) (hb : c.code = cc) {i : Int32} (hdg : decode cc pc = .ok (.aaload, 1)) (k : vx_NoteN p l e R s m args below meth c H locs cells slots Q (F0 m pc ls rest)) : W p l e R s m args below meth c H locs cells slots Q (F0 m pc ls (.int i :: .null :: rest)) := by
  intro T hT X
  obtain ⟨t, st, q⟩ := k T hT X
  exact ⟨t, X.aaloadNull hexec (g := F0 m pc ls (.int i :: .null :: rest)) rfl (rest := rest) rfl (by rw [hb]; exact hdg) t st, q⟩
theorem vx_baloadN (hexec : p.tables.exec = Jvm.exec) (hb : c.code = cc) {i : Int32} (hdg : decode cc pc = .ok (.baload, 1)) (k : vx_NoteN p l e R s m args below meth c H locs cells slots Q (F0 m pc ls rest)) : W p l e R s m args below meth c H locs cells slots Q (F0 m pc ls (.int i :: .null :: rest)) := by
  intro T hT X
  obtain ⟨t, st, q⟩ := k T hT X
  exact ⟨t, X.baloadNull hexec (g := F0 m pc ls (.int i :: .null :: rest)) rfl (rest := rest) rfl (by rw [hb]; exact hdg) t st, q⟩
theorem vx_caloadN (hexec : p.tables.exec = Jvm.exec) (hb : c.code = cc) {i : Int32} (hdg : decode cc pc = .ok (.caload, 1)) (k : vx_NoteN p l e R s m args below meth c H locs cells slots Q (F0 m pc ls rest)) : W p l e R s m args below meth c H locs cells slots Q (F0 m pc ls (.int i :: .null :: rest)) := by
  intro T hT X
  obtain ⟨t, st, q⟩ := k T hT X
  exact ⟨t, X.caloadNull hexec (g := F0 m pc ls (.int i :: .null :: rest)) rfl (rest := rest) rfl (by rw [hb]; exact hdg) t st, q⟩
theorem vx_saloadN (hexec : p.tables.exec = Jvm.exec) (hb : c.code = cc) {i : Int32} (hdg : decode cc pc = .ok (.saload, 1)) (k : vx_NoteN p l e R s m args below meth c H locs cells slots Q (F0 m pc ls rest)) : W p l e R s m args below meth c H locs cells slots Q (F0 m pc ls (.int i :: .null :: rest)) := by
  intro T hT X
  obtain ⟨t, st, q⟩ := k T hT X
  exact ⟨t, X.saloadNull hexec (g := F0 m pc ls (.int i :: .null :: rest)) rfl (rest := rest) rfl (by rw [hb]; exact hdg) t st, q⟩
theorem vx_iastoreN (hexec : p.tables.exec = Jvm.exec) (hb : c.code = cc) {x : Int32} {i : Int32} (hdg : decode cc pc = .ok (.iastore, 1)) (k : vx_NoteN p l e R s m args below meth c H locs cells slots Q (F0 m pc ls rest)) : W p l e R s m args below meth c H locs cells slots Q (F0 m pc ls (.int x :: .int i :: .null :: rest)) := by
  intro T hT X
  obtain ⟨t, st, q⟩ := k T hT X
  exact ⟨t, X.iastoreNull hexec (g := F0 m pc ls (.int x :: .int i :: .null :: rest)) rfl (rest := rest) rfl (by rw [hb]; exact hdg) t st, q⟩
theorem vx_lastoreN (hexec : p.tables.exec = Jvm.exec) (hb : c.code = cc) {x : Int64} {i : Int32} (hdg : decode cc pc = .ok (.lastore, 1)) (k : vx_NoteN p l e R s m args below meth c H locs cells slots Q (F0 m pc ls rest)) : W p l e R s m args below meth c H locs cells slots Q (F0 m pc ls (.long x :: .int i :: .null :: rest)) := by
  intro T hT X
  obtain ⟨t, st, q⟩ := k T hT X
  exact ⟨t, X.lastoreNull hexec (g := F0 m pc ls (.long x :: .int i :: .null :: rest)) rfl (rest := rest) rfl (by rw [hb]; exact hdg) t st, q⟩
theorem vx_fastoreN (hexec : p.tables.exec = Jvm.exec) (hb : c.code = cc) {x : UInt32} {i : Int32} (hdg : decode cc pc = .ok (.fastore, 1)) (k : vx_NoteN p l e R s m args below meth c H locs cells slots Q (F0 m pc ls rest)) : W p l e R s m args below meth c H locs cells slots Q (F0 m pc ls (.float x :: .int i :: .null :: rest)) := by
  intro T hT X
  obtain ⟨t, st, q⟩ := k T hT X
  exact ⟨t, X.fastoreNull hexec (g := F0 m pc ls (.float x :: .int i :: .null :: rest)) rfl (rest := rest) rfl (by rw [hb]; exact hdg) t st, q⟩
theorem vx_dastoreN (hexec : p.tables.exec = Jvm.exec) (hb : c.code = cc) {x : UInt64} {i : Int32} (hdg : decode cc pc = .ok (.dastore, 1)) (k : vx_NoteN p l e R s m args below meth c H locs cells slots Q (F0 m pc ls rest)) : W p l e R s m args below meth c H locs cells slots Q (F0 m pc ls (.double x :: .int i :: .null :: rest)) := by
  intro T hT X
  obtain ⟨t, st, q⟩ := k T hT X
  exact ⟨t, X.dastoreNull hexec (g := F0 m pc ls (.double x :: .int i :: .null :: rest)) rfl (rest := rest) rfl (by rw [hb]; exact hdg) t st, q⟩
theorem vx_bastoreN (hexec : p.tables.exec = Jvm.exec) (hb : c.code = cc) {x : Int32} {i : Int32} (hdg : decode cc pc = .ok (.bastore, 1)) (k : vx_NoteN p l e R s m args below meth c H locs cells slots Q (F0 m pc ls rest)) : W p l e R s m args below meth c H locs cells slots Q (F0 m pc ls (.int x :: .int i :: .null :: rest)) := by
  intro T hT X
  obtain ⟨t, st, q⟩ := k T hT X
  exact ⟨t, X.bastoreNull hexec (g := F0 m pc ls (.int x :: .int i :: .null :: rest)) rfl (rest := rest) rfl (by rw [hb]; exact hdg) t st, q⟩
theorem vx_castoreN (hexec : p.tables.exec = Jvm.exec) (hb : c.code = cc) {x : Int32} {i : Int32} (hdg : decode cc pc = .ok (.castore, 1)) (k : vx_NoteN p l e R s m args below meth c H locs cells slots Q (F0 m pc ls rest)) : W p l e R s m args below meth c H locs cells slots Q (F0 m pc ls (.int x :: .int i :: .null :: rest)) := by
  intro T hT X
  obtain ⟨t, st, q⟩ := k T hT X
  exact ⟨t, X.castoreNull hexec (g := F0 m pc ls (.int x :: .int i :: .null :: rest)) rfl (rest := rest) rfl (by rw [hb]; exact hdg) t st, q⟩
theorem vx_sastoreN (hexec : p.tables.exec = Jvm.exec) (hb : c.code = cc) {x : Int32} {i : Int32} (hdg : decode cc pc = .ok (.sastore, 1)) (k : vx_NoteN p l e R s m args below meth c H locs cells slots Q (F0 m pc ls rest)) : W p l e R s m args below meth c H locs cells slots Q (F0 m pc ls (.int x :: .int i :: .null :: rest)) := by
  intro T hT X
  obtain ⟨t, st, q⟩ := k T hT X
  exact ⟨t, X.sastoreNull hexec (g := F0 m pc ls (.int x :: .int i :: .null :: rest)) rfl (rest := rest) rfl (by rw [hb]; exact hdg) t st, q⟩
theorem vx_invokeN {own C : String} {index maxL : Nat} {y : MethodName} {bytes : ByteArray} {ret : Option FieldType} (hexec : p.tables.exec = Jvm.exec) (hb : c.code = cc) (hown : s.vm.findClass own = some m.cls) (hlink : (Cond.methodLink own index y).before args s = true) (hinst : (Cond.instanceMethod y).before args s = true) (hcode : (Cond.code y bytes maxL ret).before args s = true) (hsel : (Cond.selects C y y).before args s = true)
    (hx : y.cls ≠ "java/lang/invoke/MethodHandle" ∧ y.cls ≠ "java/lang/invoke/VarHandle") {As : List Value} (hlen : (parseMethodDescriptor y.desc).map (fun d => d.parameters.length) = some As.length) (hdg : decode cc pc = .ok (.invokevirtual index, 3))
    (k : vx_NoteN p l e R s m args below meth c H locs cells slots Q (F0 m pc ls rest)) {st0 : List Value} (hst : st0 = As.reverse ++ .null :: rest) : W p l e R s m args below meth c H locs cells slots Q (F0 m pc ls st0) := by
  intro T hT X
  obtain ⟨r0, r, hn, hrm, hstR, hsigR⟩ := va_Decl.of hinst hcode
  obtain ⟨c2, r2, m2, q1, q2, q3, q4, kP, hkP, hkPi⟩ := Cond.selects_spec hsel
  cases hn.symm.trans q3
  have hl9 : As.length = r.sig.parameters.length := by
    rw [hsigR] at hlen
    exact (Option.some.inj hlen).symm
  obtain ⟨vm', X1, st1⟩ := X.invokevirtualNull hexec hown hlink hn hrm hstR hkP hkPi hx (g := F0 m pc ls st0) rfl (argsL := As) (rest := rest) hl9 hst (by rw [hb]; exact hdg)
  obtain ⟨t, st, q⟩ := k (T.setVm vm') hT X1
  exact ⟨t, st1 t st, q⟩
theorem vx_newarrayZ {atype : ArrayType} (hexec : p.tables.exec = Jvm.exec) (hb : c.code = cc) {n : Int32} (h0 : n < 0) (hdg : decode cc pc = .ok (.newarray atype, 2)) (k : ∀ tx : String, tx = toString n → vx_Note p l e R s m args below meth c H locs cells slots Q (F0 m pc ls rest) "java/lang/NegativeArraySizeException" tx) : W p l e R s m args below meth c H locs cells slots Q (F0 m pc ls (.int n :: rest)) := by
  intro T hT X
  obtain ⟨t, st, q⟩ := k _ rfl T hT X
  exact ⟨t, X.newarrayNegative hexec (g := F0 m pc ls (.int n :: rest)) rfl h0 (rest := rest) rfl (by rw [hb]; exact hdg) t st, q⟩
end
end VXM
/-! ===== END ===== -/
end
section
def RX0 : String := "SlopeOperator$Area"
def TX0 : u_T := fun k => match k with
  | 0 => ("SlopeOperator$Area", "lifts", "[LSlopeOperator$Lift;", true)
  | 1 => ("SlopeOperator$Area", "pistes", "[LSlopeOperator$Piste;", true)
  | 2 => ("SlopeOperator$Area", "guests", "[LSlopeOperator$Guest;", true)
  | 3 => ("SlopeOperator$Area", "liftCount", "I", false)
  | 4 => ("SlopeOperator$Area", "pisteCount", "I", false)
  | 5 => ("SlopeOperator$Area", "guestCount", "I", false)
  | 6 => ("SlopeOperator$Area", "wind", "I", false)
  | 7 => ("SlopeOperator$Area", "tick", "I", false)
  | _ => ("SlopeOperator$Area", "day", "I", false)
def tyX0 : Nat → FieldType := fun k => match k with
  | 0 => .array (.object "SlopeOperator$Lift")
  | 1 => .array (.object "SlopeOperator$Piste")
  | 2 => .array (.object "SlopeOperator$Guest")
  | 3 => .int
  | 4 => .int
  | 5 => .int
  | 6 => .int
  | 7 => .int
  | _ => .int
theorem nmX0 : ∀ a, a < 9 → ∀ b, b < 9 → a ≠ b → (TX0 a).2.1 ≠ (TX0 b).2.1 := by decide +kernel
theorem tyX0_ok : ∀ k, k < 9 → parseFieldDescriptor (TX0 k).2.2.1 = some (tyX0 k) := by decide +kernel
abbrev cX0_init : ByteArray := prog_2_method_1_code
def yX0_init : MethodName := ⟨RX0, "<init>", "()V"⟩
abbrev cX0_becomeEmpty : ByteArray := prog_2_method_2_code
def yX0_becomeEmpty : MethodName := ⟨RX0, "becomeEmpty", "()V"⟩
abbrev cX0_copyFrom : ByteArray := prog_2_method_3_code
def yX0_copyFrom : MethodName := ⟨RX0, "copyFrom", "(LSlopeOperator$Area;)V"⟩
abbrev cX0_liftAt : ByteArray := prog_2_method_4_code
def yX0_liftAt : MethodName := ⟨RX0, "liftAt", "(I)LSlopeOperator$Lift;"⟩
abbrev cX0_pisteAt : ByteArray := prog_2_method_5_code
def yX0_pisteAt : MethodName := ⟨RX0, "pisteAt", "(I)LSlopeOperator$Piste;"⟩
abbrev cX0_guestAt : ByteArray := prog_2_method_6_code
def yX0_guestAt : MethodName := ⟨RX0, "guestAt", "(I)LSlopeOperator$Guest;"⟩
abbrev cX0_speedOf : ByteArray := prog_2_method_7_code
def yX0_speedOf : MethodName := ⟨RX0, "speedOf", "(LSlopeOperator$Lift;)I"⟩
abbrev cX0_isHeld : ByteArray := prog_2_method_8_code
def yX0_isHeld : MethodName := ⟨RX0, "isHeld", "(LSlopeOperator$Lift;)Z"⟩
abbrev cX0_isOpenedFor : ByteArray := prog_2_method_9_code
def yX0_isOpenedFor : MethodName := ⟨RX0, "isOpenedFor", "(LSlopeOperator$Guest;LSlopeOperator$Lift;)Z"⟩
abbrev cX0_isWayFor : ByteArray := prog_2_method_10_code
def yX0_isWayFor : MethodName := ⟨RX0, "isWayFor", "(LSlopeOperator$Guest;LSlopeOperator$Lift;)Z"⟩
abbrev cX0_isWayFor_ : ByteArray := prog_2_method_11_code
def yX0_isWayFor_ : MethodName := ⟨RX0, "isWayFor", "(LSlopeOperator$Guest;LSlopeOperator$Piste;)Z"⟩
abbrev cX0_heldLifts : ByteArray := prog_2_method_12_code
def yX0_heldLifts : MethodName := ⟨RX0, "heldLifts", "()I"⟩
abbrev cX0_liftsOpenedFor : ByteArray := prog_2_method_13_code
def yX0_liftsOpenedFor : MethodName := ⟨RX0, "liftsOpenedFor", "(LSlopeOperator$Guest;)I"⟩
abbrev cX0_openPistes : ByteArray := prog_2_method_14_code
def yX0_openPistes : MethodName := ⟨RX0, "openPistes", "()I"⟩
abbrev cX0_guestsIn : ByteArray := prog_2_method_15_code
def yX0_guestsIn : MethodName := ⟨RX0, "guestsIn", "(I)I"⟩
abbrev cX0_guestsWith : ByteArray := prog_2_method_16_code
def yX0_guestsWith : MethodName := ⟨RX0, "guestsWith", "(II)I"⟩
abbrev cX0_guestInQueue : ByteArray := prog_2_method_17_code
def yX0_guestInQueue : MethodName := ⟨RX0, "guestInQueue", "(II)I"⟩
abbrev cX0_welcome : ByteArray := prog_2_method_18_code
def yX0_welcome : MethodName := ⟨RX0, "welcome", "(IIIII)I"⟩
abbrev cX0_queueRefusal : ByteArray := prog_2_method_19_code
def yX0_queueRefusal : MethodName := ⟨RX0, "queueRefusal", "(LSlopeOperator$Guest;LSlopeOperator$Lift;I)I"⟩
abbrev cX0_skiRefusal : ByteArray := prog_2_method_20_code
def yX0_skiRefusal : MethodName := ⟨RX0, "skiRefusal", "(LSlopeOperator$Guest;LSlopeOperator$Piste;)I"⟩
abbrev cX0_joinQueue : ByteArray := prog_2_method_21_code
def yX0_joinQueue : MethodName := ⟨RX0, "joinQueue", "(LSlopeOperator$Guest;I)I"⟩
abbrev cX0_leaveQueue : ByteArray := prog_2_method_22_code
def yX0_leaveQueue : MethodName := ⟨RX0, "leaveQueue", "(LSlopeOperator$Guest;)V"⟩
abbrev cX0_startPiste : ByteArray := prog_2_method_23_code
def yX0_startPiste : MethodName := ⟨RX0, "startPiste", "(LSlopeOperator$Guest;LSlopeOperator$Piste;I)I"⟩
abbrev cX0_passTicks : ByteArray := prog_2_method_24_code
def yX0_passTicks : MethodName := ⟨RX0, "passTicks", "(I)I"⟩
abbrev cX0_moveRiders : ByteArray := prog_2_method_25_code
def yX0_moveRiders : MethodName := ⟨RX0, "moveRiders", "()I"⟩
abbrev cX0_moveSkiers : ByteArray := prog_2_method_26_code
def yX0_moveSkiers : MethodName := ⟨RX0, "moveSkiers", "()I"⟩
abbrev cX0_turnLifts : ByteArray := prog_2_method_27_code
def yX0_turnLifts : MethodName := ⟨RX0, "turnLifts", "()V"⟩
abbrev cX0_boardCabin : ByteArray := prog_2_method_28_code
def yX0_boardCabin : MethodName := ⟨RX0, "boardCabin", "(LSlopeOperator$Lift;I)V"⟩
abbrev cX0_groomPistes : ByteArray := prog_2_method_29_code
def yX0_groomPistes : MethodName := ⟨RX0, "groomPistes", "()V"⟩
abbrev cX0_closeWornPistes : ByteArray := prog_2_method_30_code
def yX0_closeWornPistes : MethodName := ⟨RX0, "closeWornPistes", "()V"⟩
abbrev cX0_closeDay : ByteArray := prog_2_method_31_code
def yX0_closeDay : MethodName := ⟨RX0, "closeDay", "()I"⟩
abbrev cX0_ticksToStation : ByteArray := prog_2_method_32_code
def yX0_ticksToStation : MethodName := ⟨RX0, "ticksToStation", "(LSlopeOperator$Guest;)I"⟩
abbrev cX0_ticksOnLift : ByteArray := prog_2_method_33_code
def yX0_ticksOnLift : MethodName := ⟨RX0, "ticksOnLift", "(LSlopeOperator$Lift;I)I"⟩
abbrev cX0_ticksFromQueue : ByteArray := prog_2_method_34_code
def yX0_ticksFromQueue : MethodName := ⟨RX0, "ticksFromQueue", "(LSlopeOperator$Lift;I)I"⟩
abbrev cX0_accountsGap : ByteArray := prog_2_method_35_code
def yX0_accountsGap : MethodName := ⟨RX0, "accountsGap", "()I"⟩
abbrev cX0_liftWithMostRiders : ByteArray := prog_2_method_36_code
def yX0_liftWithMostRiders : MethodName := ⟨RX0, "liftWithMostRiders", "()I"⟩
def RX1 : String := "SlopeOperator$Guest"
def TX1 : u_T := fun k => match k with
  | 0 => ("SlopeOperator$Guest", "skill", "I", false)
  | 1 => ("SlopeOperator$Guest", "zones", "I", false)
  | 2 => ("SlopeOperator$Guest", "first", "I", false)
  | 3 => ("SlopeOperator$Guest", "last", "I", false)
  | 4 => ("SlopeOperator$Guest", "state", "I", false)
  | 5 => ("SlopeOperator$Guest", "where", "I", false)
  | 6 => ("SlopeOperator$Guest", "rest", "I", false)
  | 7 => ("SlopeOperator$Guest", "place", "I", false)
  | 8 => ("SlopeOperator$Guest", "rides", "I", false)
  | 9 => ("SlopeOperator$Guest", "runs", "I", false)
  | _ => ("SlopeOperator$Guest", "refusals", "I", false)
def tyX1 : Nat → FieldType := fun k => match k with
  | 0 => .int
  | 1 => .int
  | 2 => .int
  | 3 => .int
  | 4 => .int
  | 5 => .int
  | 6 => .int
  | 7 => .int
  | 8 => .int
  | 9 => .int
  | _ => .int
theorem nmX1 : ∀ a, a < 11 → ∀ b, b < 11 → a ≠ b → (TX1 a).2.1 ≠ (TX1 b).2.1 := by decide +kernel
theorem tyX1_ok : ∀ k, k < 11 → parseFieldDescriptor (TX1 k).2.2.1 = some (tyX1 k) := by decide +kernel
abbrev cX1_init : ByteArray := prog_3_method_1_code
def yX1_init : MethodName := ⟨RX1, "<init>", "()V"⟩
abbrev cX1_begin : ByteArray := prog_3_method_2_code
def yX1_begin : MethodName := ⟨RX1, "begin", "(IIIII)V"⟩
abbrev cX1_copyFrom : ByteArray := prog_3_method_3_code
def yX1_copyFrom : MethodName := ⟨RX1, "copyFrom", "(LSlopeOperator$Guest;)V"⟩
abbrev cX1_standAt : ByteArray := prog_3_method_4_code
def yX1_standAt : MethodName := ⟨RX1, "standAt", "(I)V"⟩
abbrev cX1_goAway : ByteArray := prog_3_method_5_code
def yX1_goAway : MethodName := ⟨RX1, "goAway", "()V"⟩
abbrev cX1_become : ByteArray := prog_3_method_6_code
def yX1_become : MethodName := ⟨RX1, "become", "(IIII)V"⟩
abbrev cX1_is : ByteArray := prog_3_method_7_code
def yX1_is : MethodName := ⟨RX1, "is", "(II)Z"⟩
def RX2 : String := "SlopeOperator$History"
def TX2 : u_T := fun k => match k with
  | 0 => ("SlopeOperator$History", "rows", "[LSlopeOperator$Area;", true)
  | 1 => ("SlopeOperator$History", "next", "I", false)
  | _ => ("SlopeOperator$History", "size", "I", false)
def tyX2 : Nat → FieldType := fun k => match k with
  | 0 => .array (.object "SlopeOperator$Area")
  | 1 => .int
  | _ => .int
theorem nmX2 : ∀ a, a < 3 → ∀ b, b < 3 → a ≠ b → (TX2 a).2.1 ≠ (TX2 b).2.1 := by decide +kernel
theorem tyX2_ok : ∀ k, k < 3 → parseFieldDescriptor (TX2 k).2.2.1 = some (tyX2 k) := by decide +kernel
abbrev cX2_init : ByteArray := prog_4_method_1_code
def yX2_init : MethodName := ⟨RX2, "<init>", "()V"⟩
abbrev cX2_forgetAll : ByteArray := prog_4_method_2_code
def yX2_forgetAll : MethodName := ⟨RX2, "forgetAll", "()V"⟩
abbrev cX2_remember : ByteArray := prog_4_method_3_code
def yX2_remember : MethodName := ⟨RX2, "remember", "(LSlopeOperator$Area;)V"⟩
abbrev cX2_takeBack : ByteArray := prog_4_method_4_code
def yX2_takeBack : MethodName := ⟨RX2, "takeBack", "(LSlopeOperator$Area;)V"⟩
def RX3 : String := "SlopeOperator$Input"
def TX3 : u_T := fun k => match k with
  | 0 => ("SlopeOperator$Input", "text", "[C", true)
  | 1 => ("SlopeOperator$Input", "length", "I", false)
  | 2 => ("SlopeOperator$Input", "cursor", "I", false)
  | 3 => ("SlopeOperator$Input", "entries", "I", false)
  | 4 => ("SlopeOperator$Input", "kind", "I", false)
  | 5 => ("SlopeOperator$Input", "number", "I", false)
  | _ => ("SlopeOperator$Input", "target", "I", false)
def tyX3 : Nat → FieldType := fun k => match k with
  | 0 => .array .char
  | 1 => .int
  | 2 => .int
  | 3 => .int
  | 4 => .int
  | 5 => .int
  | _ => .int
theorem nmX3 : ∀ a, a < 7 → ∀ b, b < 7 → a ≠ b → (TX3 a).2.1 ≠ (TX3 b).2.1 := by decide +kernel
theorem tyX3_ok : ∀ k, k < 7 → parseFieldDescriptor (TX3 k).2.2.1 = some (tyX3 k) := by decide +kernel
abbrev cX3_init : ByteArray := prog_5_method_1_code
def yX3_init : MethodName := ⟨RX3, "<init>", "()V"⟩
abbrev cX3_becomeEmpty : ByteArray := prog_5_method_2_code
def yX3_becomeEmpty : MethodName := ⟨RX3, "becomeEmpty", "()V"⟩
abbrev cX3_put : ByteArray := prog_5_method_3_code
def yX3_put : MethodName := ⟨RX3, "put", "(C)I"⟩
abbrev cX3_isText : ByteArray := prog_5_method_4_code
def yX3_isText : MethodName := ⟨RX3, "isText", "()Z"⟩
abbrev cX3_takeEntry : ByteArray := prog_5_method_5_code
def yX3_takeEntry : MethodName := ⟨RX3, "takeEntry", "()Z"⟩
abbrev cX3_isHere : ByteArray := prog_5_method_6_code
def yX3_isHere : MethodName := ⟨RX3, "isHere", "(CC)Z"⟩
abbrev cX3_takeSign : ByteArray := prog_5_method_7_code
def yX3_takeSign : MethodName := ⟨RX3, "takeSign", "(C)Z"⟩
abbrev cX3_takeDigit : ByteArray := prog_5_method_8_code
def yX3_takeDigit : MethodName := ⟨RX3, "takeDigit", "(CC)I"⟩
abbrev cX3_takeNumber : ByteArray := prog_5_method_9_code
def yX3_takeNumber : MethodName := ⟨RX3, "takeNumber", "(CC)Z"⟩
abbrev cX3_takeTarget : ByteArray := prog_5_method_10_code
def yX3_takeTarget : MethodName := ⟨RX3, "takeTarget", "(CC)Z"⟩
abbrev cX3_takeGuest : ByteArray := prog_5_method_11_code
def yX3_takeGuest : MethodName := ⟨RX3, "takeGuest", "()Z"⟩
def RX4 : String := "SlopeOperator$Lift"
def TX4 : u_T := fun k => match k with
  | 0 => ("SlopeOperator$Lift", "lower", "I", false)
  | 1 => ("SlopeOperator$Lift", "upper", "I", false)
  | 2 => ("SlopeOperator$Lift", "zone", "I", false)
  | 3 => ("SlopeOperator$Lift", "interval", "I", false)
  | 4 => ("SlopeOperator$Lift", "capacity", "I", false)
  | 5 => ("SlopeOperator$Lift", "ride", "I", false)
  | 6 => ("SlopeOperator$Lift", "exposure", "I", false)
  | 7 => ("SlopeOperator$Lift", "clock", "I", false)
  | 8 => ("SlopeOperator$Lift", "riders", "I", false)
  | _ => ("SlopeOperator$Lift", "cabins", "I", false)
def tyX4 : Nat → FieldType := fun k => match k with
  | 0 => .int
  | 1 => .int
  | 2 => .int
  | 3 => .int
  | 4 => .int
  | 5 => .int
  | 6 => .int
  | 7 => .int
  | 8 => .int
  | _ => .int
theorem nmX4 : ∀ a, a < 10 → ∀ b, b < 10 → a ≠ b → (TX4 a).2.1 ≠ (TX4 b).2.1 := by decide +kernel
theorem tyX4_ok : ∀ k, k < 10 → parseFieldDescriptor (TX4 k).2.2.1 = some (tyX4 k) := by decide +kernel
abbrev cX4_init : ByteArray := prog_6_method_1_code
def yX4_init : MethodName := ⟨RX4, "<init>", "()V"⟩
abbrev cX4_begin : ByteArray := prog_6_method_2_code
def yX4_begin : MethodName := ⟨RX4, "begin", "(IIIIII)V"⟩
abbrev cX4_copyFrom : ByteArray := prog_6_method_3_code
def yX4_copyFrom : MethodName := ⟨RX4, "copyFrom", "(LSlopeOperator$Lift;)V"⟩
abbrev cX4_stepsToCabin : ByteArray := prog_6_method_4_code
def yX4_stepsToCabin : MethodName := ⟨RX4, "stepsToCabin", "(I)I"⟩
abbrev cX4_restOfRide : ByteArray := prog_6_method_5_code
def yX4_restOfRide : MethodName := ⟨RX4, "restOfRide", "()I"⟩
def RX5 : String := "SlopeOperator$Piste"
def TX5 : u_T := fun k => match k with
  | 0 => ("SlopeOperator$Piste", "from", "I", false)
  | 1 => ("SlopeOperator$Piste", "to", "I", false)
  | 2 => ("SlopeOperator$Piste", "difficulty", "I", false)
  | 3 => ("SlopeOperator$Piste", "length", "I", false)
  | 4 => ("SlopeOperator$Piste", "state", "I", false)
  | 5 => ("SlopeOperator$Piste", "wear", "I", false)
  | 6 => ("SlopeOperator$Piste", "rest", "I", false)
  | _ => ("SlopeOperator$Piste", "begun", "I", false)
def tyX5 : Nat → FieldType := fun k => match k with
  | 0 => .int
  | 1 => .int
  | 2 => .int
  | 3 => .int
  | 4 => .int
  | 5 => .int
  | 6 => .int
  | _ => .int
theorem nmX5 : ∀ a, a < 8 → ∀ b, b < 8 → a ≠ b → (TX5 a).2.1 ≠ (TX5 b).2.1 := by decide +kernel
theorem tyX5_ok : ∀ k, k < 8 → parseFieldDescriptor (TX5 k).2.2.1 = some (tyX5 k) := by decide +kernel
abbrev cX5_init : ByteArray := prog_7_method_1_code
def yX5_init : MethodName := ⟨RX5, "<init>", "()V"⟩
abbrev cX5_begin : ByteArray := prog_7_method_2_code
def yX5_begin : MethodName := ⟨RX5, "begin", "(IIII)V"⟩
abbrev cX5_copyFrom : ByteArray := prog_7_method_3_code
def yX5_copyFrom : MethodName := ⟨RX5, "copyFrom", "(LSlopeOperator$Piste;)V"⟩
abbrev cX5_becomeFresh : ByteArray := prog_7_method_4_code
def yX5_becomeFresh : MethodName := ⟨RX5, "becomeFresh", "()V"⟩
abbrev cX5_isTooDifficultFor : ByteArray := prog_7_method_5_code
def yX5_isTooDifficultFor : MethodName := ⟨RX5, "isTooDifficultFor", "(LSlopeOperator$Guest;)Z"⟩
abbrev cX5_restFor : ByteArray := prog_7_method_6_code
def yX5_restFor : MethodName := ⟨RX5, "restFor", "(LSlopeOperator$Guest;)I"⟩
def RX6 : String := "SlopeOperator$Ways"
def TX6 : u_T := fun k => match k with
  | _ => ("SlopeOperator$Ways", "durations", "[I", true)
def tyX6 : Nat → FieldType := fun k => match k with
  | _ => .array .int
theorem nmX6 : ∀ a, a < 1 → ∀ b, b < 1 → a ≠ b → (TX6 a).2.1 ≠ (TX6 b).2.1 := by decide +kernel
theorem tyX6_ok : ∀ k, k < 1 → parseFieldDescriptor (TX6 k).2.2.1 = some (tyX6 k) := by decide +kernel
abbrev cX6_init : ByteArray := prog_8_method_1_code
def yX6_init : MethodName := ⟨RX6, "<init>", "()V"⟩
abbrev cX6_durationFrom : ByteArray := prog_8_method_2_code
def yX6_durationFrom : MethodName := ⟨RX6, "durationFrom", "(I)I"⟩
abbrev cX6_measure : ByteArray := prog_8_method_3_code
def yX6_measure : MethodName := ⟨RX6, "measure", "(LSlopeOperator$Area;LSlopeOperator$Guest;I)V"⟩
abbrev cX6_shorten : ByteArray := prog_8_method_4_code
def yX6_shorten : MethodName := ⟨RX6, "shorten", "(LSlopeOperator$Area;LSlopeOperator$Guest;)Z"⟩
abbrev cX6_shortenFrom : ByteArray := prog_8_method_5_code
def yX6_shortenFrom : MethodName := ⟨RX6, "shortenFrom", "(II)Z"⟩
abbrev cX6_bestPartFrom : ByteArray := prog_8_method_6_code
def yX6_bestPartFrom : MethodName := ⟨RX6, "bestPartFrom", "(LSlopeOperator$Area;LSlopeOperator$Guest;I)I"⟩
abbrev cX6_stationsWithoutWay : ByteArray := prog_8_method_7_code
def yX6_stationsWithoutWay : MethodName := ⟨RX6, "stationsWithoutWay", "()I"⟩
abbrev cX6_stationsFrom : ByteArray := prog_8_method_8_code
def yX6_stationsFrom : MethodName := ⟨RX6, "stationsFrom", "(LSlopeOperator$Area;LSlopeOperator$Guest;I)I"⟩
abbrev cX6_spread : ByteArray := prog_8_method_9_code
def yX6_spread : MethodName := ⟨RX6, "spread", "(LSlopeOperator$Area;LSlopeOperator$Guest;I)I"⟩
def RX7 : String := "SlopeOperator"
def TX7 : u_T := fun k => match k with
  | 0 => ("SlopeOperator", "now", "LSlopeOperator$Area;", true)
  | 1 => ("SlopeOperator", "before", "LSlopeOperator$Area;", true)
  | 2 => ("SlopeOperator", "saved", "LSlopeOperator$Area;", true)
  | 3 => ("SlopeOperator", "history", "LSlopeOperator$History;", true)
  | 4 => ("SlopeOperator", "input", "LSlopeOperator$Input;", true)
  | 5 => ("SlopeOperator", "ways", "LSlopeOperator$Ways;", true)
  | 6 => ("SlopeOperator", "isSaved", "Z", false)
  | 7 => ("SlopeOperator", "keptReason", "I", false)
  | _ => ("SlopeOperator", "keptError", "I", false)
def tyX7 : Nat → FieldType := fun k => match k with
  | 0 => .object "SlopeOperator$Area"
  | 1 => .object "SlopeOperator$Area"
  | 2 => .object "SlopeOperator$Area"
  | 3 => .object "SlopeOperator$History"
  | 4 => .object "SlopeOperator$Input"
  | 5 => .object "SlopeOperator$Ways"
  | 6 => .boolean
  | 7 => .int
  | _ => .int
theorem nmX7 : ∀ a, a < 9 → ∀ b, b < 9 → a ≠ b → (TX7 a).2.1 ≠ (TX7 b).2.1 := by decide +kernel
theorem tyX7_ok : ∀ k, k < 9 → parseFieldDescriptor (TX7 k).2.2.1 = some (tyX7 k) := by decide +kernel
abbrev cX7_init : ByteArray := prog_1_method_1_code
def yX7_init : MethodName := ⟨RX7, "<init>", "()V"⟩
abbrev cX7_clear : ByteArray := prog_1_method_2_code
def yX7_clear : MethodName := ⟨RX7, "clear", "()I"⟩
abbrev cX7_addLift : ByteArray := prog_1_method_3_code
def yX7_addLift : MethodName := ⟨RX7, "addLift", "(IIIIII)I"⟩
abbrev cX7_addPiste : ByteArray := prog_1_method_4_code
def yX7_addPiste : MethodName := ⟨RX7, "addPiste", "(IIII)I"⟩
abbrev cX7_setWind : ByteArray := prog_1_method_5_code
def yX7_setWind : MethodName := ⟨RX7, "setWind", "(I)I"⟩
abbrev cX7_lift : ByteArray := prog_1_method_6_code
def yX7_lift : MethodName := ⟨RX7, "lift", "(II)I"⟩
abbrev cX7_piste : ByteArray := prog_1_method_7_code
def yX7_piste : MethodName := ⟨RX7, "piste", "(II)I"⟩
abbrev cX7_open : ByteArray := prog_1_method_8_code
def yX7_open : MethodName := ⟨RX7, "open", "(IZ)I"⟩
abbrev cX7_groom : ByteArray := prog_1_method_9_code
def yX7_groom : MethodName := ⟨RX7, "groom", "(I)I"⟩
abbrev cX7_count : ByteArray := prog_1_method_10_code
def yX7_count : MethodName := ⟨RX7, "count", "(I)I"⟩
abbrev cX7_addGuest : ByteArray := prog_1_method_11_code
def yX7_addGuest : MethodName := ⟨RX7, "addGuest", "(IIIII)I"⟩
abbrev cX7_guest : ByteArray := prog_1_method_12_code
def yX7_guest : MethodName := ⟨RX7, "guest", "(II)I"⟩
abbrev cX7_queue : ByteArray := prog_1_method_13_code
def yX7_queue : MethodName := ⟨RX7, "queue", "(II)I"⟩
abbrev cX7_ski : ByteArray := prog_1_method_14_code
def yX7_ski : MethodName := ⟨RX7, "ski", "(II)I"⟩
abbrev cX7_leave : ByteArray := prog_1_method_15_code
def yX7_leave : MethodName := ⟨RX7, "leave", "(I)I"⟩
abbrev cX7_whyNotQueue : ByteArray := prog_1_method_16_code
def yX7_whyNotQueue : MethodName := ⟨RX7, "whyNotQueue", "(II)I"⟩
abbrev cX7_whyNotSki : ByteArray := prog_1_method_17_code
def yX7_whyNotSki : MethodName := ⟨RX7, "whyNotSki", "(II)I"⟩
abbrev cX7_reason : ByteArray := prog_1_method_18_code
def yX7_reason : MethodName := ⟨RX7, "reason", "()I"⟩
abbrev cX7_opened : ByteArray := prog_1_method_19_code
def yX7_opened : MethodName := ⟨RX7, "opened", "(I)I"⟩
abbrev cX7_queued : ByteArray := prog_1_method_20_code
def yX7_queued : MethodName := ⟨RX7, "queued", "(II)I"⟩
abbrev cX7_advance : ByteArray := prog_1_method_21_code
def yX7_advance : MethodName := ⟨RX7, "advance", "(I)I"⟩
abbrev cX7_endDay : ByteArray := prog_1_method_22_code
def yX7_endDay : MethodName := ⟨RX7, "endDay", "()I"⟩
abbrev cX7_arrival : ByteArray := prog_1_method_23_code
def yX7_arrival : MethodName := ⟨RX7, "arrival", "(I)I"⟩
abbrev cX7_nextCabin : ByteArray := prog_1_method_24_code
def yX7_nextCabin : MethodName := ⟨RX7, "nextCabin", "(I)I"⟩
abbrev cX7_duration : ByteArray := prog_1_method_25_code
def yX7_duration : MethodName := ⟨RX7, "duration", "(III)I"⟩
abbrev cX7_firstPart : ByteArray := prog_1_method_26_code
def yX7_firstPart : MethodName := ⟨RX7, "firstPart", "(III)I"⟩
abbrev cX7_reachable : ByteArray := prog_1_method_27_code
def yX7_reachable : MethodName := ⟨RX7, "reachable", "(II)I"⟩
abbrev cX7_stranded : ByteArray := prog_1_method_28_code
def yX7_stranded : MethodName := ⟨RX7, "stranded", "(II)I"⟩
abbrev cX7_liftAccount : ByteArray := prog_1_method_29_code
def yX7_liftAccount : MethodName := ⟨RX7, "liftAccount", "(II)I"⟩
abbrev cX7_guestAccount : ByteArray := prog_1_method_30_code
def yX7_guestAccount : MethodName := ⟨RX7, "guestAccount", "(II)I"⟩
abbrev cX7_pisteAccount : ByteArray := prog_1_method_31_code
def yX7_pisteAccount : MethodName := ⟨RX7, "pisteAccount", "(I)I"⟩
abbrev cX7_audit : ByteArray := prog_1_method_32_code
def yX7_audit : MethodName := ⟨RX7, "audit", "()I"⟩
abbrev cX7_busiest : ByteArray := prog_1_method_33_code
def yX7_busiest : MethodName := ⟨RX7, "busiest", "()I"⟩
abbrev cX7_load : ByteArray := prog_1_method_34_code
def yX7_load : MethodName := ⟨RX7, "load", "(I)D"⟩
abbrev cX7_append : ByteArray := prog_1_method_35_code
def yX7_append : MethodName := ⟨RX7, "append", "(C)I"⟩
abbrev cX7_read : ByteArray := prog_1_method_36_code
def yX7_read : MethodName := ⟨RX7, "read", "()I"⟩
abbrev cX7_errorPosition : ByteArray := prog_1_method_37_code
def yX7_errorPosition : MethodName := ⟨RX7, "errorPosition", "()I"⟩
abbrev cX7_undo : ByteArray := prog_1_method_38_code
def yX7_undo : MethodName := ⟨RX7, "undo", "()I"⟩
abbrev cX7_save : ByteArray := prog_1_method_39_code
def yX7_save : MethodName := ⟨RX7, "save", "()I"⟩
abbrev cX7_restore : ByteArray := prog_1_method_40_code
def yX7_restore : MethodName := ⟨RX7, "restore", "()I"⟩
abbrev cX7_isBetween : ByteArray := prog_1_method_41_code
def yX7_isBetween : MethodName := ⟨RX7, "isBetween", "(III)Z"⟩
abbrev cX7_isStation : ByteArray := prog_1_method_42_code
def yX7_isStation : MethodName := ⟨RX7, "isStation", "(I)Z"⟩
abbrev cX7_ticksFor : ByteArray := prog_1_method_43_code
def yX7_ticksFor : MethodName := ⟨RX7, "ticksFor", "(II)I"⟩
abbrev cX7_keepRefusal : ByteArray := prog_1_method_44_code
def yX7_keepRefusal : MethodName := ⟨RX7, "keepRefusal", "(LSlopeOperator$Guest;I)V"⟩
abbrev cX7_doEntries : ByteArray := prog_1_method_45_code
def yX7_doEntries : MethodName := ⟨RX7, "doEntries", "(I)I"⟩
abbrev cX7_doEntry : ByteArray := prog_1_method_46_code
def yX7_doEntry : MethodName := ⟨RX7, "doEntry", "(III)I"⟩
abbrev cX7_addGuestByText : ByteArray := prog_1_method_47_code
def yX7_addGuestByText : MethodName := ⟨RX7, "addGuestByText", "(II)I"⟩
abbrev cX7_queueByText : ByteArray := prog_1_method_48_code
def yX7_queueByText : MethodName := ⟨RX7, "queueByText", "(II)I"⟩
abbrev cX7_skiByText : ByteArray := prog_1_method_49_code
def yX7_skiByText : MethodName := ⟨RX7, "skiByText", "(II)I"⟩
def RX8 : String := "SlopeOperatorModel"
def TX8 : u_T := fun k => match k with
  | 0 => ("SlopeOperatorModel", "m", "[I", true)
  | 1 => ("SlopeOperatorModel", "saved", "[I", true)
  | 2 => ("SlopeOperatorModel", "isSaved", "Z", false)
  | 3 => ("SlopeOperatorModel", "past", "[I", true)
  | 4 => ("SlopeOperatorModel", "changes", "I", false)
  | 5 => ("SlopeOperatorModel", "reason", "I", false)
  | 6 => ("SlopeOperatorModel", "thrown", "I", false)
  | 7 => ("SlopeOperatorModel", "come", "I", false)
  | 8 => ("SlopeOperatorModel", "aside", "[I", true)
  | 9 => ("SlopeOperatorModel", "due", "[I", true)
  | 10 => ("SlopeOperatorModel", "fed", "I", false)
  | 11 => ("SlopeOperatorModel", "input", "[I", true)
  | 12 => ("SlopeOperatorModel", "at0", "I", false)
  | 13 => ("SlopeOperatorModel", "isBad", "Z", false)
  | 14 => ("SlopeOperatorModel", "isError", "Z", false)
  | 15 => ("SlopeOperatorModel", "error", "I", false)
  | 16 => ("SlopeOperatorModel", "entries", "I", false)
  | 17 => ("SlopeOperatorModel", "entrySort", "[I", true)
  | 18 => ("SlopeOperatorModel", "entryA", "[I", true)
  | _ => ("SlopeOperatorModel", "entryB", "[I", true)
def tyX8 : Nat → FieldType := fun k => match k with
  | 0 => .array .int
  | 1 => .array .int
  | 2 => .boolean
  | 3 => .array .int
  | 4 => .int
  | 5 => .int
  | 6 => .int
  | 7 => .int
  | 8 => .array .int
  | 9 => .array .int
  | 10 => .int
  | 11 => .array .int
  | 12 => .int
  | 13 => .boolean
  | 14 => .boolean
  | 15 => .int
  | 16 => .int
  | 17 => .array .int
  | 18 => .array .int
  | _ => .array .int
theorem nmX8 : ∀ a, a < 20 → ∀ b, b < 20 → a ≠ b → (TX8 a).2.1 ≠ (TX8 b).2.1 := by decide +kernel
theorem tyX8_ok : ∀ k, k < 20 → parseFieldDescriptor (TX8 k).2.2.1 = some (tyX8 k) := by decide +kernel
abbrev cX8_init : ByteArray := prog_10_method_1_code
def yX8_init : MethodName := ⟨RX8, "<init>", "()V"⟩
abbrev cX8_thrown : ByteArray := prog_10_method_2_code
def yX8_thrown : MethodName := ⟨RX8, "thrown", "()I"⟩
abbrev cX8_in : ByteArray := prog_10_method_3_code
def yX8_in : MethodName := ⟨RX8, "in", "(III)Z"⟩
abbrev cX8_refuse : ByteArray := prog_10_method_4_code
def yX8_refuse : MethodName := ⟨RX8, "refuse", "(I)I"⟩
abbrev cX8_keep : ByteArray := prog_10_method_5_code
def yX8_keep : MethodName := ⟨RX8, "keep", "()V"⟩
abbrev cX8_lift0 : ByteArray := prog_10_method_6_code
def yX8_lift0 : MethodName := ⟨RX8, "lift0", "(I)I"⟩
abbrev cX8_piste0 : ByteArray := prog_10_method_7_code
def yX8_piste0 : MethodName := ⟨RX8, "piste0", "(I)I"⟩
abbrev cX8_guest0 : ByteArray := prog_10_method_8_code
def yX8_guest0 : MethodName := ⟨RX8, "guest0", "(I)I"⟩
abbrev cX8_isLift : ByteArray := prog_10_method_9_code
def yX8_isLift : MethodName := ⟨RX8, "isLift", "(I)Z"⟩
abbrev cX8_isPiste : ByteArray := prog_10_method_10_code
def yX8_isPiste : MethodName := ⟨RX8, "isPiste", "(I)Z"⟩
abbrev cX8_isGuest : ByteArray := prog_10_method_11_code
def yX8_isGuest : MethodName := ⟨RX8, "isGuest", "(I)Z"⟩
abbrev cX8_isStation : ByteArray := prog_10_method_12_code
def yX8_isStation : MethodName := ⟨RX8, "isStation", "(I)Z"⟩
abbrev cX8_stateOf : ByteArray := prog_10_method_13_code
def yX8_stateOf : MethodName := ⟨RX8, "stateOf", "(I)I"⟩
abbrev cX8_stepOf : ByteArray := prog_10_method_14_code
def yX8_stepOf : MethodName := ⟨RX8, "stepOf", "(I)I"⟩
abbrev cX8_clear : ByteArray := prog_10_method_15_code
def yX8_clear : MethodName := ⟨RX8, "clear", "()I"⟩
abbrev cX8_addLift : ByteArray := prog_10_method_16_code
def yX8_addLift : MethodName := ⟨RX8, "addLift", "(IIIIII)I"⟩
abbrev cX8_addPiste : ByteArray := prog_10_method_17_code
def yX8_addPiste : MethodName := ⟨RX8, "addPiste", "(IIII)I"⟩
abbrev cX8_setWind : ByteArray := prog_10_method_18_code
def yX8_setWind : MethodName := ⟨RX8, "setWind", "(I)I"⟩
abbrev cX8_guestsWho : ByteArray := prog_10_method_19_code
def yX8_guestsWho : MethodName := ⟨RX8, "guestsWho", "(II)I"⟩
abbrev cX8_lift : ByteArray := prog_10_method_20_code
def yX8_lift : MethodName := ⟨RX8, "lift", "(II)I"⟩
abbrev cX8_piste : ByteArray := prog_10_method_21_code
def yX8_piste : MethodName := ⟨RX8, "piste", "(II)I"⟩
abbrev cX8_open : ByteArray := prog_10_method_22_code
def yX8_open : MethodName := ⟨RX8, "open", "(IZ)I"⟩
abbrev cX8_groom : ByteArray := prog_10_method_23_code
def yX8_groom : MethodName := ⟨RX8, "groom", "(I)I"⟩
abbrev cX8_openPistes : ByteArray := prog_10_method_24_code
def yX8_openPistes : MethodName := ⟨RX8, "openPistes", "()I"⟩
abbrev cX8_count : ByteArray := prog_10_method_25_code
def yX8_count : MethodName := ⟨RX8, "count", "(I)I"⟩
abbrev cX8_arrives : ByteArray := prog_10_method_26_code
def yX8_arrives : MethodName := ⟨RX8, "arrives", "(IIIII)V"⟩
abbrev cX8_addGuest : ByteArray := prog_10_method_27_code
def yX8_addGuest : MethodName := ⟨RX8, "addGuest", "(IIIII)I"⟩
abbrev cX8_placeOf : ByteArray := prog_10_method_28_code
def yX8_placeOf : MethodName := ⟨RX8, "placeOf", "(I)I"⟩
abbrev cX8_guest : ByteArray := prog_10_method_29_code
def yX8_guest : MethodName := ⟨RX8, "guest", "(II)I"⟩
abbrev cX8_isOpenTo : ByteArray := prog_10_method_30_code
def yX8_isOpenTo : MethodName := ⟨RX8, "isOpenTo", "(II)Z"⟩
abbrev cX8_whyNoLift : ByteArray := prog_10_method_31_code
def yX8_whyNoLift : MethodName := ⟨RX8, "whyNoLift", "(II)I"⟩
abbrev cX8_whyNoPiste : ByteArray := prog_10_method_32_code
def yX8_whyNoPiste : MethodName := ⟨RX8, "whyNoPiste", "(II)I"⟩
abbrev cX8_standIn : ByteArray := prog_10_method_33_code
def yX8_standIn : MethodName := ⟨RX8, "standIn", "(II)I"⟩
abbrev cX8_skiTime : ByteArray := prog_10_method_34_code
def yX8_skiTime : MethodName := ⟨RX8, "skiTime", "(II)I"⟩
abbrev cX8_goDown : ByteArray := prog_10_method_35_code
def yX8_goDown : MethodName := ⟨RX8, "goDown", "(II)I"⟩
abbrev cX8_refuses : ByteArray := prog_10_method_36_code
def yX8_refuses : MethodName := ⟨RX8, "refuses", "(II)I"⟩
abbrev cX8_queue : ByteArray := prog_10_method_37_code
def yX8_queue : MethodName := ⟨RX8, "queue", "(II)I"⟩
abbrev cX8_ski : ByteArray := prog_10_method_38_code
def yX8_ski : MethodName := ⟨RX8, "ski", "(II)I"⟩
abbrev cX8_drops : ByteArray := prog_10_method_39_code
def yX8_drops : MethodName := ⟨RX8, "drops", "(III)V"⟩
abbrev cX8_leave : ByteArray := prog_10_method_40_code
def yX8_leave : MethodName := ⟨RX8, "leave", "(I)I"⟩
abbrev cX8_whyNotQueue : ByteArray := prog_10_method_41_code
def yX8_whyNotQueue : MethodName := ⟨RX8, "whyNotQueue", "(II)I"⟩
abbrev cX8_whyNotSki : ByteArray := prog_10_method_42_code
def yX8_whyNotSki : MethodName := ⟨RX8, "whyNotSki", "(II)I"⟩
abbrev cX8_reason : ByteArray := prog_10_method_43_code
def yX8_reason : MethodName := ⟨RX8, "reason", "()I"⟩
abbrev cX8_opened : ByteArray := prog_10_method_44_code
def yX8_opened : MethodName := ⟨RX8, "opened", "(I)I"⟩
abbrev cX8_queued : ByteArray := prog_10_method_45_code
def yX8_queued : MethodName := ⟨RX8, "queued", "(II)I"⟩
abbrev cX8_comesTo : ByteArray := prog_10_method_46_code
def yX8_comesTo : MethodName := ⟨RX8, "comesTo", "(II)V"⟩
abbrev cX8_cabin : ByteArray := prog_10_method_47_code
def yX8_cabin : MethodName := ⟨RX8, "cabin", "(I)V"⟩
abbrev cX8_tick : ByteArray := prog_10_method_48_code
def yX8_tick : MethodName := ⟨RX8, "tick", "()V"⟩
abbrev cX8_ticks : ByteArray := prog_10_method_49_code
def yX8_ticks : MethodName := ⟨RX8, "ticks", "(I)I"⟩
abbrev cX8_advance : ByteArray := prog_10_method_50_code
def yX8_advance : MethodName := ⟨RX8, "advance", "(I)I"⟩
abbrev cX8_endDay : ByteArray := prog_10_method_51_code
def yX8_endDay : MethodName := ⟨RX8, "endDay", "()I"⟩
abbrev cX8_layAside : ByteArray := prog_10_method_52_code
def yX8_layAside : MethodName := ⟨RX8, "layAside", "()V"⟩
abbrev cX8_takeBack : ByteArray := prog_10_method_53_code
def yX8_takeBack : MethodName := ⟨RX8, "takeBack", "()V"⟩
abbrev cX8_arrival : ByteArray := prog_10_method_54_code
def yX8_arrival : MethodName := ⟨RX8, "arrival", "(I)I"⟩
abbrev cX8_nextCabin : ByteArray := prog_10_method_55_code
def yX8_nextCabin : MethodName := ⟨RX8, "nextCabin", "(I)I"⟩
abbrev cX8_isWayLift : ByteArray := prog_10_method_56_code
def yX8_isWayLift : MethodName := ⟨RX8, "isWayLift", "(II)Z"⟩
abbrev cX8_isWayPiste : ByteArray := prog_10_method_57_code
def yX8_isWayPiste : MethodName := ⟨RX8, "isWayPiste", "(II)Z"⟩
abbrev cX8_layWays : ByteArray := prog_10_method_58_code
def yX8_layWays : MethodName := ⟨RX8, "layWays", "(II)V"⟩
abbrev cX8_lacks : ByteArray := prog_10_method_59_code
def yX8_lacks : MethodName := ⟨RX8, "lacks", "(III)I"⟩
abbrev cX8_duration : ByteArray := prog_10_method_60_code
def yX8_duration : MethodName := ⟨RX8, "duration", "(III)I"⟩
abbrev cX8_firstPart : ByteArray := prog_10_method_61_code
def yX8_firstPart : MethodName := ⟨RX8, "firstPart", "(III)I"⟩
abbrev cX8_reachable : ByteArray := prog_10_method_62_code
def yX8_reachable : MethodName := ⟨RX8, "reachable", "(II)I"⟩
abbrev cX8_stranded : ByteArray := prog_10_method_63_code
def yX8_stranded : MethodName := ⟨RX8, "stranded", "(II)I"⟩
abbrev cX8_liftAccount : ByteArray := prog_10_method_64_code
def yX8_liftAccount : MethodName := ⟨RX8, "liftAccount", "(II)I"⟩
abbrev cX8_guestAccount : ByteArray := prog_10_method_65_code
def yX8_guestAccount : MethodName := ⟨RX8, "guestAccount", "(II)I"⟩
abbrev cX8_pisteAccount : ByteArray := prog_10_method_66_code
def yX8_pisteAccount : MethodName := ⟨RX8, "pisteAccount", "(I)I"⟩
abbrev cX8_audit : ByteArray := prog_10_method_67_code
def yX8_audit : MethodName := ⟨RX8, "audit", "()I"⟩
abbrev cX8_busiest : ByteArray := prog_10_method_68_code
def yX8_busiest : MethodName := ⟨RX8, "busiest", "()I"⟩
abbrev cX8_load : ByteArray := prog_10_method_69_code
def yX8_load : MethodName := ⟨RX8, "load", "(I)D"⟩
abbrev cX8_append : ByteArray := prog_10_method_70_code
def yX8_append : MethodName := ⟨RX8, "append", "(C)I"⟩
abbrev cX8_here : ByteArray := prog_10_method_71_code
def yX8_here : MethodName := ⟨RX8, "here", "()I"⟩
abbrev cX8_digit : ByteArray := prog_10_method_72_code
def yX8_digit : MethodName := ⟨RX8, "digit", "(II)I"⟩
abbrev cX8_take : ByteArray := prog_10_method_73_code
def yX8_take : MethodName := ⟨RX8, "take", "(I)V"⟩
abbrev cX8_guestNumber : ByteArray := prog_10_method_74_code
def yX8_guestNumber : MethodName := ⟨RX8, "guestNumber", "()I"⟩
abbrev cX8_entry : ByteArray := prog_10_method_75_code
def yX8_entry : MethodName := ⟨RX8, "entry", "()V"⟩
abbrev cX8_isText : ByteArray := prog_10_method_76_code
def yX8_isText : MethodName := ⟨RX8, "isText", "()Z"⟩
abbrev cX8_does : ByteArray := prog_10_method_77_code
def yX8_does : MethodName := ⟨RX8, "does", "(I)Z"⟩
abbrev cX8_read : ByteArray := prog_10_method_78_code
def yX8_read : MethodName := ⟨RX8, "read", "()I"⟩
abbrev cX8_errorPosition : ByteArray := prog_10_method_79_code
def yX8_errorPosition : MethodName := ⟨RX8, "errorPosition", "()I"⟩
abbrev cX8_undo : ByteArray := prog_10_method_80_code
def yX8_undo : MethodName := ⟨RX8, "undo", "()I"⟩
abbrev cX8_save : ByteArray := prog_10_method_81_code
def yX8_save : MethodName := ⟨RX8, "save", "()I"⟩
abbrev cX8_restore : ByteArray := prog_10_method_82_code
def yX8_restore : MethodName := ⟨RX8, "restore", "()I"⟩
def RJx145de : String := "java/io/Serializable"
def TJx145de : u_T := fun k => match k with
  | _ => ("", "", "", false)
def tyJx145de : Nat → FieldType := fun k => match k with
  | _ => .int
theorem nmJx145de : ∀ a, a < 0 → ∀ b, b < 0 → a ≠ b → (TJx145de a).2.1 ≠ (TJx145de b).2.1 := by decide +kernel
theorem tyJx145de_ok : ∀ k, k < 0 → parseFieldDescriptor (TJx145de k).2.2.1 = some (tyJx145de k) := by decide +kernel
def RJx00060 : String := "java/lang/ArrayIndexOutOfBoundsException"
def TJx00060 : u_T := fun k => match k with
  | 0 => ("java/lang/Throwable", "backtrace", "Ljava/lang/Object;", false)
  | 1 => ("java/lang/Throwable", "detailMessage", "Ljava/lang/String;", false)
  | 2 => ("java/lang/Throwable", "cause", "Ljava/lang/Throwable;", false)
  | 3 => ("java/lang/Throwable", "stackTrace", "[Ljava/lang/StackTraceElement;", false)
  | 4 => ("java/lang/Throwable", "depth", "I", false)
  | _ => ("java/lang/Throwable", "suppressedExceptions", "Ljava/util/List;", false)
def tyJx00060 : Nat → FieldType := fun k => match k with
  | 0 => .object "java/lang/Object"
  | 1 => .object "java/lang/String"
  | 2 => .object "java/lang/Throwable"
  | 3 => .array (.object "java/lang/StackTraceElement")
  | 4 => .int
  | _ => .object "java/util/List"
theorem nmJx00060 : ∀ a, a < 6 → ∀ b, b < 6 → a ≠ b → (TJx00060 a).2.1 ≠ (TJx00060 b).2.1 := by decide +kernel
theorem tyJx00060_ok : ∀ k, k < 6 → parseFieldDescriptor (TJx00060 k).2.2.1 = some (tyJx00060 k) := by decide +kernel
abbrev cJx00060_init_a7421 : ByteArray := prog_13_method_2_code
def yJx00060_init_a7421 : MethodName := ⟨RJx00060, "<init>", "(Ljava/lang/String;)V"⟩
def RJ9 : String := "java/lang/Math"
def TJ9 : u_T := fun k => match k with
  | _ => ("", "", "", false)
def tyJ9 : Nat → FieldType := fun k => match k with
  | _ => .int
theorem nmJ9 : ∀ a, a < 0 → ∀ b, b < 0 → a ≠ b → (TJ9 a).2.1 ≠ (TJ9 b).2.1 := by decide +kernel
theorem tyJ9_ok : ∀ k, k < 0 → parseFieldDescriptor (TJ9 k).2.2.1 = some (tyJ9 k) := by decide +kernel
abbrev cJ9_floorMod_7cf53 : ByteArray := prog_18_method_50_code
def yJ9_floorMod_7cf53 : MethodName := ⟨RJ9, "floorMod", "(II)I"⟩
abbrev cJ9_abs_0f7a4 : ByteArray := prog_18_method_59_code
def yJ9_abs_0f7a4 : MethodName := ⟨RJ9, "abs", "(I)I"⟩
abbrev cJ9_min_7cf53 : ByteArray := prog_18_method_69_code
def yJ9_min_7cf53 : MethodName := ⟨RJ9, "min", "(II)I"⟩
def RJ0 : String := "java/lang/String"
def TJ0 : u_T := fun k => match k with
  | 0 => ("java/lang/String", "value", "[B", true)
  | _ => ("java/lang/String", "coder", "B", true)
def tyJ0 : Nat → FieldType := fun k => match k with
  | 0 => .array .byte
  | _ => .byte
theorem nmJ0 : ∀ a, a < 2 → ∀ b, b < 2 → a ≠ b → (TJ0 a).2.1 ≠ (TJ0 b).2.1 := by decide +kernel
theorem tyJ0_ok : ∀ k, k < 2 → parseFieldDescriptor (TJ0 k).2.2.1 = some (tyJ0 k) := by decide +kernel
def RL : String := "SlopeOperatorLaw"
abbrev cL_addLift : ByteArray := method_3_code
def yL_addLift : MethodName := ⟨RL, "addLift", "(LSlopeOperator;IIIIII[J)I"⟩
abbrev cL_addPiste : ByteArray := method_4_code
def yL_addPiste : MethodName := ⟨RL, "addPiste", "(LSlopeOperator;IIII[J)I"⟩
abbrev cL_setWind : ByteArray := method_5_code
def yL_setWind : MethodName := ⟨RL, "setWind", "(LSlopeOperator;I[J)I"⟩
abbrev cL_lift : ByteArray := method_6_code
def yL_lift : MethodName := ⟨RL, "lift", "(LSlopeOperator;II[J)I"⟩
abbrev cL_piste : ByteArray := method_7_code
def yL_piste : MethodName := ⟨RL, "piste", "(LSlopeOperator;II[J)I"⟩
abbrev cL_open : ByteArray := method_8_code
def yL_open : MethodName := ⟨RL, "open", "(LSlopeOperator;IZ[J)I"⟩
abbrev cL_groom : ByteArray := method_9_code
def yL_groom : MethodName := ⟨RL, "groom", "(LSlopeOperator;I[J)I"⟩
abbrev cL_count : ByteArray := method_10_code
def yL_count : MethodName := ⟨RL, "count", "(LSlopeOperator;I[J)I"⟩
abbrev cL_addGuest : ByteArray := method_11_code
def yL_addGuest : MethodName := ⟨RL, "addGuest", "(LSlopeOperator;IIIII[J)I"⟩
abbrev cL_guest : ByteArray := method_12_code
def yL_guest : MethodName := ⟨RL, "guest", "(LSlopeOperator;II[J)I"⟩
abbrev cL_queue : ByteArray := method_13_code
def yL_queue : MethodName := ⟨RL, "queue", "(LSlopeOperator;II[J)I"⟩
abbrev cL_ski : ByteArray := method_14_code
def yL_ski : MethodName := ⟨RL, "ski", "(LSlopeOperator;II[J)I"⟩
abbrev cL_leave : ByteArray := method_15_code
def yL_leave : MethodName := ⟨RL, "leave", "(LSlopeOperator;I[J)I"⟩
abbrev cL_whyNotQueue : ByteArray := method_16_code
def yL_whyNotQueue : MethodName := ⟨RL, "whyNotQueue", "(LSlopeOperator;II[J)I"⟩
abbrev cL_whyNotSki : ByteArray := method_17_code
def yL_whyNotSki : MethodName := ⟨RL, "whyNotSki", "(LSlopeOperator;II[J)I"⟩
abbrev cL_reason : ByteArray := method_18_code
def yL_reason : MethodName := ⟨RL, "reason", "(LSlopeOperator;[J)I"⟩
abbrev cL_opened : ByteArray := method_19_code
def yL_opened : MethodName := ⟨RL, "opened", "(LSlopeOperator;I[J)I"⟩
abbrev cL_queued : ByteArray := method_20_code
def yL_queued : MethodName := ⟨RL, "queued", "(LSlopeOperator;II[J)I"⟩
abbrev cL_advance : ByteArray := method_21_code
def yL_advance : MethodName := ⟨RL, "advance", "(LSlopeOperator;I[J)I"⟩
abbrev cL_endDay : ByteArray := method_22_code
def yL_endDay : MethodName := ⟨RL, "endDay", "(LSlopeOperator;[J)I"⟩
abbrev cL_arrival : ByteArray := method_23_code
def yL_arrival : MethodName := ⟨RL, "arrival", "(LSlopeOperator;I[J)I"⟩
abbrev cL_nextCabin : ByteArray := method_24_code
def yL_nextCabin : MethodName := ⟨RL, "nextCabin", "(LSlopeOperator;I[J)I"⟩
abbrev cL_duration : ByteArray := method_25_code
def yL_duration : MethodName := ⟨RL, "duration", "(LSlopeOperator;III[J)I"⟩
abbrev cL_firstPart : ByteArray := method_26_code
def yL_firstPart : MethodName := ⟨RL, "firstPart", "(LSlopeOperator;III[J)I"⟩
abbrev cL_reachable : ByteArray := method_27_code
def yL_reachable : MethodName := ⟨RL, "reachable", "(LSlopeOperator;II[J)I"⟩
abbrev cL_stranded : ByteArray := method_28_code
def yL_stranded : MethodName := ⟨RL, "stranded", "(LSlopeOperator;II[J)I"⟩
abbrev cL_liftAccount : ByteArray := method_29_code
def yL_liftAccount : MethodName := ⟨RL, "liftAccount", "(LSlopeOperator;II[J)I"⟩
abbrev cL_guestAccount : ByteArray := method_30_code
def yL_guestAccount : MethodName := ⟨RL, "guestAccount", "(LSlopeOperator;II[J)I"⟩
abbrev cL_pisteAccount : ByteArray := method_31_code
def yL_pisteAccount : MethodName := ⟨RL, "pisteAccount", "(LSlopeOperator;I[J)I"⟩
abbrev cL_busiest : ByteArray := method_32_code
def yL_busiest : MethodName := ⟨RL, "busiest", "(LSlopeOperator;[J)I"⟩
abbrev cL_load : ByteArray := method_33_code
def yL_load : MethodName := ⟨RL, "load", "(LSlopeOperator;I[D)I"⟩
abbrev cL_append : ByteArray := method_34_code
def yL_append : MethodName := ⟨RL, "append", "(LSlopeOperator;C[J)I"⟩
abbrev cL_read : ByteArray := method_35_code
def yL_read : MethodName := ⟨RL, "read", "(LSlopeOperator;[J)I"⟩
abbrev cL_errorPosition : ByteArray := method_36_code
def yL_errorPosition : MethodName := ⟨RL, "errorPosition", "(LSlopeOperator;[J)I"⟩
abbrev cL_undo : ByteArray := method_37_code
def yL_undo : MethodName := ⟨RL, "undo", "(LSlopeOperator;[J)I"⟩
abbrev cL_restore : ByteArray := method_38_code
def yL_restore : MethodName := ⟨RL, "restore", "(LSlopeOperator;[J)I"⟩
abbrev cL_law : ByteArray := code
def yL_law : MethodName := ⟨RL, "law", "([I)Z"⟩
abbrev vwCl : List vw_C := [(RJ0, TJ0, 2), (RJx00060, TJx00060, 6), (RX0, TX0, 9), (RX1, TX1, 11), (RX2, TX2, 3), (RX3, TX3, 7), (RX4, TX4, 10), (RX5, TX5, 8), (RX6, TX6, 1), (RX7, TX7, 9), (RX8, TX8, 20)]
end
section
/-! ===== THE STORE: the ints of both systems by kind of object, area, place and slot; where each object lies ===== -/
abbrev St : Type := Nat → Nat → Nat → Nat → Int32
def up (μ : St) (k b i s : Nat) (x : Int32) : St := fun k' b' i' s' => if k' = k ∧ b' = b ∧ i' = i ∧ s' = s then x else μ k' b' i' s'
theorem up_self (μ : St) (k b i s : Nat) (x : Int32) : up μ k b i s x k b i s = x := by simp [up]
theorem up_k {μ : St} {k b i s : Nat} {x : Int32} {k' b' i' s' : Nat} (h : k' ≠ k) : up μ k b i s x k' b' i' s' = μ k' b' i' s' := by simp [up, h]
theorem up_b {μ : St} {k b i s : Nat} {x : Int32} {k' b' i' s' : Nat} (h : b' ≠ b) : up μ k b i s x k' b' i' s' = μ k' b' i' s' := by simp [up, h]
theorem up_i {μ : St} {k b i s : Nat} {x : Int32} {k' b' i' s' : Nat} (h : i' ≠ i) : up μ k b i s x k' b' i' s' = μ k' b' i' s' := by simp [up, h]
theorem up_sl {μ : St} {k b i s : Nat} {x : Int32} {k' b' i' s' : Nat} (h : s' ≠ s) : up μ k b i s x k' b' i' s' = μ k' b' i' s' := by simp [up, h]
def zab (b : Nat) : Nat := if b < 3 then 1 + 36 * b else 3 + 36 * b
/-- where an object lies behind the law's start: kind (2 Area, 3 Guest, 4 History, 5 Input, 6 Lift, 7 Piste, 8 Ways, 9 the class, 10 the reference; 20 to 23 rows of lifts, pistes, guests, areas; 24 text; 25 durations; 26 to 34 the reference's rows; 35, 36 the law's), area, place -/
def zof (k b i : Nat) : Nat := match k with
  | 2 => zab b
  | 20 => zab b + 1
  | 6 => zab b + 2 + i
  | 21 => zab b + 8
  | 7 => zab b + 9 + i
  | 22 => zab b + 19
  | 3 => zab b + 20 + i
  | 9 => 0
  | 4 => 109
  | 23 => 110
  | 5 => 399
  | 24 => 400
  | 8 => 401
  | 25 => 402
  | 10 => 403
  | k => 378 + k
def zokb (k b i : Nat) : Bool := (decide (k < 37) && decide (b < 11) && decide (i < 16)) && (match k with
  | 2 => i == 0
  | 20 => i == 0
  | 21 => i == 0
  | 22 => i == 0
  | 3 => true
  | 6 => decide (i < 6)
  | 7 => decide (i < 10)
  | k => b == 0 && i == 0 && ((k == 4 || k == 5 || k == 8 || k == 9 || k == 10) || decide (23 ≤ k)))
def zok (k b i : Nat) : Prop := zokb k b i = true
def zarea (b r : Nat) : Nat × Nat × Nat := if r = 0 then (2, b, 0) else if r = 1 then (20, b, 0) else if r < 8 then (6, b, r - 2) else if r = 8 then (21, b, 0) else if r < 19 then (7, b, r - 9) else if r = 19 then (22, b, 0) else (3, b, r - 20)
def zdec (n : Nat) : Nat × Nat × Nat := if n = 0 then (9, 0, 0) else if n < 109 then zarea ((n - 1) / 36) ((n - 1) % 36) else if n = 109 then (4, 0, 0) else if n = 110 then (23, 0, 0) else if n < 399 then zarea ((n - 3) / 36) ((n - 3) % 36) else if n = 399 then (5, 0, 0) else if n = 400 then (24, 0, 0) else if n = 401 then (8, 0, 0) else if n = 402 then (25, 0, 0) else if n = 403 then (10, 0, 0) else (n - 378, 0, 0)
theorem zdec_cmp : ((List.range 37).all fun k => (List.range 11).all fun b => (List.range 16).all fun i => !zokb k b i || decide (zdec (zof k b i) = (k, b, i))) = true := by decide +kernel
theorem zdec_all (k : Nat) (hk : k < 37) (b : Nat) (hb : b < 11) (i : Nat) (hi : i < 16) (h : zokb k b i = true) : zdec (zof k b i) = (k, b, i) := by
  have h1 := List.all_eq_true.mp zdec_cmp k (List.mem_range.mpr hk)
  have h2 := List.all_eq_true.mp h1 b (List.mem_range.mpr hb)
  have h3 := List.all_eq_true.mp h2 i (List.mem_range.mpr hi)
  rw [h] at h3
  simpa using h3
theorem zok_lt {k b i : Nat} (h : zok k b i) : k < 37 ∧ b < 11 ∧ i < 16 := by
  unfold zok zokb at h
  simp only [Bool.and_eq_true, decide_eq_true_eq] at h
  exact ⟨h.1.1.1, h.1.1.2, h.1.2⟩
theorem zdec_of {k b i : Nat} (h : zok k b i) : zdec (zof k b i) = (k, b, i) := by
  obtain ⟨h1, h2, h3⟩ := zok_lt h
  exact zdec_all k h1 b h2 i h3 h
theorem zof_inj {k b i k' b' i' : Nat} (h : zok k b i) (h' : zok k' b' i') (e : zof k b i = zof k' b' i') : k = k' ∧ b = b' ∧ i = i' := by
  have h1 := zdec_of h
  rw [e, zdec_of h'] at h1
  simp only [Prod.mk.injEq] at h1
  exact ⟨h1.1.symm, h1.2.1.symm, h1.2.2.symm⟩
theorem zok_2 {b : Nat} (hb : b < 11) : zok 2 b 0 := by simp [zok, zokb, hb]
theorem zok_20 {b : Nat} (hb : b < 11) : zok 20 b 0 := by simp [zok, zokb, hb]
theorem zok_21 {b : Nat} (hb : b < 11) : zok 21 b 0 := by simp [zok, zokb, hb]
theorem zok_22 {b : Nat} (hb : b < 11) : zok 22 b 0 := by simp [zok, zokb, hb]
theorem zok_3 {b i : Nat} (hb : b < 11) (hi : i < 16) : zok 3 b i := by simp [zok, zokb, hb, hi]
theorem zok_6 {b i : Nat} (hb : b < 11) (hi : i < 6) : zok 6 b i := by simp [zok, zokb, hb, hi]; omega
theorem zok_7 {b i : Nat} (hb : b < 11) (hi : i < 10) : zok 7 b i := by simp [zok, zokb, hb, hi]; omega
/-- the address of an object -/
def zad (B k b i : Nat) : Nat := B + zof k b i
theorem zad_inj {B k b i k' b' i' : Nat} (h : zok k b i) (h' : zok k' b' i') (e : zad B k b i = zad B k' b' i') : k = k' ∧ b = b' ∧ i = i' := zof_inj h h' (by unfold zad at e; omega)
theorem zad_ge (B k b i : Nat) : B ≤ zad B k b i := Nat.le_add_right _ _
/-- what a slot holds: a reference that never changes, or the store's int -/
def zvl (B : Nat) (μ : St) (k b i s : Nat) : Value := match k with
  | 2 => (match s with | 0 => .ref (zad B 20 b 0) | 1 => .ref (zad B 21 b 0) | 2 => .ref (zad B 22 b 0) | s => .int (μ 2 b i s))
  | 4 => (match s with | 0 => .ref (zad B 23 0 0) | s => .int (μ 4 b i s))
  | 5 => (match s with | 0 => .ref (zad B 24 0 0) | s => .int (μ 5 b i s))
  | 8 => .ref (zad B 25 0 0)
  | 9 => (match s with | 0 => .ref (zad B 2 0 0) | 1 => .ref (zad B 2 1 0) | 2 => .ref (zad B 2 2 0) | 3 => .ref (zad B 4 0 0) | 4 => .ref (zad B 5 0 0) | 5 => .ref (zad B 8 0 0) | s => .int (μ 9 b i s))
  | 10 => (match s with | 0 => .ref (zad B 26 0 0) | 1 => .ref (zad B 27 0 0) | 3 => .ref (zad B 28 0 0) | 8 => .ref (zad B 29 0 0) | 9 => .ref (zad B 30 0 0) | 11 => .ref (zad B 31 0 0) | 17 => .ref (zad B 32 0 0) | 18 => .ref (zad B 33 0 0) | 19 => .ref (zad B 34 0 0) | s => .int (μ 10 b i s))
  | 20 => .ref (zad B 6 b s)
  | 21 => .ref (zad B 7 b s)
  | 22 => .ref (zad B 3 b s)
  | 23 => .ref (zad B 2 (s + 3) 0)
  | 35 => .long (μ 35 b i s).toInt64
  | 36 => .double (FP.ddiv (FP.i2d (μ 36 0 0 0)) (FP.i2d (μ 36 0 0 1)))
  | k => .int (μ k b i s)
/-- the length of a row -/
def zln (k : Nat) : Nat := match k with
  | 20 => 6 | 21 => 10 | 22 => 16 | 23 => 8 | 24 => 60 | 25 => 8
  | 26 => 372 | 27 => 372 | 28 => 2976 | 29 => 372 | 30 => 8 | 31 => 60 | 32 => 60 | 33 => 60 | 34 => 60
  | _ => 1
/-- the type of a row's places -/
def zty (k : Nat) : FieldType := match k with
  | 20 => .object "SlopeOperator$Lift" | 21 => .object "SlopeOperator$Piste" | 22 => .object "SlopeOperator$Guest" | 23 => .object "SlopeOperator$Area"
  | 24 => .char | 35 => .long | 36 => .double | _ => .int
/-- constants of a launch: where the world begins; classes and slots; the rows' classes -/
abbrev Gl : Type := Nat × va_G × (Nat → ClassId)
def zat (G : Gl) (μ : St) (k b i : Nat) (H : Heap) : Prop := if k < 20 then ∃ r : vw_C, vwCl[k]? = some r ∧ t_OB (zad G.1 k b i) (G.2.1.1 k) r.2.2 (G.2.1.2 k) H (zvl G.1 μ k b i) else H[zad G.1 k b i]? = some (arrV (G.2.2 k) (zln k) (zvl G.1 μ k b i))
/-- the heap holds both systems with the store's ints -/
def Wd (G : Gl) (μ : St) (H : Heap) : Prop := ∀ k b i, zok k b i → zat G μ k b i H
theorem zat.kept {G : Gl} {μ : St} {k b i : Nat} {H H1 : Heap} (h : zat G μ k b i H) (hq : H1[zad G.1 k b i]? = H[zad G.1 k b i]?) : zat G μ k b i H1 := by
  unfold zat at h ⊢
  by_cases hk : k < 20
  · rw [if_pos hk] at h ⊢
    obtain ⟨r, h1, h2⟩ := h
    exact ⟨r, h1, h2.kept hq⟩
  · rw [if_neg hk] at h ⊢
    rw [hq]
    exact h
theorem zat.lt {G : Gl} {μ : St} {k b i : Nat} {H : Heap} (h : zat G μ k b i H) : zad G.1 k b i < H.size := by
  unfold zat at h
  by_cases hk : k < 20
  · rw [if_pos hk] at h
    obtain ⟨r, h1, cell, h2, -⟩ := h
    exact (Array.getElem?_eq_some_iff.mp h2).1
  · rw [if_neg hk] at h
    exact (Array.getElem?_eq_some_iff.mp h).1
theorem Wd.kept {G : Gl} {μ : St} {H H1 : Heap} (h : Wd G μ H) (hq : ∀ q : Nat, q < H.size → H1[q]? = H[q]?) : Wd G μ H1 := fun k b i ho => (h k b i ho).kept (hq _ (h k b i ho).lt)
/-- a slot other than the written one reads as before -/
theorem zvl_up_ne {B : Nat} {μ : St} {k b i s : Nat} {x : Int32} {k' b' i' s' : Nat} (h : ¬ (k' = k ∧ b' = b ∧ i' = i)) (h36 : k ≠ 36) : zvl B (up μ k b i s x) k' b' i' s' = zvl B μ k' b' i' s' := by
  have e : ∀ s'', up μ k b i s x k' b' i' s'' = μ k' b' i' s'' := fun s'' => by
    unfold up
    rw [if_neg (fun z => h ⟨z.1, z.2.1, z.2.2.1⟩)]
  have e36 : ∀ j, up μ k b i s x 36 0 0 j = μ 36 0 0 j := fun j => up_k (fun z => h36 z.symm)
  unfold zvl
  split <;> (try split) <;> simp_all
theorem zvl_up_s {B : Nat} {μ : St} {k b i s : Nat} {x : Int32} {s' : Nat} (h : s' ≠ s) (h36 : k ≠ 36) : zvl B (up μ k b i s x) k b i s' = zvl B μ k b i s' := by
  have e : up μ k b i s x k b i s' = μ k b i s' := up_sl h
  have e36 : ∀ j, up μ k b i s x 36 0 0 j = μ 36 0 0 j := fun j => up_k (fun z => h36 z.symm)
  unfold zvl
  split <;> (try split) <;> simp_all
end
section
/-! ===== THE JUDGEMENT V: the machine at a place of a method, over the store ===== -/
/-- the tables' words that any method may be handed -/
def GW : List Cond := lw_tbl.filter goodWord
theorem GW_tbl {w : Cond} (h : w ∈ GW) : w ∈ lw_tbl := (List.mem_filter.mp h).1
theorem GW_good {w : Cond} (h : w ∈ GW) : goodWord w = true := (List.mem_filter.mp h).2
theorem GW_of {w : Cond} (i : Nat) (h : tables_1[i]? = some w) (hg : goodWord w = true) : w ∈ GW := List.mem_filter.mpr ⟨List.mem_append_right _ (List.mem_of_getElem? h), hg⟩
theorem GW_sel {w : Cond} (i : Nat) (h : (k2_sels lw_privs)[i]? = some w) (hg : goodWord w = true) : w ∈ GW := List.mem_filter.mpr ⟨List.mem_append_left _ (List.mem_of_getElem? h), hg⟩
/-- a method: name, code, locals, answer, room, handlers -/
abbrev MD : Type := MethodName × ByteArray × Nat × Option FieldType × Room × List (Nat × Nat × Nat × Nat)
/-- words that the tables alone decide, moved by their own laws -/
def zNw : Cond → Bool
  | .castable .. => true
  | .methodLinkNest .. => true
  | _ => false
theorem zNw_moved {w : Cond} {s U : State} (hW : s.WarmedH U.vm) (hw : zNw w = true) (h : va_Nw w s) : va_Nw w U := by
  cases w <;> first | exact va_Nw.warmC hW h | exact va_Nw.warmM hW h | cases hw
theorem zNw_same {w : Cond} {s U : State} (hv : s.vm = U.vm) (hw : zNw w = true) (h : va_Nw w s) : va_Nw w U := by
  cases w <;> first | exact va_Nw.same rfl hv h | cases hw
/-- classes of exceptions that a handler passes over -/
def zNc : List (String × String) := [("java/lang/IllegalArgumentException", "java/lang/IndexOutOfBoundsException"), ("java/lang/IllegalStateException", "java/lang/IndexOutOfBoundsException"), ("java/lang/IllegalStateException", "java/lang/IllegalArgumentException"), ("java/lang/UnsupportedOperationException", "java/lang/IndexOutOfBoundsException"), ("java/util/NoSuchElementException", "java/lang/IndexOutOfBoundsException"), ("java/lang/ArithmeticException", "java/lang/IndexOutOfBoundsException")]
/-- what holds of the machine at every state of the run, but for the ints -/
def kst (G : Gl) (U : State) : Prop := va_K G.2.1 vwCl [] U ∧ (∀ k, 20 ≤ k → k < 37 → ArrOfT U (G.2.2 k) (zty k)) ∧ G.1 ≤ U.heap.size ∧ vx_Zq Bundle.tN "UNASSIGNED_STACK" Bundle.steD (fun q => G.1 ≤ q) U U.heap ∧ vx_Zq Bundle.tN "SUPPRESSED_SENTINEL" Bundle.listD (fun q => G.1 ≤ q) U U.heap ∧ (∀ own k tx, Cond.stringRef own k tx ∈ lw_tbl → ∃ a, vk_R own k tx a U) ∧ (∀ w ∈ lw_tbl, zNw w = true → va_Nw w U) ∧ ∀ q ∈ zNc, va_Nc q.1 q.2 U
theorem kst.at {G : Gl} {s U : State} {H : Heap} {locs : List Loc} (h : kst G s) (hW : s.WarmedH U.vm) (hU : U.heap = H) (hS : va_S (fun q => G.1 ≤ q) s.heap H locs) : kst G U := by
  obtain ⟨h1, h2, h3, h4, h5, h6, h7, h8⟩ := h
  subst hU
  refine ⟨va_K.moved hW.alike h1, fun k a b => arrOfT_moved hW.alike (h2 k a b), Nat.le_trans h3 hS.1, (vx_Zq.moved hW.alike h4).kept (fun a x y => hS.2.1 a x y), (vx_Zq.moved hW.alike h5).kept (fun a x y => hS.2.1 a x y), fun own k tx hm => ?_, fun w hw hn => zNw_moved hW hn (h7 w hw hn), fun q hq => (h8 q hq).moved hW.alike⟩
  obtain ⟨a, ha⟩ := h6 own k tx hm
  exact ⟨a, ha.warm hW⟩
theorem kst.calling {G : Gl} {U : State} {g : JFrame} {mk : MethodId} {a : Array Value} (h : kst G U) : kst G (U.calling g mk a) := by
  obtain ⟨h1, h2, h3, h4, h5, h6, h7, h8⟩ := h
  refine ⟨va_K.moved (u := U) (Vm.Alike.refl U.vm) h1, fun k x y => arrOfT_moved (u := U) (Vm.Alike.refl U.vm) (h2 k x y), h3, vx_Zq.moved (u := U) (Vm.Alike.refl U.vm) h4, vx_Zq.moved (u := U) (Vm.Alike.refl U.vm) h5, fun own k tx hm => ?_, fun w hw hn => zNw_same (s := U) rfl hn (h7 w hw hn), fun q hq => va_Nc.moved (u := U) (Vm.Alike.refl U.vm) (h8 q hq)⟩
  obtain ⟨x, hx⟩ := h6 own k tx hm
  exact ⟨x, vk_R.same (u := U) rfl hx⟩
def Cx (G : Gl) (Y : MD) (p : Program) (l : Launch) (s : State) (m : MethodId) (args : Array Value) (meth : Method) (c : Code) : Prop :=
  p.tables.exec = Jvm.exec ∧ c.code = Y.2.1 ∧ meth.sig.returnType = Y.2.2.2.1 ∧ c.maxLocals = Y.2.2.1 ∧ s.vm.findClass Y.1.cls = some m.cls ∧ meth.locks = false ∧ (∀ w ∈ GW, w.before args s = true) ∧ kst G s ∧ l.stackTraces = false ∧ c.exceptionTable.toList = tableOf Y.2.2.2.2.2
def V (G : Gl) (Y : MD) (R : Room) (Qf : List Frame → Array Value → State → State → Prop) (pc : Nat) (L : List (Nat × Value)) (st : List Value) (μ : St) (cells slots : Nat) : Prop :=
  ∀ (p : Program) (l : Launch) (e : Env) (s : State) (m : MethodId) (args : Array Value) (below : List Frame) (meth : Method) (c : Code), Cx G Y p l s m args meth c → ∀ (H : Heap) (locs : List Loc) (ls : Array Slot), Wd G μ H → va_S (fun q => G.1 ≤ q) s.heap H locs → lv_has ls Y.2.2.1 L → W p l e R s m args below meth c H locs cells slots (Qf below args s) (F0 m pc ls st)
def lget : List (Nat × Value) → Nat → Option Value
  | [], _ => none
  | (j, v) :: t, k => match Nat.beq j k with
    | true => some v
    | false => lget t k
theorem lget_mem {L : List (Nat × Value)} {k : Nat} {v : Value} (h : lget L k = some v) : (k, v) ∈ L := by
  induction L with
  | nil => cases h
  | cons q t ih =>
    obtain ⟨j, w⟩ := q
    unfold lget at h
    split at h
    next e =>
      have e1 : j = k := Nat.eq_of_beq_eq_true e
      cases h
      rw [e1]
      exact List.mem_cons_self
    next e => exact List.mem_cons_of_mem _ (ih h)
theorem lv_lget {ls : Array Slot} {nL : Nat} {L : List (Nat × Value)} (h : lv_has ls nL L) {k : Nat} {v : Value} (hk : lget L k = some v) : ls[k]? = some (.val v) := h.2.2 (k, v) (lget_mem hk)
def lins : List (Nat × Value) → Nat → Value → List (Nat × Value)
  | [], k, v => [(k, v)]
  | (j, x) :: t, k, v => match Nat.blt j k with
    | true => (j, x) :: lins t k v
    | false => (k, v) :: (j, x) :: t
theorem lins_mem {L : List (Nat × Value)} {k : Nat} {v : Value} {q : Nat × Value} (h : q ∈ lins L k v) : q ∈ (k, v) :: L := by
  induction L with
  | nil => exact h
  | cons x t ih =>
    obtain ⟨j, y⟩ := x
    unfold lins at h
    split at h
    next e =>
      rcases List.mem_cons.mp h with h1 | h1
      · rw [h1]
        exact List.mem_cons_of_mem _ List.mem_cons_self
      · rcases List.mem_cons.mp (ih h1) with h2 | h2
        · rw [h2]
          exact List.mem_cons_self
        · exact List.mem_cons_of_mem _ (List.mem_cons_of_mem _ h2)
    next e => exact h
/-- the locals behind a store: in the order of their numbers -/
def lset (L : List (Nat × Value)) (k : Nat) (v : Value) : List (Nat × Value) := lins (L.filter (fun q => !(q.1 == k) && !(q.1 + 1 == k && q.2.category == 2))) k v
theorem lv_lset {ls : Array Slot} {nL : Nat} {L : List (Nat × Value)} {k : Nat} {v : Value} (h : lv_has ls nL ((k, v) :: L.filter (fun q => !(q.1 == k) && !(q.1 + 1 == k && q.2.category == 2)))) : lv_has ls nL (lset L k v) := ⟨h.1, h.2.1, fun q hq => h.2.2 q (lins_mem hq)⟩
def lsetD (L : List (Nat × Value)) (k : Nat) (v : Value) : List (Nat × Value) := lins (L.filter (fun q => !(q.1 == k) && (!(q.1 == k + 1) && !(q.1 + 1 == k && q.2.category == 2)))) k v
theorem lv_lsetD {ls : Array Slot} {nL : Nat} {L : List (Nat × Value)} {k : Nat} {v : Value} (h : lv_has ls nL ((k, v) :: L.filter (fun q => !(q.1 == k) && (!(q.1 == k + 1) && !(q.1 + 1 == k && q.2.category == 2))))) : lv_has ls nL (lsetD L k v) := ⟨h.1, h.2.1, fun q hq => h.2.2 q (lins_mem hq)⟩
theorem lv_less {ls : Array Slot} {nL : Nat} {L L' : List (Nat × Value)} (h : lv_has ls nL L) (hL : ∀ q ∈ L', q ∈ L) : lv_has ls nL L' := ⟨h.1, h.2.1, fun q hq => h.2.2 q (hL q hq)⟩
section VRows
variable {G : Gl} {Y : MD} {R : Room} {Qf : List Frame → Array Value → State → State → Prop} {pc n : Nat} {L L' : List (Nat × Value)} {st : List Value} {μ : St} {cells slots : Nat}
theorem v_iconst {q : Int} {x : Int32} (hd : decode Y.2.1 pc = .ok (.iconst q, 1)) (hn : pc + 1 = n) (hx : Int32.ofInt q = x) (kk : V G Y R Qf n L (.int x :: st) μ cells slots) : V G Y R Qf pc L (st) μ cells slots := by
  subst hn; intro p l e s m args below meth c C H locs ls hW hS hl
  exact lv_iconst C.1 C.2.1 hd hx (kk p l e s m args below meth c C H locs ls hW hS hl)
theorem v_bipush {q : Int} {x : Int32} (hd : decode Y.2.1 pc = .ok (.bipush q, 2)) (hn : pc + 2 = n) (hx : (Int8.ofInt q).toInt32 = x) (kk : V G Y R Qf n L (.int x :: st) μ cells slots) : V G Y R Qf pc L (st) μ cells slots := by
  subst hn; intro p l e s m args below meth c C H locs ls hW hS hl
  exact lv_bipush C.1 C.2.1 hd hx (kk p l e s m args below meth c C H locs ls hW hS hl)
theorem v_sipush {q : Int} {x : Int32} (hd : decode Y.2.1 pc = .ok (.sipush q, 3)) (hn : pc + 3 = n) (hx : (Int16.ofInt q).toInt32 = x) (kk : V G Y R Qf n L (.int x :: st) μ cells slots) : V G Y R Qf pc L (st) μ cells slots := by
  subst hn; intro p l e s m args below meth c C H locs ls hW hS hl
  exact lv_sipush C.1 C.2.1 hd hx (kk p l e s m args below meth c C H locs ls hW hS hl)
theorem v_iload_n {k : Fin 4} {x : Int32} (hd : decode Y.2.1 pc = .ok (.iload_n k, 1)) (hn : pc + 1 = n) (hg : lget L k = some (.int x)) (kk : V G Y R Qf n L (.int x :: st) μ cells slots) : V G Y R Qf pc L (st) μ cells slots := by
  subst hn; intro p l e s m args below meth c C H locs ls hW hS hl
  exact lv_iload_n C.1 C.2.1 hd rfl (lv_lget hl hg) (kk p l e s m args below meth c C H locs ls hW hS hl)
theorem v_iload {k : Nat} {x : Int32} (hd : decode Y.2.1 pc = .ok (.iload k, 2)) (hn : pc + 2 = n) (hg : lget L k = some (.int x)) (kk : V G Y R Qf n L (.int x :: st) μ cells slots) : V G Y R Qf pc L (st) μ cells slots := by
  subst hn; intro p l e s m args below meth c C H locs ls hW hS hl
  exact lv_iload C.1 C.2.1 hd (lv_lget hl hg) (kk p l e s m args below meth c C H locs ls hW hS hl)
theorem v_aload_n {k : Fin 4} {x : Nat} (hd : decode Y.2.1 pc = .ok (.aload_n k, 1)) (hn : pc + 1 = n) (hg : lget L k = some (.ref x)) (kk : V G Y R Qf n L (.ref x :: st) μ cells slots) : V G Y R Qf pc L (st) μ cells slots := by
  subst hn; intro p l e s m args below meth c C H locs ls hW hS hl
  exact lv_aload_n C.1 C.2.1 hd rfl (lv_lget hl hg) (kk p l e s m args below meth c C H locs ls hW hS hl)
theorem v_aload {k : Nat} {x : Nat} (hd : decode Y.2.1 pc = .ok (.aload k, 2)) (hn : pc + 2 = n) (hg : lget L k = some (.ref x)) (kk : V G Y R Qf n L (.ref x :: st) μ cells slots) : V G Y R Qf pc L (st) μ cells slots := by
  subst hn; intro p l e s m args below meth c C H locs ls hW hS hl
  exact lv_aload C.1 C.2.1 hd (lv_lget hl hg) (kk p l e s m args below meth c C H locs ls hW hS hl)
theorem v_aload_nN {k : Fin 4} (hd : decode Y.2.1 pc = .ok (.aload_n k, 1)) (hn : pc + 1 = n) (hg : lget L k = some .null) (kk : V G Y R Qf n L (.null :: st) μ cells slots) : V G Y R Qf pc L (st) μ cells slots := by
  subst hn; intro p l e s m args below meth c C H locs ls hW hS hl
  exact lv_aload_nN C.1 C.2.1 hd rfl (lv_lget hl hg) (kk p l e s m args below meth c C H locs ls hW hS hl)
theorem v_aloadN {k : Nat} (hd : decode Y.2.1 pc = .ok (.aload k, 2)) (hn : pc + 2 = n) (hg : lget L k = some .null) (kk : V G Y R Qf n L (.null :: st) μ cells slots) : V G Y R Qf pc L (st) μ cells slots := by
  subst hn; intro p l e s m args below meth c C H locs ls hW hS hl
  exact lv_aloadN C.1 C.2.1 hd (lv_lget hl hg) (kk p l e s m args below meth c C H locs ls hW hS hl)
theorem v_dload {k : Nat} {x : UInt64} (hd : decode Y.2.1 pc = .ok (.dload k, 2)) (hn : pc + 2 = n) (hg : lget L k = some (.double x)) (kk : V G Y R Qf n L (.double x :: st) μ cells slots) : V G Y R Qf pc L (st) μ cells slots := by
  subst hn; intro p l e s m args below meth c C H locs ls hW hS hl
  exact lv_dload C.1 C.2.1 hd (lv_lget hl hg) (kk p l e s m args below meth c C H locs ls hW hS hl)
theorem v_null (hd : decode Y.2.1 pc = .ok (.aconst_null, 1)) (hn : pc + 1 = n) (kk : V G Y R Qf n L (.null :: st) μ cells slots) : V G Y R Qf pc L (st) μ cells slots := by
  subst hn; intro p l e s m args below meth c C H locs ls hW hS hl
  exact lv_null C.1 C.2.1 hd (kk p l e s m args below meth c C H locs ls hW hS hl)
theorem v_istore_n {k : Fin 4} {x : Int32} (hd : decode Y.2.1 pc = .ok (.istore_n k, 1)) (hn : pc + 1 = n) (hk : k < Y.2.2.1) (hL : lset L k (.int x) = L') (kk : V G Y R Qf n L' (st) μ cells slots) : V G Y R Qf pc L (.int x :: st) μ cells slots := by
  subst hn; subst hL; intro p l e s m args below meth c C H locs ls hW hS hl
  exact lv_istore_n C.1 C.2.1 hd rfl hl hk rfl (fun ls hl => kk p l e s m args below meth c C H locs ls hW hS (lv_lset hl))
theorem v_istore {k : Nat} {x : Int32} (hd : decode Y.2.1 pc = .ok (.istore k, 2)) (hn : pc + 2 = n) (hk : k < Y.2.2.1) (hL : lset L k (.int x) = L') (kk : V G Y R Qf n L' (st) μ cells slots) : V G Y R Qf pc L (.int x :: st) μ cells slots := by
  subst hn; subst hL; intro p l e s m args below meth c C H locs ls hW hS hl
  exact lv_istore C.1 C.2.1 hd hl hk rfl (fun ls hl => kk p l e s m args below meth c C H locs ls hW hS (lv_lset hl))
theorem v_astore_n {k : Fin 4} {x : Nat} (hd : decode Y.2.1 pc = .ok (.astore_n k, 1)) (hn : pc + 1 = n) (hk : k < Y.2.2.1) (hL : lset L k (.ref x) = L') (kk : V G Y R Qf n L' (st) μ cells slots) : V G Y R Qf pc L (.ref x :: st) μ cells slots := by
  subst hn; subst hL; intro p l e s m args below meth c C H locs ls hW hS hl
  exact lv_astore_n C.1 C.2.1 hd rfl hl hk rfl (fun ls hl => kk p l e s m args below meth c C H locs ls hW hS (lv_lset hl))
theorem v_astore {k : Nat} {x : Nat} (hd : decode Y.2.1 pc = .ok (.astore k, 2)) (hn : pc + 2 = n) (hk : k < Y.2.2.1) (hL : lset L k (.ref x) = L') (kk : V G Y R Qf n L' (st) μ cells slots) : V G Y R Qf pc L (.ref x :: st) μ cells slots := by
  subst hn; subst hL; intro p l e s m args below meth c C H locs ls hW hS hl
  exact lv_astore C.1 C.2.1 hd hl hk rfl (fun ls hl => kk p l e s m args below meth c C H locs ls hW hS (lv_lset hl))
theorem v_astore_nN {k : Fin 4} (hd : decode Y.2.1 pc = .ok (.astore_n k, 1)) (hn : pc + 1 = n) (hk : k < Y.2.2.1) (hL : lset L k (.null) = L') (kk : V G Y R Qf n L' (st) μ cells slots) : V G Y R Qf pc L (.null :: st) μ cells slots := by
  subst hn; subst hL; intro p l e s m args below meth c C H locs ls hW hS hl
  exact lv_astore_nN C.1 C.2.1 hd rfl hl hk rfl (fun ls hl => kk p l e s m args below meth c C H locs ls hW hS (lv_lset hl))
theorem v_astoreN {k : Nat} (hd : decode Y.2.1 pc = .ok (.astore k, 2)) (hn : pc + 2 = n) (hk : k < Y.2.2.1) (hL : lset L k (.null) = L') (kk : V G Y R Qf n L' (st) μ cells slots) : V G Y R Qf pc L (.null :: st) μ cells slots := by
  subst hn; subst hL; intro p l e s m args below meth c C H locs ls hW hS hl
  exact lv_astoreN C.1 C.2.1 hd hl hk rfl (fun ls hl => kk p l e s m args below meth c C H locs ls hW hS (lv_lset hl))
theorem v_dstore {k : Nat} {x : UInt64} (hd : decode Y.2.1 pc = .ok (.dstore k, 2)) (hn : pc + 2 = n) (hk : k + 1 < Y.2.2.1) (hL : lsetD L k (.double x) = L') (kk : V G Y R Qf n L' (st) μ cells slots) : V G Y R Qf pc L (.double x :: st) μ cells slots := by
  subst hn; subst hL; intro p l e s m args below meth c C H locs ls hW hS hl
  exact lv_dstore C.1 C.2.1 hd hl hk rfl (fun ls hl => kk p l e s m args below meth c C H locs ls hW hS (lv_lsetD hl))
theorem v_iinc {k : Nat} {q : Int} {x y : Int32} (hd : decode Y.2.1 pc = .ok (.iinc k q, 3)) (hn : pc + 3 = n) (hg : lget L k = some (.int x)) (hy : x + Int32.ofInt q = y) (hk : k < Y.2.2.1) (hL : lset L k (.int y) = L') (kk : V G Y R Qf n L' (st) μ cells slots) : V G Y R Qf pc L (st) μ cells slots := by
  subst hn; subst hL; intro p l e s m args below meth c C H locs ls hW hS hl
  obtain ⟨j, hj⟩ := List.getElem?_of_mem (lget_mem hg)
  exact lv_iinc C.1 C.2.1 hd hl hj hy hk rfl (fun ls hl => kk p l e s m args below meth c C H locs ls hW hS (lv_lset hl))
theorem v_iadd {x y : Int32} (hd : decode Y.2.1 pc = .ok (.iadd, 1)) (hn : pc + 1 = n) (kk : V G Y R Qf n L (.int (x + y) :: st) μ cells slots) : V G Y R Qf pc L (.int y :: .int x :: st) μ cells slots := by
  subst hn; intro p l e s m args below meth c C H locs ls hW hS hl
  exact lv_iadd C.1 C.2.1 hd (kk p l e s m args below meth c C H locs ls hW hS hl)
theorem v_isub {x y : Int32} (hd : decode Y.2.1 pc = .ok (.isub, 1)) (hn : pc + 1 = n) (kk : V G Y R Qf n L (.int (x - y) :: st) μ cells slots) : V G Y R Qf pc L (.int y :: .int x :: st) μ cells slots := by
  subst hn; intro p l e s m args below meth c C H locs ls hW hS hl
  exact lv_isub C.1 C.2.1 hd (kk p l e s m args below meth c C H locs ls hW hS hl)
theorem v_imul {x y : Int32} (hd : decode Y.2.1 pc = .ok (.imul, 1)) (hn : pc + 1 = n) (kk : V G Y R Qf n L (.int (x * y) :: st) μ cells slots) : V G Y R Qf pc L (.int y :: .int x :: st) μ cells slots := by
  subst hn; intro p l e s m args below meth c C H locs ls hW hS hl
  exact lv_imul C.1 C.2.1 hd (kk p l e s m args below meth c C H locs ls hW hS hl)
theorem v_iand {x y : Int32} (hd : decode Y.2.1 pc = .ok (.iand, 1)) (hn : pc + 1 = n) (kk : V G Y R Qf n L (.int (x &&& y) :: st) μ cells slots) : V G Y R Qf pc L (.int y :: .int x :: st) μ cells slots := by
  subst hn; intro p l e s m args below meth c C H locs ls hW hS hl
  exact lv_iand C.1 C.2.1 hd (kk p l e s m args below meth c C H locs ls hW hS hl)
theorem v_ior {x y : Int32} (hd : decode Y.2.1 pc = .ok (.ior, 1)) (hn : pc + 1 = n) (kk : V G Y R Qf n L (.int (x ||| y) :: st) μ cells slots) : V G Y R Qf pc L (.int y :: .int x :: st) μ cells slots := by
  subst hn; intro p l e s m args below meth c C H locs ls hW hS hl
  exact lv_ior C.1 C.2.1 hd (kk p l e s m args below meth c C H locs ls hW hS hl)
theorem v_ixor {x y : Int32} (hd : decode Y.2.1 pc = .ok (.ixor, 1)) (hn : pc + 1 = n) (kk : V G Y R Qf n L (.int (x ^^^ y) :: st) μ cells slots) : V G Y R Qf pc L (.int y :: .int x :: st) μ cells slots := by
  subst hn; intro p l e s m args below meth c C H locs ls hW hS hl
  exact lv_ixor C.1 C.2.1 hd (kk p l e s m args below meth c C H locs ls hW hS hl)
theorem v_ishl {x y : Int32} (hd : decode Y.2.1 pc = .ok (.ishl, 1)) (hn : pc + 1 = n) (kk : V G Y R Qf n L (.int (x <<< (y &&& 31)) :: st) μ cells slots) : V G Y R Qf pc L (.int y :: .int x :: st) μ cells slots := by
  subst hn; intro p l e s m args below meth c C H locs ls hW hS hl
  exact lv_ishl C.1 C.2.1 hd (kk p l e s m args below meth c C H locs ls hW hS hl)
theorem v_ishr {x y : Int32} (hd : decode Y.2.1 pc = .ok (.ishr, 1)) (hn : pc + 1 = n) (kk : V G Y R Qf n L (.int (x >>> (y &&& 31)) :: st) μ cells slots) : V G Y R Qf pc L (.int y :: .int x :: st) μ cells slots := by
  subst hn; intro p l e s m args below meth c C H locs ls hW hS hl
  exact lv_ishr C.1 C.2.1 hd (kk p l e s m args below meth c C H locs ls hW hS hl)
theorem v_idiv {x y : Int32} (hd : decode Y.2.1 pc = .ok (.idiv, 1)) (hn : pc + 1 = n) (hne : ¬ y = 0) (kk : V G Y R Qf n L (.int (x / y) :: st) μ cells slots) : V G Y R Qf pc L (.int y :: .int x :: st) μ cells slots := by
  subst hn; intro p l e s m args below meth c C H locs ls hW hS hl
  exact lv_idiv C.1 C.2.1 hd hne (kk p l e s m args below meth c C H locs ls hW hS hl)
theorem v_irem {x y : Int32} (hd : decode Y.2.1 pc = .ok (.irem, 1)) (hn : pc + 1 = n) (hne : ¬ y = 0) (kk : V G Y R Qf n L (.int (x - x / y * y) :: st) μ cells slots) : V G Y R Qf pc L (.int y :: .int x :: st) μ cells slots := by
  subst hn; intro p l e s m args below meth c C H locs ls hW hS hl
  exact lv_irem C.1 C.2.1 hd hne (kk p l e s m args below meth c C H locs ls hW hS hl)
theorem v_ineg {x : Int32} (hd : decode Y.2.1 pc = .ok (.ineg, 1)) (hn : pc + 1 = n) (kk : V G Y R Qf n L (.int (-x) :: st) μ cells slots) : V G Y R Qf pc L (.int x :: st) μ cells slots := by
  subst hn; intro p l e s m args below meth c C H locs ls hW hS hl
  exact lv_ineg C.1 C.2.1 hd (kk p l e s m args below meth c C H locs ls hW hS hl)
theorem v_i2l {x : Int32} (hd : decode Y.2.1 pc = .ok (.i2l, 1)) (hn : pc + 1 = n) (kk : V G Y R Qf n L (.long x.toInt64 :: st) μ cells slots) : V G Y R Qf pc L (.int x :: st) μ cells slots := by
  subst hn; intro p l e s m args below meth c C H locs ls hW hS hl
  exact lv_i2l C.1 C.2.1 hd rfl (kk p l e s m args below meth c C H locs ls hW hS hl)
theorem v_i2d {x : Int32} (hd : decode Y.2.1 pc = .ok (.i2d, 1)) (hn : pc + 1 = n) (kk : V G Y R Qf n L (.double (FP.i2d x) :: st) μ cells slots) : V G Y R Qf pc L (.int x :: st) μ cells slots := by
  subst hn; intro p l e s m args below meth c C H locs ls hW hS hl
  exact lv_i2d C.1 C.2.1 hd (kk p l e s m args below meth c C H locs ls hW hS hl)
theorem v_i2c {x : Int32} (hd : decode Y.2.1 pc = .ok (.i2c, 1)) (hn : pc + 1 = n) (kk : V G Y R Qf n L (.int (x.toUInt32 % 65536).toInt32 :: st) μ cells slots) : V G Y R Qf pc L (.int x :: st) μ cells slots := by
  subst hn; intro p l e s m args below meth c C H locs ls hW hS hl
  exact lv_i2c C.1 C.2.1 hd rfl (kk p l e s m args below meth c C H locs ls hW hS hl)
theorem v_ddiv {x y : UInt64} (hd : decode Y.2.1 pc = .ok (.ddiv, 1)) (hn : pc + 1 = n) (hne : vf_n64 (FP.ddiv x y)) (kk : V G Y R Qf n L (.double (FP.ddiv x y) :: st) μ cells slots) : V G Y R Qf pc L (.double y :: .double x :: st) μ cells slots := by
  subst hn; intro p l e s m args below meth c C H locs ls hW hS hl
  exact lv_ddiv C.1 C.2.1 hd hne (kk p l e s m args below meth c C H locs ls hW hS hl)
theorem v_dcmp {x y : UInt64} {op : CmpOp} (hd : decode Y.2.1 pc = .ok (.dcmp op, 1)) (hn : pc + 1 = n) (kk : V G Y R Qf n L (.int (Op.cmpValue (FP.dcmp x y) op) :: st) μ cells slots) : V G Y R Qf pc L (.double y :: .double x :: st) μ cells slots := by
  subst hn; intro p l e s m args below meth c C H locs ls hW hS hl
  exact lv_dcmp C.1 C.2.1 hd (kk p l e s m args below meth c C H locs ls hW hS hl)
theorem v_dconst0 (hd : decode Y.2.1 pc = .ok (.dconst 0, 1)) (hn : pc + 1 = n) (kk : V G Y R Qf n L (.double FP.dconst0 :: st) μ cells slots) : V G Y R Qf pc L (st) μ cells slots := by
  subst hn; intro p l e s m args below meth c C H locs ls hW hS hl
  exact lv_dconst0 C.1 C.2.1 hd (kk p l e s m args below meth c C H locs ls hW hS hl)
theorem v_lcmp {x y : Int64} (hd : decode Y.2.1 pc = .ok (.lcmp, 1)) (hn : pc + 1 = n) (kk : V G Y R Qf n L (.int (lg_cmp x y) :: st) μ cells slots) : V G Y R Qf pc L (.long y :: .long x :: st) μ cells slots := by
  subst hn; intro p l e s m args below meth c C H locs ls hW hS hl
  exact W.lcmp C.1 C.2.1 hd (kk p l e s m args below meth c C H locs ls hW hS hl)
theorem v_dup {x : Value} (hd : decode Y.2.1 pc = .ok (.dup, 1)) (hn : pc + 1 = n) (h1 : x.category = 1) (kk : V G Y R Qf n L (x :: x :: st) μ cells slots) : V G Y R Qf pc L (x :: st) μ cells slots := by
  subst hn; intro p l e s m args below meth c C H locs ls hW hS hl
  exact lv_dup C.1 C.2.1 hd h1 (kk p l e s m args below meth c C H locs ls hW hS hl)
theorem v_dup2 {x y : Value} (hd : decode Y.2.1 pc = .ok (.dup2, 1)) (hn : pc + 1 = n) (h1 : x.category = 1) (h2 : y.category = 1) (kk : V G Y R Qf n L (x :: y :: x :: y :: st) μ cells slots) : V G Y R Qf pc L (x :: y :: st) μ cells slots := by
  subst hn; intro p l e s m args below meth c C H locs ls hW hS hl
  exact lv_dup2_11 C.1 C.2.1 hd h1 h2 (kk p l e s m args below meth c C H locs ls hW hS hl)
theorem v_pop {x : Value} (hd : decode Y.2.1 pc = .ok (.pop, 1)) (hn : pc + 1 = n) (h1 : x.category = 1) (kk : V G Y R Qf n L (st) μ cells slots) : V G Y R Qf pc L (x :: st) μ cells slots := by
  subst hn; intro p l e s m args below meth c C H locs ls hW hS hl
  exact lv_pop C.1 C.2.1 hd h1 (kk p l e s m args below meth c C H locs ls hW hS hl)
theorem v_goto {off : Int} (hd : decode Y.2.1 pc = .ok (.goto off, 3)) (ht : (pc : Int) + off = (n : Int)) (kk : V G Y R Qf n L (st) μ cells slots) : V G Y R Qf pc L (st) μ cells slots := by
  intro p l e s m args below meth c C H locs ls hW hS hl
  exact lv_goto C.1 C.2.1 hd ht (kk p l e s m args below meth c C H locs ls hW hS hl)
theorem v_icmp_ge {x y : Int32} {off : Int} {t : Nat} (hd : decode Y.2.1 pc = .ok (.if_icmp .ge off, 3)) (hn : pc + 3 = n) (ht : (pc : Int) + off = (t : Int)) (kt : y ≤ x → V G Y R Qf t L (st) μ cells slots) (kf : ¬ y ≤ x → V G Y R Qf n L (st) μ cells slots) : V G Y R Qf pc L (.int y :: .int x :: st) μ cells slots := by
  subst hn; intro p l e s m args below meth c C H locs ls hW hS hl
  exact lv_icmp_ge C.1 C.2.1 hd ht (fun h => kt h p l e s m args below meth c C H locs ls hW hS hl) (fun h => kf h p l e s m args below meth c C H locs ls hW hS hl)
theorem v_icmp_lt {x y : Int32} {off : Int} {t : Nat} (hd : decode Y.2.1 pc = .ok (.if_icmp .lt off, 3)) (hn : pc + 3 = n) (ht : (pc : Int) + off = (t : Int)) (kt : x < y → V G Y R Qf t L (st) μ cells slots) (kf : ¬ x < y → V G Y R Qf n L (st) μ cells slots) : V G Y R Qf pc L (.int y :: .int x :: st) μ cells slots := by
  subst hn; intro p l e s m args below meth c C H locs ls hW hS hl
  exact lv_icmp_lt C.1 C.2.1 hd ht (fun h => kt h p l e s m args below meth c C H locs ls hW hS hl) (fun h => kf h p l e s m args below meth c C H locs ls hW hS hl)
theorem v_icmp_le {x y : Int32} {off : Int} {t : Nat} (hd : decode Y.2.1 pc = .ok (.if_icmp .le off, 3)) (hn : pc + 3 = n) (ht : (pc : Int) + off = (t : Int)) (kt : x ≤ y → V G Y R Qf t L (st) μ cells slots) (kf : ¬ x ≤ y → V G Y R Qf n L (st) μ cells slots) : V G Y R Qf pc L (.int y :: .int x :: st) μ cells slots := by
  subst hn; intro p l e s m args below meth c C H locs ls hW hS hl
  exact lv_icmp_le C.1 C.2.1 hd ht (fun h => kt h p l e s m args below meth c C H locs ls hW hS hl) (fun h => kf h p l e s m args below meth c C H locs ls hW hS hl)
theorem v_icmp_gt {x y : Int32} {off : Int} {t : Nat} (hd : decode Y.2.1 pc = .ok (.if_icmp .gt off, 3)) (hn : pc + 3 = n) (ht : (pc : Int) + off = (t : Int)) (kt : y < x → V G Y R Qf t L (st) μ cells slots) (kf : ¬ y < x → V G Y R Qf n L (st) μ cells slots) : V G Y R Qf pc L (.int y :: .int x :: st) μ cells slots := by
  subst hn; intro p l e s m args below meth c C H locs ls hW hS hl
  exact lv_icmp_gt C.1 C.2.1 hd ht (fun h => kt h p l e s m args below meth c C H locs ls hW hS hl) (fun h => kf h p l e s m args below meth c C H locs ls hW hS hl)
theorem v_icmp_eq {x y : Int32} {off : Int} {t : Nat} (hd : decode Y.2.1 pc = .ok (.if_icmp .eq off, 3)) (hn : pc + 3 = n) (ht : (pc : Int) + off = (t : Int)) (kt : x = y → V G Y R Qf t L (st) μ cells slots) (kf : ¬ x = y → V G Y R Qf n L (st) μ cells slots) : V G Y R Qf pc L (.int y :: .int x :: st) μ cells slots := by
  subst hn; intro p l e s m args below meth c C H locs ls hW hS hl
  exact lv_icmp_eq C.1 C.2.1 hd ht (fun h => kt h p l e s m args below meth c C H locs ls hW hS hl) (fun h => kf h p l e s m args below meth c C H locs ls hW hS hl)
theorem v_icmp_ne {x y : Int32} {off : Int} {t : Nat} (hd : decode Y.2.1 pc = .ok (.if_icmp .ne off, 3)) (hn : pc + 3 = n) (ht : (pc : Int) + off = (t : Int)) (kt : ¬ x = y → V G Y R Qf t L (st) μ cells slots) (kf : x = y → V G Y R Qf n L (st) μ cells slots) : V G Y R Qf pc L (.int y :: .int x :: st) μ cells slots := by
  subst hn; intro p l e s m args below meth c C H locs ls hW hS hl
  exact lv_icmp_ne C.1 C.2.1 hd ht (fun h => kt h p l e s m args below meth c C H locs ls hW hS hl) (fun h => kf h p l e s m args below meth c C H locs ls hW hS hl)
theorem v_if_ge {x : Int32} {off : Int} {t : Nat} (hd : decode Y.2.1 pc = .ok (.ifCond .ge off, 3)) (hn : pc + 3 = n) (ht : (pc : Int) + off = (t : Int)) (kt : 0 ≤ x → V G Y R Qf t L (st) μ cells slots) (kf : ¬ 0 ≤ x → V G Y R Qf n L (st) μ cells slots) : V G Y R Qf pc L (.int x :: st) μ cells slots := by
  subst hn; intro p l e s m args below meth c C H locs ls hW hS hl
  exact lv_if_ge C.1 C.2.1 hd ht (fun h => kt h p l e s m args below meth c C H locs ls hW hS hl) (fun h => kf h p l e s m args below meth c C H locs ls hW hS hl)
theorem v_if_lt {x : Int32} {off : Int} {t : Nat} (hd : decode Y.2.1 pc = .ok (.ifCond .lt off, 3)) (hn : pc + 3 = n) (ht : (pc : Int) + off = (t : Int)) (kt : x < 0 → V G Y R Qf t L (st) μ cells slots) (kf : ¬ x < 0 → V G Y R Qf n L (st) μ cells slots) : V G Y R Qf pc L (.int x :: st) μ cells slots := by
  subst hn; intro p l e s m args below meth c C H locs ls hW hS hl
  exact lv_if_lt C.1 C.2.1 hd ht (fun h => kt h p l e s m args below meth c C H locs ls hW hS hl) (fun h => kf h p l e s m args below meth c C H locs ls hW hS hl)
theorem v_if_le {x : Int32} {off : Int} {t : Nat} (hd : decode Y.2.1 pc = .ok (.ifCond .le off, 3)) (hn : pc + 3 = n) (ht : (pc : Int) + off = (t : Int)) (kt : x ≤ 0 → V G Y R Qf t L (st) μ cells slots) (kf : ¬ x ≤ 0 → V G Y R Qf n L (st) μ cells slots) : V G Y R Qf pc L (.int x :: st) μ cells slots := by
  subst hn; intro p l e s m args below meth c C H locs ls hW hS hl
  exact lv_if_le C.1 C.2.1 hd ht (fun h => kt h p l e s m args below meth c C H locs ls hW hS hl) (fun h => kf h p l e s m args below meth c C H locs ls hW hS hl)
theorem v_if_gt {x : Int32} {off : Int} {t : Nat} (hd : decode Y.2.1 pc = .ok (.ifCond .gt off, 3)) (hn : pc + 3 = n) (ht : (pc : Int) + off = (t : Int)) (kt : 0 < x → V G Y R Qf t L (st) μ cells slots) (kf : ¬ 0 < x → V G Y R Qf n L (st) μ cells slots) : V G Y R Qf pc L (.int x :: st) μ cells slots := by
  subst hn; intro p l e s m args below meth c C H locs ls hW hS hl
  exact lv_if_gt C.1 C.2.1 hd ht (fun h => kt h p l e s m args below meth c C H locs ls hW hS hl) (fun h => kf h p l e s m args below meth c C H locs ls hW hS hl)
theorem v_if_eq {x : Int32} {off : Int} {t : Nat} (hd : decode Y.2.1 pc = .ok (.ifCond .eq off, 3)) (hn : pc + 3 = n) (ht : (pc : Int) + off = (t : Int)) (kt : x = 0 → V G Y R Qf t L (st) μ cells slots) (kf : ¬ x = 0 → V G Y R Qf n L (st) μ cells slots) : V G Y R Qf pc L (.int x :: st) μ cells slots := by
  subst hn; intro p l e s m args below meth c C H locs ls hW hS hl
  exact lv_if_eq C.1 C.2.1 hd ht (fun h => kt h p l e s m args below meth c C H locs ls hW hS hl) (fun h => kf h p l e s m args below meth c C H locs ls hW hS hl)
theorem v_if_ne {x : Int32} {off : Int} {t : Nat} (hd : decode Y.2.1 pc = .ok (.ifCond .ne off, 3)) (hn : pc + 3 = n) (ht : (pc : Int) + off = (t : Int)) (kt : ¬ x = 0 → V G Y R Qf t L (st) μ cells slots) (kf : x = 0 → V G Y R Qf n L (st) μ cells slots) : V G Y R Qf pc L (.int x :: st) μ cells slots := by
  subst hn; intro p l e s m args below meth c C H locs ls hW hS hl
  exact lv_if_ne C.1 C.2.1 hd ht (fun h => kt h p l e s m args below meth c C H locs ls hW hS hl) (fun h => kf h p l e s m args below meth c C H locs ls hW hS hl)
theorem v_ifnonnull {x : Nat} {off : Int} (hd : decode Y.2.1 pc = .ok (.ifnonnull off, 3)) (ht : (pc : Int) + off = (n : Int)) (kk : V G Y R Qf n L (st) μ cells slots) : V G Y R Qf pc L (.ref x :: st) μ cells slots := by
  intro p l e s m args below meth c C H locs ls hW hS hl
  exact lv_ifnonnull C.1 C.2.1 hd ht (kk p l e s m args below meth c C H locs ls hW hS hl)
theorem v_ifnonnullN {off : Int} (hd : decode Y.2.1 pc = .ok (.ifnonnull off, 3)) (hn : pc + 3 = n) (kk : V G Y R Qf n L (st) μ cells slots) : V G Y R Qf pc L (.null :: st) μ cells slots := by
  subst hn; intro p l e s m args below meth c C H locs ls hW hS hl
  exact lv_ifnonnullN C.1 C.2.1 hd (kk p l e s m args below meth c C H locs ls hW hS hl)
theorem v_ifnull {x : Nat} {off : Int} (hd : decode Y.2.1 pc = .ok (.ifnull off, 3)) (hn : pc + 3 = n) (kk : V G Y R Qf n L (st) μ cells slots) : V G Y R Qf pc L (.ref x :: st) μ cells slots := by
  subst hn; intro p l e s m args below meth c C H locs ls hW hS hl
  exact lv_ifnull C.1 C.2.1 hd (kk p l e s m args below meth c C H locs ls hW hS hl)
theorem v_ifnullN {off : Int} (hd : decode Y.2.1 pc = .ok (.ifnull off, 3)) (ht : (pc : Int) + off = (n : Int)) (kk : V G Y R Qf n L (st) μ cells slots) : V G Y R Qf pc L (.null :: st) μ cells slots := by
  intro p l e s m args below meth c C H locs ls hW hS hl
  exact lv_ifnullN C.1 C.2.1 hd ht (kk p l e s m args below meth c C H locs ls hW hS hl)
theorem v_ldc {index : Nat} {x : Int32} (hd : decode Y.2.1 pc = .ok (.ldc index, 2)) (hn : pc + 2 = n) (hc : Cond.constant Y.1.cls index x ∈ GW) (kk : V G Y R Qf n L (.int x :: st) μ cells slots) : V G Y R Qf pc L (st) μ cells slots := by
  subst hn; intro p l e s m args below meth c C H locs ls hW hS hl
  exact lv_ldc C.1 C.2.1 C.2.2.2.2.1 (C.2.2.2.2.2.2.1 _ hc) hd (kk p l e s m args below meth c C H locs ls hW hS hl)
theorem v_tableIn {dflt lo hi : Int} {offs : Array Int} {len : Nat} {x : Int32} {off : Int} (hd : decode Y.2.1 pc = .ok (.tableswitch dflt lo hi offs, len)) (h1 : ¬ x.toInt < lo) (h2 : ¬ hi < x.toInt) (ho : offs[(x.toInt - lo).toNat]? = some off) (ht : (pc : Int) + off = (n : Int)) (kk : V G Y R Qf n L (st) μ cells slots) : V G Y R Qf pc L (.int x :: st) μ cells slots := by
  intro p l e s m args below meth c C H locs ls hW hS hl
  exact lv_tableIn C.1 C.2.1 hd h1 h2 ho ht (kk p l e s m args below meth c C H locs ls hW hS hl)
theorem v_tableOut {dflt lo hi : Int} {offs : Array Int} {len : Nat} {x : Int32} (hd : decode Y.2.1 pc = .ok (.tableswitch dflt lo hi offs, len)) (h : x.toInt < lo ∨ hi < x.toInt) (ht : (pc : Int) + dflt = (n : Int)) (kk : V G Y R Qf n L (st) μ cells slots) : V G Y R Qf pc L (.int x :: st) μ cells slots := by
  intro p l e s m args below meth c C H locs ls hW hS hl
  exact lv_tableOut C.1 C.2.1 hd h ht (kk p l e s m args below meth c C H locs ls hW hS hl)
theorem v_lookup {dflt : Int} {ps : Array (Int × Int)} {len : Nat} {x : Int32} {off : Int} (hd : decode Y.2.1 pc = .ok (.lookupswitch dflt ps, len)) (hp : (ps.toList.zip (ps.toList.drop 1)).all (fun (a, next) => a.1 < next.1) = true) (ho : Op.lookupswitch.offset ps.toList dflt x.toInt = off) (ht : (pc : Int) + off = (n : Int)) (kk : V G Y R Qf n L (st) μ cells slots) : V G Y R Qf pc L (.int x :: st) μ cells slots := by
  intro p l e s m args below meth c C H locs ls hW hS hl
  exact lv_lookup C.1 C.2.1 hd hp ho ht (kk p l e s m args below meth c C H locs ls hW hS hl)
/-- a computed number by another of its names -/
theorem v_top {x y : Int32} (hx : x = y) (kk : V G Y R Qf pc L (.int y :: st) μ cells slots) : V G Y R Qf pc L (.int x :: st) μ cells slots := hx ▸ kk
theorem v_wide {a b : Nat} (h1 : cells ≤ a) (h2 : slots ≤ b) (kk : V G Y R Qf pc L st μ a b) : V G Y R Qf pc L (st) μ cells slots := fun p l e s m args below meth c C H locs ls hW hS hl => W.widen h1 h2 (kk p l e s m args below meth c C H locs ls hW hS hl)
theorem v_less (hL : ∀ q ∈ L', q ∈ L) (kk : V G Y R Qf pc L' (st) μ cells slots) : V G Y R Qf pc L (st) μ cells slots := fun p l e s m args below meth c C H locs ls hW hS hl => kk p l e s m args below meth c C H locs ls hW hS (lv_less hl hL)
/-- a field's place in the pool of a class: kind, slot -/
def FL (own : String) (index k s : Nat) : Prop := k < 20 ∧ ∃ (C : String) (T : u_T) (N : Nat) (ty : Nat → FieldType), vwCl[k]? = some (C, T, N) ∧ s < N ∧ (∀ w ∈ u_ws C T N, w ∈ GW) ∧ (∀ j, j < N → parseFieldDescriptor (T j).2.2.1 = some (ty j)) ∧ (∀ a, a < N → ∀ b, b < N → a ≠ b → (T a).2.1 ≠ (T b).2.1) ∧ (T s).1 = C ∧ Cond.fieldLink own index C (T s).2.1 (T s).2.2.1 ∈ GW
def FLw (own : String) (index k s : Nat) (ft : FieldType) : Prop := k < 20 ∧ ∃ (C : String) (T : u_T) (N : Nat) (ty : Nat → FieldType), vwCl[k]? = some (C, T, N) ∧ s < N ∧ (∀ w ∈ u_ws C T N, w ∈ GW) ∧ (∀ j, j < N → parseFieldDescriptor (T j).2.2.1 = some (ty j)) ∧ (∀ a, a < N → ∀ b, b < N → a ≠ b → (T a).2.1 ≠ (T b).2.1) ∧ (T s).1 = C ∧ Cond.fieldLink own index C (T s).2.1 (T s).2.2.1 ∈ GW ∧ (T s).2.2.2 = false ∧ ty s = ft
theorem v_getf {index k b i s : Nat} {v : Value} (hd : decode Y.2.1 pc = .ok (.getfield index, 3)) (hn : pc + 3 = n) (hf : FL Y.1.cls index k s) (ho : zok k b i) (hv : zvl G.1 μ k b i s = v) (kk : V G Y R Qf n L (v :: st) μ cells slots) : V G Y R Qf pc L (.ref (zad G.1 k b i) :: st) μ cells slots := by
  subst hn; intro p l e s_1 m args below meth c C H locs ls hW hS hl
  obtain ⟨hk20, C0, T, N, ty, hc, hs, hin, -, -, hT, hlink⟩ := hf
  have ha := hW k b i ho
  unfold zat at ha
  rw [if_pos hk20] at ha
  obtain ⟨r, h1, cell, q1, q2, q3, q4⟩ := ha
  have hr : r = (C0, T, N) := Option.some.inj (h1.symm.trans hc)
  subst hr
  have C1 := C
  obtain ⟨hx, hb, hrt, hml, hown, hlocks, hts, hK, -⟩ := C
  obtain ⟨hSl, hfc, kC, hkC, hkind⟩ := hK.1.1 k _ hc
  obtain ⟨cf, kf, fi, f, hi, hsl⟩ := hSl s hs
  have hi2 : s_1.fieldFound? C0 (T s).2.1 (T s).2.2.1 = some (cf, kf, fi, f) := by rw [← hT]; exact hi
  refine W.getf hx hb hown (hts _ hlink) hi2 (u_facts hfc hkC (u_lays hts hin hs) hi).1 q1 (by rw [q3]; exact fun h => by cases h) (v := v) ?_ rfl rfl hd (kk p l e s_1 m args below meth c C1 H locs ls hW hS hl)
  rw [hsl, q4 s hs, hv]
theorem Wd.put {H H' : Heap} {k b i s : Nat} {x : Int32} (hW : Wd G μ H) (ho : zok k b i) (h36 : k ≠ 36) (hq : ∀ q, q ≠ zad G.1 k b i → H'[q]? = H[q]?) (h : zat G (up μ k b i s x) k b i H') : Wd G (up μ k b i s x) H' := by
  intro k' b' i' ho'
  by_cases he : k' = k ∧ b' = b ∧ i' = i
  · obtain ⟨rfl, rfl, rfl⟩ := he
    exact h
  · have ha : zad G.1 k' b' i' ≠ zad G.1 k b i := fun z => he (zad_inj ho' ho z)
    have h2 := (hW k' b' i' ho').kept (hq _ ha)
    unfold zat at h2 ⊢
    have e : zvl G.1 (up μ k b i s x) k' b' i' = zvl G.1 μ k' b' i' := funext fun s' => zvl_up_ne he h36
    rw [e]
    exact h2
theorem v_putf {index k b i s : Nat} {x : Int32} {ft : FieldType} (hd : decode Y.2.1 pc = .ok (.putfield index, 3)) (hn : pc + 3 = n) (hf : FLw Y.1.cls index k s ft) (ho : zok k b i) (hv : ∀ μ' : St, zvl G.1 μ' k b i s = .int (μ' k b i s)) (hx : narrow ft (.int x) = .int x) (hx2 : fits ft (.int x) = true) (kk : V G Y R Qf n L st (up μ k b i s x) cells slots) : V G Y R Qf pc L (.int x :: .ref (zad G.1 k b i) :: st) μ cells slots := by
  subst hn; intro p l e s_1 m args below meth c C H locs ls hW hS hl
  obtain ⟨hk20, C0, T, N, ty, hc, hs, hin, hty, hnm, hT, hlink, hfin, hft⟩ := hf
  have ha := hW k b i ho
  unfold zat at ha
  rw [if_pos hk20] at ha
  obtain ⟨r, h1, cell, q1, q2, q3, q4⟩ := ha
  have hr : r = (C0, T, N) := Option.some.inj (h1.symm.trans hc)
  subst hr
  have C1 := C
  obtain ⟨hx0, hb, hrt, hml, hown, hlocks, hts, hK, -⟩ := C
  have hap := va_apart (own := Y.1.cls) hts hin ty hty hnm hK.1 hc
  obtain ⟨hSl, hfc, kC, hkC, hkind⟩ := hK.1.1 k _ hc
  obtain ⟨cf, kf, fi, f, hi, hsl⟩ := hSl s hs
  have hi2 : s_1.fieldFound? C0 (T s).2.1 (T s).2.2.1 = some (cf, kf, fi, f) := by rw [← hT]; exact hi
  have hlay := hts _ (hin _ (u_in_lay hs))
  unfold u_lay at hlay
  rw [if_neg (by rw [hfin]; decide)] at hlay
  have hst := (u_facts hfc hkC (u_lays hts hin hs) hi).1
  have h6 := u_store hfc hkC hkind hlay hi (by rw [hty s hs, hft]) hx hx2
  refine W.putK hx0 hb (f := f) ⟨hown, hts _ hlink, ⟨_, _, _, hi2⟩, hst⟩ (by rw [q2]; exact h6) q1 q3 (by rw [hsl]; exact k2_hasslot (q4 s hs)) rfl rfl hd fun H' e1 e2 e3 => ?_
  rw [hsl] at e1 ⊢
  refine kk p l e s_1 m args below meth c C1 H' _ ls (hW.put ho (by omega) e3 ?_) (hS.put e2 e3 (zad_ge _ _ _ _)) hl
  unfold zat
  rw [if_pos hk20]
  refine ⟨_, hc, t_OB.to (V := updV (zvl G.1 μ k b i) s (.int x)) ⟨_, e1, q2, q3, t_set q4 hap hs (.int x)⟩ (fun j hj => ?_)⟩
  by_cases hjs : j = s
  · subst hjs
    rw [hv, up_self]
    simp [updV]
  · rw [zvl_up_s hjs (by omega)]
    simp [updV, hjs]
theorem zln_le (k : Nat) : zln k ≤ 3000 := by
  unfold zln
  split <;> omega
theorem v_iald {k b i j : Nat} {x : Int32} {v : Value} (hd : decode Y.2.1 pc = .ok (.iaload, 1)) (hn : pc + 1 = n) (ho : zok k b i) (hk : 20 ≤ k) (hty : zty k = .int) (hx : x = nI j) (hj : j < zln k) (hv : zvl G.1 μ k b i j = v) (kk : V G Y R Qf n L (v :: st) μ cells slots) : V G Y R Qf pc L (.int x :: .ref (zad G.1 k b i) :: st) μ cells slots := by
  subst hn; subst hx; intro p l e s m args below meth c C H locs ls hW hS hl
  have ha := hW k b i ho
  unfold zat at ha
  rw [if_neg (by omega)] at ha
  have hj31 : j < 2 ^ 31 := by have := zln_le k; omega
  have hin : ¬ (nI j < 0 ∨ (arrV (G.2.2 k) (zln k) (zvl G.1 μ k b i)).slots.size ≤ (nI j).toNatClampNeg) := by
    rw [arrV_size, nI_clamp hj31]
    exact fun h => h.elim (nI_pos hj31) (fun h => by omega)
  have hA : ArrOfT s (G.2.2 k) (zty k) := C.2.2.2.2.2.2.2.1.2.1 k hk (zok_lt ho).1
  exact W.iald (v := v) C.1 C.2.1 ha (hty ▸ hA _ _) (fun q => by cases q) hin (by rw [nI_clamp hj31, arrV_read _ _ hj, hv]) rfl rfl hd (kk p l e s m args below meth c C H locs ls hW hS hl)
theorem v_cald {k b i j : Nat} {x : Int32} {v : Value} (hd : decode Y.2.1 pc = .ok (.caload, 1)) (hn : pc + 1 = n) (ho : zok k b i) (hk : 20 ≤ k) (hty : zty k = .char) (hx : x = nI j) (hj : j < zln k) (hv : zvl G.1 μ k b i j = v) (kk : V G Y R Qf n L (v :: st) μ cells slots) : V G Y R Qf pc L (.int x :: .ref (zad G.1 k b i) :: st) μ cells slots := by
  subst hn; subst hx; intro p l e s m args below meth c C H locs ls hW hS hl
  have ha := hW k b i ho
  unfold zat at ha
  rw [if_neg (by omega)] at ha
  have hj31 : j < 2 ^ 31 := by have := zln_le k; omega
  have hin : ¬ (nI j < 0 ∨ (arrV (G.2.2 k) (zln k) (zvl G.1 μ k b i)).slots.size ≤ (nI j).toNatClampNeg) := by
    rw [arrV_size, nI_clamp hj31]
    exact fun h => h.elim (nI_pos hj31) (fun h => by omega)
  have hA : ArrOfT s (G.2.2 k) (zty k) := C.2.2.2.2.2.2.2.1.2.1 k hk (zok_lt ho).1
  exact W.cald (v := v) C.1 C.2.1 ha (hty ▸ hA _ _) (fun q => by cases q) hin (by rw [nI_clamp hj31, arrV_read _ _ hj, hv]) rfl rfl hd (kk p l e s m args below meth c C H locs ls hW hS hl)
theorem v_aald {k b i j : Nat} {x : Int32} {v : Value} (hd : decode Y.2.1 pc = .ok (.aaload, 1)) (hn : pc + 1 = n) (ho : zok k b i) (hk : 20 ≤ k) (hty : (zty k).isReference = true) (hx : x = nI j) (hj : j < zln k) (hv : zvl G.1 μ k b i j = v) (kk : V G Y R Qf n L (v :: st) μ cells slots) : V G Y R Qf pc L (.int x :: .ref (zad G.1 k b i) :: st) μ cells slots := by
  subst hn; subst hx; intro p l e s m args below meth c C H locs ls hW hS hl
  have ha := hW k b i ho
  unfold zat at ha
  rw [if_neg (by omega)] at ha
  have hj31 : j < 2 ^ 31 := by have := zln_le k; omega
  have hin : ¬ (nI j < 0 ∨ (arrV (G.2.2 k) (zln k) (zvl G.1 μ k b i)).slots.size ≤ (nI j).toNatClampNeg) := by
    rw [arrV_size, nI_clamp hj31]
    exact fun h => h.elim (nI_pos hj31) (fun h => by omega)
  have hA : ArrOfT s (G.2.2 k) (zty k) := C.2.2.2.2.2.2.2.1.2.1 k hk (zok_lt ho).1
  exact W.aald (v := v) C.1 C.2.1 ha (hA _ _) hty (fun q => by cases q) hin (by rw [nI_clamp hj31, arrV_read _ _ hj, hv]) rfl rfl hd (kk p l e s m args below meth c C H locs ls hW hS hl)
theorem v_lald {k b i j : Nat} {x : Int32} {v : Value} (hd : decode Y.2.1 pc = .ok (.laload, 1)) (hn : pc + 1 = n) (ho : zok k b i) (hk : 20 ≤ k) (hty : zty k = .long) (hx : x = nI j) (hj : j < zln k) (hv : zvl G.1 μ k b i j = v) (kk : V G Y R Qf n L (v :: st) μ cells slots) : V G Y R Qf pc L (.int x :: .ref (zad G.1 k b i) :: st) μ cells slots := by
  subst hn; subst hx; intro p l e s m args below meth c C H locs ls hW hS hl
  have ha := hW k b i ho
  unfold zat at ha
  rw [if_neg (by omega)] at ha
  have hj31 : j < 2 ^ 31 := by have := zln_le k; omega
  have hin : ¬ (nI j < 0 ∨ (arrV (G.2.2 k) (zln k) (zvl G.1 μ k b i)).slots.size ≤ (nI j).toNatClampNeg) := by
    rw [arrV_size, nI_clamp hj31]
    exact fun h => h.elim (nI_pos hj31) (fun h => by omega)
  have hA : ArrOfT s (G.2.2 k) (zty k) := C.2.2.2.2.2.2.2.1.2.1 k hk (zok_lt ho).1
  exact W.lald (v := v) C.1 C.2.1 ha (hty ▸ hA _ _) (fun q => by cases q) hin (by rw [nI_clamp hj31, arrV_read _ _ hj, hv]) rfl rfl hd (kk p l e s m args below meth c C H locs ls hW hS hl)
theorem v_dald {k b i j : Nat} {x : Int32} {v : Value} (hd : decode Y.2.1 pc = .ok (.daload, 1)) (hn : pc + 1 = n) (ho : zok k b i) (hk : 20 ≤ k) (hty : zty k = .double) (hx : x = nI j) (hj : j < zln k) (hv : zvl G.1 μ k b i j = v) (kk : V G Y R Qf n L (v :: st) μ cells slots) : V G Y R Qf pc L (.int x :: .ref (zad G.1 k b i) :: st) μ cells slots := by
  subst hn; subst hx; intro p l e s m args below meth c C H locs ls hW hS hl
  have ha := hW k b i ho
  unfold zat at ha
  rw [if_neg (by omega)] at ha
  have hj31 : j < 2 ^ 31 := by have := zln_le k; omega
  have hin : ¬ (nI j < 0 ∨ (arrV (G.2.2 k) (zln k) (zvl G.1 μ k b i)).slots.size ≤ (nI j).toNatClampNeg) := by
    rw [arrV_size, nI_clamp hj31]
    exact fun h => h.elim (nI_pos hj31) (fun h => by omega)
  have hA : ArrOfT s (G.2.2 k) (zty k) := C.2.2.2.2.2.2.2.1.2.1 k hk (zok_lt ho).1
  exact W.dald (v := v) C.1 C.2.1 ha (hty ▸ hA _ _) (fun q => by cases q) hin (by rw [nI_clamp hj31, arrV_read _ _ hj, hv]) rfl rfl hd (kk p l e s m args below meth c C H locs ls hW hS hl)
theorem v_iast {k b i j : Nat} {x : Int32} {y : Int32} (hd : decode Y.2.1 pc = .ok (.iastore, 1)) (hn : pc + 1 = n) (ho : zok k b i) (hk : 20 ≤ k) (h36 : k ≠ 36) (hty : zty k = .int) (hx : x = nI j) (hj : j < zln k) (hv : ∀ μ' : St, zvl G.1 μ' k b i j = .int (μ' k b i j)) (kk : V G Y R Qf n L st (up μ k b i j y) cells slots) : V G Y R Qf pc L (.int y :: .int x :: .ref (zad G.1 k b i) :: st) μ cells slots := by
  subst hn; subst hx; intro p l e s m args below meth c C H locs ls hW hS hl
  have ha := hW k b i ho
  unfold zat at ha
  rw [if_neg (by omega)] at ha
  have hj31 : j < 2 ^ 31 := by have := zln_le k; omega
  have hin : ¬ (nI j < 0 ∨ (arrV (G.2.2 k) (zln k) (zvl G.1 μ k b i)).slots.size ≤ (nI j).toNatClampNeg) := by
    rw [arrV_size, nI_clamp hj31]
    exact fun h => h.elim (nI_pos hj31) (fun h => by omega)
  have hA : ArrOfT s (G.2.2 k) (zty k) := C.2.2.2.2.2.2.2.1.2.1 k hk (zok_lt ho).1
  refine W.iast C.1 C.2.1 ha (hty ▸ hA _ _) (fun q => by cases q) hin rfl rfl hd fun H' e1 e2 e3 => ?_
  skip
  refine kk p l e s m args below meth c C H' _ ls (hW.put ho h36 e3 ?_) (hS.put e2 e3 (zad_ge _ _ _ _)) hl
  unfold zat
  rw [if_neg (by omega), e1, nI_clamp hj31, arrV_store]
  congr 2
  funext q
  by_cases hq : q = j
  · subst hq
    rw [hv, up_self]
    simp [updV]
  · rw [zvl_up_s hq h36]
    simp [updV, hq]
theorem v_cast {k b i j : Nat} {x : Int32} {y : Int32} (hd : decode Y.2.1 pc = .ok (.castore, 1)) (hn : pc + 1 = n) (ho : zok k b i) (hk : 20 ≤ k) (h36 : k ≠ 36) (hty : zty k = .char) (hx : x = nI j) (hj : j < zln k) (hv : ∀ μ' : St, zvl G.1 μ' k b i j = .int (μ' k b i j)) (hna : narrow .char (.int y) = .int y) (kk : V G Y R Qf n L st (up μ k b i j y) cells slots) : V G Y R Qf pc L (.int y :: .int x :: .ref (zad G.1 k b i) :: st) μ cells slots := by
  subst hn; subst hx; intro p l e s m args below meth c C H locs ls hW hS hl
  have ha := hW k b i ho
  unfold zat at ha
  rw [if_neg (by omega)] at ha
  have hj31 : j < 2 ^ 31 := by have := zln_le k; omega
  have hin : ¬ (nI j < 0 ∨ (arrV (G.2.2 k) (zln k) (zvl G.1 μ k b i)).slots.size ≤ (nI j).toNatClampNeg) := by
    rw [arrV_size, nI_clamp hj31]
    exact fun h => h.elim (nI_pos hj31) (fun h => by omega)
  have hA : ArrOfT s (G.2.2 k) (zty k) := C.2.2.2.2.2.2.2.1.2.1 k hk (zok_lt ho).1
  refine W.cast C.1 C.2.1 ha (hty ▸ hA _ _) (fun q => by cases q) hin rfl rfl hd fun H' e1 e2 e3 => ?_
  rw [hna] at e1
  refine kk p l e s m args below meth c C H' _ ls (hW.put ho h36 e3 ?_) (hS.put e2 e3 (zad_ge _ _ _ _)) hl
  unfold zat
  rw [if_neg (by omega), e1, nI_clamp hj31, arrV_store]
  congr 2
  funext q
  by_cases hq : q = j
  · subst hq
    rw [hv, up_self]
    simp [updV]
  · rw [zvl_up_s hq h36]
    simp [updV, hq]
theorem v_last {k b i j : Nat} {x : Int32} {y : Int32} (hd : decode Y.2.1 pc = .ok (.lastore, 1)) (hn : pc + 1 = n) (ho : zok k b i) (hk : 20 ≤ k) (h36 : k ≠ 36) (hty : zty k = .long) (hx : x = nI j) (hj : j < zln k) (hv : ∀ μ' : St, zvl G.1 μ' k b i j = .long ((μ' k b i j)).toInt64) (kk : V G Y R Qf n L st (up μ k b i j y) cells slots) : V G Y R Qf pc L (.long y.toInt64 :: .int x :: .ref (zad G.1 k b i) :: st) μ cells slots := by
  subst hn; subst hx; intro p l e s m args below meth c C H locs ls hW hS hl
  have ha := hW k b i ho
  unfold zat at ha
  rw [if_neg (by omega)] at ha
  have hj31 : j < 2 ^ 31 := by have := zln_le k; omega
  have hin : ¬ (nI j < 0 ∨ (arrV (G.2.2 k) (zln k) (zvl G.1 μ k b i)).slots.size ≤ (nI j).toNatClampNeg) := by
    rw [arrV_size, nI_clamp hj31]
    exact fun h => h.elim (nI_pos hj31) (fun h => by omega)
  have hA : ArrOfT s (G.2.2 k) (zty k) := C.2.2.2.2.2.2.2.1.2.1 k hk (zok_lt ho).1
  refine W.last C.1 C.2.1 ha (hty ▸ hA _ _) (fun q => by cases q) hin rfl rfl hd fun H' e1 e2 e3 => ?_
  skip
  refine kk p l e s m args below meth c C H' _ ls (hW.put ho h36 e3 ?_) (hS.put e2 e3 (zad_ge _ _ _ _)) hl
  unfold zat
  rw [if_neg (by omega), e1, nI_clamp hj31, arrV_store]
  congr 2
  funext q
  by_cases hq : q = j
  · subst hq
    rw [hv, up_self]
    simp [updV]
  · rw [zvl_up_s hq h36]
    simp [updV, hq]
end VRows
end
section
/-! ===== CONTRACTS OVER THE STORE: a method's start and ends, calls, throws, handlers ===== -/
def QcP (G : Gl) (P : Option Value → St → Prop) : Array Value → State → Outcome → State → Prop := fun _ st oc t => (∃ v μ', oc = .returned v ∧ P v μ' ∧ Wd G μ' t.heap) ∧ va_F (fun q => G.1 ≤ q) st t
def XcP (G : Gl) (X : String → St → Prop) : String → State → State → Prop := fun E st t => (∃ μ', X E μ' ∧ Wd G μ' t.heap) ∧ va_F (fun q => G.1 ≤ q) st t
/-- what a method owes at its end -/
def QM (G : Gl) (Y : MD) (P : Option Value → St → Prop) (X : String → St → Prop) : List Frame → Array Value → State → State → Prop := fun below args s => vx_MQ below (QcP G P) (XcP G X) args s Y.2.2.2.2.1.cells Y.2.2.2.2.1.slots (fun q => G.1 ≤ q)
def wsC (Y : MD) : List Cond := Cond.code Y.1 Y.2.1 Y.2.2.1 Y.2.2.2.1 :: GW
def wsH (Y : MD) : List Cond := Cond.codeWith Y.1 Y.2.1 Y.2.2.1 Y.2.2.2.1 Y.2.2.2.2.2 :: GW
/-- THE CONTRACT of a method at given arguments and store: it returns with P, or throws with X -/
def Con (G : Gl) (Y : MD) (av : List Value) (μ : St) (P : Option Value → St → Prop) (X : String → St → Prop) : Prop := ∀ l : Launch, l.stackTraces = false → vx_Met l Y.1 (wsC Y) Y.2.2.2.2.1 (va_Pc av (fun U => Wd G μ U.heap ∧ kst G U)) (QcP G P) (XcP G X) Y.2.2.2.2.1.cells Y.2.2.2.2.1.slots (fun q => G.1 ≤ q)
def ConH (G : Gl) (Y : MD) (av : List Value) (μ : St) (P : Option Value → St → Prop) (X : String → St → Prop) : Prop := ∀ l : Launch, l.stackTraces = false → vx_Met l Y.1 (wsH Y) Y.2.2.2.2.1 (va_Pc av (fun U => Wd G μ U.heap ∧ kst G U)) (QcP G P) (XcP G X) Y.2.2.2.2.1.cells Y.2.2.2.2.1.slots (fun q => G.1 ≤ q)
def noX : String → St → Prop := fun _ _ => False
theorem con_of {G : Gl} {Y : MD} {av : List Value} {μ : St} {P : Option Value → St → Prop} {X : String → St → Prop} (hp : plainName Y.1.cls = true) (hh : Y.2.2.2.2.2 = []) (hn : (lg_sl av).length ≤ Y.2.2.1) (h : V G Y Y.2.2.2.2.1 (QM G Y P X) 0 (lv_args 0 av) [] μ 0 0) : Con G Y av μ P X := by
  intro l hlt
  refine vx_ofW (cc := Y.2.1) (maxL := Y.2.2.1) (ret := Y.2.2.2.1) (ws' := GW) hp rfl ?_
  intro p e s m args below meth c s₁ B hml hno hv
  obtain ⟨rfl, hW, hK⟩ := hv
  have hts := atoms_spec (ws := wsC Y) B.pre
  have hl := lv_entry av (n := Y.2.2.1) hn
  rw [lg_entry_eq]
  refine h p l e s m av.toArray below meth c ⟨B.exec, B.bytes, B.returns, hml, findClass_of_methodNamed B.named, B.notSynchronized, fun w hw => hts w (List.mem_cons_of_mem _ hw), hK, hlt, ?_⟩ s.heap [] _ hW va_S.rf hl
  rw [hh]
  exact List.eq_nil_iff_forall_not_mem.mpr (fun x hx => hno x hx)
theorem conH_of {G : Gl} {Y : MD} {av : List Value} {μ : St} {P : Option Value → St → Prop} {X : String → St → Prop} (hp : plainName Y.1.cls = true) (hn : (lg_sl av).length ≤ Y.2.2.1) (h : V G Y Y.2.2.2.2.1 (QM G Y P X) 0 (lv_args 0 av) [] μ 0 0) : ConH G Y av μ P X := by
  intro l hlt
  refine vx_ofWH (cc := Y.2.1) (maxL := Y.2.2.1) (ret := Y.2.2.2.1) (hh := Y.2.2.2.2.2) (ws' := GW) hp rfl ?_
  intro p e s m args below meth c s₁ B hml hv
  obtain ⟨rfl, hW, hK⟩ := hv
  have hts := atoms_spec (ws := wsH Y) B.pre
  have hl := lv_entry av (n := Y.2.2.1) hn
  rw [lg_entry_eq]
  exact h p l e s m av.toArray below meth c ⟨B.exec, B.bytes, B.returns, hml, findClass_of_methodNamed B.named, B.notSynchronized, fun w hw => hts w (List.mem_cons_of_mem _ hw), hK, hlt, vx_table (x := Y.1) B (hts _ List.mem_cons_self)⟩ s.heap [] _ hW va_S.rf hl
section VEnds
variable {G : Gl} {Y : MD} {R : Room} {Qf : List Frame → Array Value → State → State → Prop} {pc n : Nat} {L : List (Nat × Value)} {st : List Value} {μ : St} {cells slots : Nat} {P : Option Value → St → Prop} {X : String → St → Prop}
theorem v_iret {x : Int32} (hd : decode Y.2.1 pc = .ok (.ireturn, 1)) (hr : Y.2.2.2.1 = some .int) (hc : cells ≤ Y.2.2.2.2.1.cells) (hs : slots ≤ Y.2.2.2.2.1.slots) (h : P (some (.int x)) μ) : V G Y R (QM G Y P X) pc L [.int x] μ cells slots := by
  intro p l e s m args below meth c C H locs ls hW hS hl
  have hlocks := C.2.2.2.2.2.1
  exact W.widen hc hs (vx_ret (W.iret C.1 C.2.1 (C.2.2.1.trans hr) (fun t ht hWm => ⟨⟨_, μ, rfl, h, by rw [ht]; exact hW⟩, hS.F ht⟩) hS.2.2 hd))
theorem v_zret {x : Int32} {ft : FieldType} (hd : decode Y.2.1 pc = .ok (.ireturn, 1)) (hr : Y.2.2.2.1 = some ft) (hnw : narrow ft (.int x) = .int x) (hc : cells ≤ Y.2.2.2.2.1.cells) (hs : slots ≤ Y.2.2.2.2.1.slots) (h : P (some (.int x)) μ) : V G Y R (QM G Y P X) pc L [.int x] μ cells slots := by
  intro p l e s m args below meth c C H locs ls hW hS hl
  have hlocks := C.2.2.2.2.2.1
  exact W.widen hc hs (vx_ret (W.zret C.1 C.2.1 (C.2.2.1.trans hr) hnw (fun t ht hWm => ⟨⟨_, μ, rfl, h, by rw [ht]; exact hW⟩, hS.F ht⟩) hS.2.2 hd))
theorem v_vret (hd : decode Y.2.1 pc = .ok (.return_, 1)) (hr : Y.2.2.2.1 = none) (hc : cells ≤ Y.2.2.2.2.1.cells) (hs : slots ≤ Y.2.2.2.2.1.slots) (h : P none μ) : V G Y R (QM G Y P X) pc L [] μ cells slots := by
  intro p l e s m args below meth c C H locs ls hW hS hl
  have hlocks := C.2.2.2.2.2.1
  exact W.widen hc hs (vx_ret (W.vret C.1 C.2.1 (C.2.2.1.trans hr) (fun t ht hWm => ⟨⟨_, μ, rfl, h, by rw [ht]; exact hW⟩, hS.F ht⟩) hS.2.2 hd))
theorem v_dret {x : UInt64} (hd : decode Y.2.1 pc = .ok (.dreturn, 1)) (hr : Y.2.2.2.1 = some .double) (hc : cells ≤ Y.2.2.2.2.1.cells) (hs : slots ≤ Y.2.2.2.2.1.slots) (h : P (some (.double x)) μ) : V G Y R (QM G Y P X) pc L [.double x] μ cells slots := by
  intro p l e s m args below meth c C H locs ls hW hS hl
  have hlocks := C.2.2.2.2.2.1
  exact W.widen hc hs (vx_ret (W.dret C.1 C.2.1 (C.2.2.1.trans hr) (fun t ht hWm => ⟨⟨_, μ, rfl, h, by rw [ht]; exact hW⟩, hS.F ht⟩) hS.2.2 hd))
theorem v_aret {v : Value} {rt : FieldType} (hd : decode Y.2.1 pc = .ok (.areturn, 1)) (hr : Y.2.2.2.1 = some rt) (hrt : (∃ n, rt = .object n) ∨ ∃ t, rt = .array t) (hv : v = .null ∨ ∃ a, v = .ref a) (hc : cells ≤ Y.2.2.2.2.1.cells) (hs : slots ≤ Y.2.2.2.2.1.slots) (h : P (some v) μ) : V G Y R (QM G Y P X) pc L [v] μ cells slots := by
  intro p l e s m args below meth c C H locs ls hW hS hl
  have hlocks := C.2.2.2.2.2.1
  exact W.widen hc hs (vx_ret (W.aret C.1 C.2.1 (C.2.2.1.trans hr) hrt hv (fun t ht hWm => ⟨⟨_, μ, rfl, h, by rw [ht]; exact hW⟩, hS.F ht⟩) hS.2.2 hd))
/-- where a method has thrown, over the store -/
def VX (G : Gl) (Y : MD) (R : Room) (Qf : List Frame → Array Value → State → State → Prop) (pc : Nat) (L : List (Nat × Value)) (st : List Value) (E : String) (μ : St) (cells slots : Nat) : Prop :=
  ∀ (p : Program) (l : Launch) (e : Env) (s : State) (m : MethodId) (args : Array Value) (below : List Frame) (meth : Method) (c : Code), Cx G Y p l s m args meth c → ∀ (H : Heap) (locs : List Loc) (ls : Array Slot) (ce : Cell) (q : Addr), Wd G μ H → va_S (fun q => G.1 ≤ q) s.heap H locs → lv_has ls Y.2.2.1 L → H[q]? = some ce → ce.vm = .none → s.vm.findClass E = some ce.cls → vx_W p l e R s m args below meth c H locs cells slots (Qf below args s) (F0 m pc ls st) q
/-- the words and numbers of a call of an instance method: a place in the pool of a class -/
def LKV (own : String) (index : Nat) (Z : MD) (k n : Nat) : Prop := k < 20 ∧ (∃ (T : u_T) (N : Nat), vwCl[k]? = some (Z.1.cls, T, N)) ∧ Cond.methodLink own index Z.1 ∈ GW ∧ Cond.instanceMethod Z.1 ∈ GW ∧ Cond.selects Z.1.cls Z.1 Z.1 ∈ GW ∧ Cond.initialized Z.1.cls ∈ GW ∧ Cond.code Z.1 Z.2.1 Z.2.2.1 Z.2.2.2.1 ∈ GW ∧ Z.1.cls ≠ "java/lang/invoke/MethodHandle" ∧ Z.1.cls ≠ "java/lang/invoke/VarHandle" ∧ (parseMethodDescriptor Z.1.desc).map (fun d => d.parameters.length) = some n
def LKS (own : String) (index : Nat) (Z : MD) (n : Nat) : Prop := Cond.methodLink own index Z.1 ∈ GW ∧ Cond.static Z.1 ∈ GW ∧ Cond.initialized Z.1.cls ∈ GW ∧ Cond.code Z.1 Z.2.1 Z.2.2.1 Z.2.2.2.1 ∈ GW ∧ Z.1.cls ≠ "java/lang/invoke/MethodHandle" ∧ Z.1.cls ≠ "java/lang/invoke/VarHandle" ∧ (parseMethodDescriptor Z.1.desc).map (fun d => d.parameters.length) = some n
def LKH (own : String) (index : Nat) (Z : MD) (n : Nat) : Prop := Cond.methodLink own index Z.1 ∈ GW ∧ Cond.static Z.1 ∈ GW ∧ Cond.initialized Z.1.cls ∈ GW ∧ Cond.codeWith Z.1 Z.2.1 Z.2.2.1 Z.2.2.2.1 Z.2.2.2.2.2 ∈ GW ∧ Z.1.cls ≠ "java/lang/invoke/MethodHandle" ∧ Z.1.cls ≠ "java/lang/invoke/VarHandle" ∧ (parseMethodDescriptor Z.1.desc).map (fun d => d.parameters.length) = some n
def LKN (own : String) (index : Nat) (host : String) (Z : MD) (n : Nat) : Prop := Cond.methodLinkNest own index Z.1 host ∈ lw_tbl ∧ Cond.static Z.1 ∈ GW ∧ Cond.initialized Z.1.cls ∈ GW ∧ Cond.code Z.1 Z.2.1 Z.2.2.1 Z.2.2.2.1 ∈ GW ∧ Z.1.cls ≠ "java/lang/invoke/MethodHandle" ∧ Z.1.cls ≠ "java/lang/invoke/VarHandle" ∧ (parseMethodDescriptor Z.1.desc).map (fun d => d.parameters.length) = some n
/-- the room of a call -/
def RMk (R : Room) (Z : MD) (cells slots : Nat) : Prop := Z.2.2.2.2.1.frames + 1 ≤ R.frames ∧ 8 + (Z.2.2.1 + 11) + Z.2.2.2.2.1.locals ≤ R.locals ∧ cells + Z.2.2.2.2.1.cells ≤ R.cells ∧ slots + Z.2.2.2.2.1.slots ≤ R.slots
theorem GW_pay {args : Array Value} {s : State} (h : ∀ w ∈ GW, w.before args s = true) {w : Cond} (hw : w ∈ GW) (a' : Array Value) (U : State) (hW : s.WarmedH U.vm) : w.before a' U = true := word_at hW (good_of_word (GW_good hw)) (h w hw)
theorem va_Pc_blind {G : Gl} {av : List Value} {μ : St} : FrameBlind (va_Pc av (fun U => Wd G μ U.heap ∧ kst G U)) := fun a U g mk h => ⟨h.1, h.2.1, h.2.2.calling⟩
/-- a call's run, turned to the store -/
theorem v_run {Z : MD} {index mc ms : Nat} {rest st0 : List Value} {Pz : Option Value → St → Prop} {Xz : String → St → Prop} {a : Array Value} {p : Program} {l : Launch} {e : Env} {s : State} {m : MethodId} {args : Array Value} {below : List Frame} {meth : Method} {c : Code} (C : Cx G Y p l s m args meth c) {H : Heap} {locs : List Loc} {ls : Array Slot} (hS : va_S (fun q => G.1 ≤ q) s.heap H locs) (hl : lv_has ls Y.2.2.1 L)
    (hr : vx_Run p l e R s m args below meth c H locs cells slots mc ms (F0 m pc ls st0) rest (QcP G Pz a) (XcP G Xz) (fun q => G.1 ≤ q))
    (kk : ∀ v μ', Pz v μ' → V G Y R Qf (pc + 3) L (v.toList ++ rest) μ' (cells + mc) (slots + ms))
    (kx : ∀ E μ', Xz E μ' → VX G Y R Qf pc L rest E μ' (cells + mc) (slots + ms)) : W p l e R s m args below meth c H locs cells slots (Qf below args s) (F0 m pc ls st0) := by
  intro T hT X'
  have hA : ∀ q : Nat, q < H.size → (fun q => G.1 ≤ q) q → (fun q => G.1 ≤ q) q := fun _ _ h => h
  rcases hr T hT X' with ⟨v, st₀, t, T', L', h0, X2, hL, e1, e2, ⟨⟨v', μ', hv, hp, hb⟩, hF⟩, st⟩ | ⟨q, st₀, t, T', L', E, ce, h0, X2, hL, e1, e2, ⟨⟨μ', hp, hb⟩, hF⟩, hce, hcv, hcl, st⟩
  · cases hv
    obtain ⟨k1, k2, k3⟩ := vx_keep h0 e1 hS hA (fun _ h => h) hL hF
    obtain ⟨t2, a1, b1⟩ := kk v μ' hp p l e s m args below meth c C T'.heap (locs ++ L') ls (by rw [e1]; exact hb) k3 hl T' rfl X2
    exact ⟨t2, st t2 a1, b1⟩
  · obtain ⟨k1, k2, k3⟩ := vx_keep h0 e1 hS hA (fun _ h => h) hL hF
    obtain ⟨t2, a1, b1⟩ := kx E μ' hp p l e s m args below meth c C T'.heap (locs ++ L') ls ce q (by rw [e1]; exact hb) k3 hl (by rw [e1]; exact hce) hcv hcl T' rfl X2
    exact ⟨t2, st.trans a1, b1⟩
theorem v_callV {Z : MD} {index k b i nA : Nat} {As rest st0 : List Value} {Pz : Option Value → St → Prop} {Xz : String → St → Prop} (hd : decode Y.2.1 pc = .ok (.invokevirtual index, 3)) (hn : pc + 3 = n) (hL : LKV Y.1.cls index Z k nA) (hlen : As.length = nA) (hst : st0 = As.reverse ++ .ref (zad G.1 k b i) :: rest) (hrest : (rest.map fun v => v.category).sum ≤ 8) (hRm : RMk R Z cells slots) (ho : zok k b i) (hM : Con G Z (.ref (zad G.1 k b i) :: As) μ Pz Xz)
    (kk : ∀ v μ', Pz v μ' → V G Y R Qf n L (v.toList ++ rest) μ' (cells + Z.2.2.2.2.1.cells) (slots + Z.2.2.2.2.1.slots)) (kx : ∀ E μ', Xz E μ' → VX G Y R Qf pc L rest E μ' (cells + Z.2.2.2.2.1.cells) (slots + Z.2.2.2.2.1.slots)) : V G Y R Qf pc L st0 μ cells slots := by
  subst hn
  intro p l e s m args below meth c C H locs ls hW hS hl
  have C1 := C
  obtain ⟨hx, hb, hrt, hml, hown, hlocks, hts, hK, hlt, htab⟩ := C
  obtain ⟨hk20, ⟨T, N, hcl⟩, w1, w2, w3, w4, w5, n1, n2, hnp⟩ := hL
  obtain ⟨r1, r2, r3, r4⟩ := hRm
  have ha := hW k b i ho
  unfold zat at ha
  rw [if_pos hk20] at ha
  obtain ⟨r, h1, cell, q1, q2, q3, q4⟩ := ha
  have hr : r = (Z.1.cls, T, N) := Option.some.inj (h1.symm.trans hcl)
  subst hr
  obtain ⟨-, hfc, -⟩ := hK.1.1 k _ hcl
  refine v_run (Z := Z) (index := index) C1 hS hl (vx_runV (As := As) (rest := rest) (n := nA) ⟨hx, hb, hml, hown, hts⟩ (hM l hlt) (C := Z.1.cls) ⟨⟨rfl, rfl, r1, r2, fun w hw a' U hWm => ?_, List.mem_cons_self, hts _ w5, hts _ w4, ⟨n1, n2⟩, fun sig h => ?_, hts _ w1⟩, hts _ w2, hts _ w3⟩ ⟨va_Pc_blind, ⟨cell, q1, by rw [q3]; rfl, by rw [q2]; exact hfc⟩, fun U hU hWm => ⟨rfl, by rw [hU]; exact hW, hK.at hWm hU hS⟩⟩ rfl hlen hl.1 hst (lv_room hrest) hd ⟨r3, r4⟩) kk kx
  · rcases List.mem_cons.mp hw with rfl | hw
    · exact GW_pay hts w5 a' U hWm
    · exact GW_pay hts hw a' U hWm
  · rw [h] at hnp
    exact (Option.some.inj hnp).symm
theorem v_callS {Z : MD} {index nA : Nat} {As rest st0 : List Value} {Pz : Option Value → St → Prop} {Xz : String → St → Prop} (hd : decode Y.2.1 pc = .ok (.invokestatic index, 3)) (hn : pc + 3 = n) (hL : LKS Y.1.cls index Z nA) (hlen : As.length = nA) (hst : st0 = As.reverse ++ rest) (hrest : (rest.map fun v => v.category).sum ≤ 8) (hRm : RMk R Z cells slots) (hM : Con G Z As μ Pz Xz)
    (kk : ∀ v μ', Pz v μ' → V G Y R Qf n L (v.toList ++ rest) μ' (cells + Z.2.2.2.2.1.cells) (slots + Z.2.2.2.2.1.slots)) (kx : ∀ E μ', Xz E μ' → VX G Y R Qf pc L rest E μ' (cells + Z.2.2.2.2.1.cells) (slots + Z.2.2.2.2.1.slots)) : V G Y R Qf pc L st0 μ cells slots := by
  subst hn
  intro p l e s m args below meth c C H locs ls hW hS hl
  have C1 := C
  obtain ⟨hx, hb, hrt, hml, hown, hlocks, hts, hK, hlt, htab⟩ := C
  obtain ⟨w1, w2, w4, w5, n1, n2, hnp⟩ := hL
  obtain ⟨r1, r2, r3, r4⟩ := hRm
  refine v_run (Z := Z) (index := index) C1 hS hl (vx_runS (As := As) (rest := rest) (n := nA) ⟨hx, hb, hml, hown, hts⟩ (hM l hlt) ⟨⟨rfl, rfl, r1, r2, fun w hw a' U hWm => ?_, List.mem_cons_self, hts _ w5, hts _ w4, ⟨n1, n2⟩, fun sig h => ?_, hts _ w1⟩, hts _ w2⟩ ⟨va_Pc_blind, fun U hU hWm => ⟨rfl, by rw [hU]; exact hW, hK.at hWm hU hS⟩⟩ rfl hlen hl.1 hst (lv_room hrest) hd ⟨r3, r4⟩) kk kx
  · rcases List.mem_cons.mp hw with rfl | hw
    · exact GW_pay hts w5 a' U hWm
    · exact GW_pay hts hw a' U hWm
  · rw [h] at hnp
    exact (Option.some.inj hnp).symm
theorem v_callH {Z : MD} {index nA : Nat} {As rest st0 : List Value} {Pz : Option Value → St → Prop} {Xz : String → St → Prop} (hd : decode Y.2.1 pc = .ok (.invokestatic index, 3)) (hn : pc + 3 = n) (hL : LKH Y.1.cls index Z nA) (hlen : As.length = nA) (hst : st0 = As.reverse ++ rest) (hrest : (rest.map fun v => v.category).sum ≤ 8) (hRm : RMk R Z cells slots) (hM : ConH G Z As μ Pz Xz)
    (kk : ∀ v μ', Pz v μ' → V G Y R Qf n L (v.toList ++ rest) μ' (cells + Z.2.2.2.2.1.cells) (slots + Z.2.2.2.2.1.slots)) (kx : ∀ E μ', Xz E μ' → VX G Y R Qf pc L rest E μ' (cells + Z.2.2.2.2.1.cells) (slots + Z.2.2.2.2.1.slots)) : V G Y R Qf pc L st0 μ cells slots := by
  subst hn
  intro p l e s m args below meth c C H locs ls hW hS hl
  have C1 := C
  obtain ⟨hx, hb, hrt, hml, hown, hlocks, hts, hK, hlt, htab⟩ := C
  obtain ⟨w1, w2, w4, w5, n1, n2, hnp⟩ := hL
  obtain ⟨r1, r2, r3, r4⟩ := hRm
  refine v_run (Z := Z) (index := index) C1 hS hl (vx_runSX (As := As) (rest := rest) (n := nA) (hh := Z.2.2.2.2.2) ⟨hx, hb, hml, hown, hts⟩ (hM l hlt) ⟨⟨rfl, rfl, r1, r2, fun w hw a' U hWm => ?_, List.mem_cons_self⟩, hts _ w5, hts _ w4, ⟨n1, n2⟩, fun sig h => ?_, hts _ w1, hts _ w2⟩ ⟨va_Pc_blind, fun U hU hWm => ⟨rfl, by rw [hU]; exact hW, hK.at hWm hU hS⟩⟩ rfl hlen hl.1 hst (lv_room hrest) hd ⟨r3, r4⟩) kk kx
  · rcases List.mem_cons.mp hw with rfl | hw
    · exact GW_pay hts w5 a' U hWm
    · exact GW_pay hts hw a' U hWm
  · rw [h] at hnp
    exact (Option.some.inj hnp).symm
/-- caught by the x-th handler of the table; the ones ahead don't take it -/
theorem v_catch {E name : String} {pre suf : List ExceptionTableEntry} {x : ExceptionTableEntry} (hsplit : tableOf Y.2.2.2.2.2 = pre ++ x :: suf) (hpass : ∀ z ∈ pre, z.catchType ≠ 0 ∧ ∃ nm : String, Cond.classLink Y.1.cls z.catchType nm ∈ GW ∧ (E, nm) ∈ zNc) (hx : covers x pc = true) (h0 : x.catchType ≠ 0) (hlink : Cond.classLink Y.1.cls x.catchType name ∈ GW) (hcast : Cond.castable E name ∈ lw_tbl)
    (kk : ∀ q : Nat, V G Y R Qf x.handlerPc L [.ref q] μ cells slots) : VX G Y R Qf pc L st E μ cells slots := by
  intro p l e s m args below meth c C H locs ls ce q hW hS hl hcell hv hcl
  have C1 := C
  obtain ⟨hx0, hb, hrt, hml, hown, hlocks, hts, hK, hlt, htab⟩ := C
  refine vx_catch hown pre x suf (htab.trans hsplit) (fun z hz => ?_) hx h0 (hts _ hlink) (va_Nw.use (w := .castable E name) rfl (hK.2.2.2.2.2.2.1 _ hcast rfl)) hcell hv hcl (kk q p l e s m args below meth c C1 H locs ls hW hS hl)
  obtain ⟨a1, nm, a2, a3⟩ := hpass z hz
  exact Or.inr ⟨a1, nm, hts _ a2, hK.2.2.2.2.2.2.2 _ a3⟩
/-- the words of 'throw new cls(text)' in a class -/
def LT (own cls text : String) (ik is ic : Nat) : Prop := Cond.classLink own ik cls ∈ GW ∧ Cond.initialized cls ∈ GW ∧ Cond.stringRef own is text ∈ lw_tbl ∧ Bundle.fit cls = true ∧ (∀ n ∈ ["java/lang/RuntimeException", "java/lang/Exception"], Bundle.fit n = true) ∧ (∀ w ∈ vx_atS own ic cls ["java/lang/RuntimeException", "java/lang/Exception"], w ∈ lw_tbl ∧ (goodWord w = true ∨ zNw w = true)) ∧ ∀ w ∈ Cond.classLink own ik cls :: Cond.initialized cls :: vx_atS own ic cls ["java/lang/RuntimeException", "java/lang/Exception"], vx_ot w = true
theorem v_throw {cls text : String} {ik is ic : Nat} (hT : LT Y.1.cls cls text ik is ic) (hh : Y.2.2.2.2.2 = []) (d0 : decode Y.2.1 pc = .ok (.new ik, 3)) (d3 : decode Y.2.1 (pc + 3) = .ok (.dup, 1)) (d4 : decode Y.2.1 (pc + 4) = .ok (.ldc is, 2)) (d6 : decode Y.2.1 (pc + 6) = .ok (.invokespecial ic, 3)) (d9 : decode Y.2.1 (pc + 9) = .ok (.athrow, 1))
    (hR : 5 < R.frames ∧ 82 ≤ R.locals ∧ cells + 1 ≤ R.cells ∧ slots + 6 ≤ R.slots) (hc : cells + 1 ≤ Y.2.2.2.2.1.cells) (hs : slots + 6 ≤ Y.2.2.2.2.1.slots) (h : X cls μ) : V G Y R (QM G Y P X) pc L [] μ cells slots := by
  intro p l e s m args below meth c C H locs ls hW hS hl
  obtain ⟨hx, hb, hrt, hml, hown, hlocks, hts, hK, hlt, htab⟩ := C
  obtain ⟨t1, t2, t3, t4, t5, t6, t7⟩ := hT
  obtain ⟨k1, k2, k3, k4, k5, k6, k7, k8⟩ := hK
  obtain ⟨sa, hsa⟩ := k6 _ _ _ t3
  refine vx_throwS (names := ["java/lang/RuntimeException", "java/lang/Exception"]) (text := text) (sa := sa) (A := fun q => G.1 ≤ q) hx hb hlt hown t4 t5 (hts _ t1) (hts _ t2) hsa (fun w hw => ?_) t7 k4 k5 hS (hl.1.trans hml.symm) d0 d3 d4 d6 d9 (fun x hx => ?_) hR.1 (by simpa using hR.2.1) hR.2.2.1 hR.2.2.2 hlocks (fun t ht hz hq => ?_) hS.2.2 hc hs
  · obtain ⟨w1, w2 | w2⟩ := t6 w hw
    · exact hts _ (List.mem_filter.mpr ⟨w1, w2⟩)
    · have h9 := k7 w w1 w2
      cases w <;> first | exact va_Nw.use rfl h9 | cases w2
  · rw [htab, hh] at hx
    cases hx
  · exact ⟨⟨μ, h, hW.kept hq⟩, Nat.le_trans hS.1 hz, fun q q1 q2 => by rw [hq q (Nat.lt_of_lt_of_le q1 hS.1)]; exact hS.2.1 q q1 q2⟩
theorem v_throwW {cls text : String} {ik is ic : Nat} (hT : LT Y.1.cls cls text ik is ic) (hh : Y.2.2.2.2.2 = []) (d0 : decode Y.2.1 pc = .ok (.new ik, 3)) (d3 : decode Y.2.1 (pc + 3) = .ok (.dup, 1)) (d4 : decode Y.2.1 (pc + 4) = .ok (.ldc_w is, 3)) (d7 : decode Y.2.1 (pc + 7) = .ok (.invokespecial ic, 3)) (d10 : decode Y.2.1 (pc + 10) = .ok (.athrow, 1))
    (hR : 5 < R.frames ∧ 82 ≤ R.locals ∧ cells + 1 ≤ R.cells ∧ slots + 6 ≤ R.slots) (hc : cells + 1 ≤ Y.2.2.2.2.1.cells) (hs : slots + 6 ≤ Y.2.2.2.2.1.slots) (h : X cls μ) : V G Y R (QM G Y P X) pc L [] μ cells slots := by
  intro p l e s m args below meth c C H locs ls hW hS hl
  obtain ⟨hx, hb, hrt, hml, hown, hlocks, hts, hK, hlt, htab⟩ := C
  obtain ⟨t1, t2, t3, t4, t5, t6, t7⟩ := hT
  obtain ⟨k1, k2, k3, k4, k5, k6, k7, k8⟩ := hK
  obtain ⟨sa, hsa⟩ := k6 _ _ _ t3
  refine vx_throwSW (names := ["java/lang/RuntimeException", "java/lang/Exception"]) (text := text) (sa := sa) (A := fun q => G.1 ≤ q) hx hb hlt hown t4 t5 (hts _ t1) (hts _ t2) hsa (fun w hw => ?_) t7 k4 k5 hS (hl.1.trans hml.symm) d0 d3 d4 d7 d10 (fun x hx => ?_) hR.1 (by simpa using hR.2.1) hR.2.2.1 hR.2.2.2 hlocks (fun t ht hz hq => ?_) hS.2.2 hc hs
  · obtain ⟨w1, w2 | w2⟩ := t6 w hw
    · exact hts _ (List.mem_filter.mpr ⟨w1, w2⟩)
    · have h9 := k7 w w1 w2
      cases w <;> first | exact va_Nw.use rfl h9 | cases w2
  · rw [htab, hh] at hx
    cases hx
  · exact ⟨⟨μ, h, hW.kept hq⟩, Nat.le_trans hS.1 hz, fun q q1 q2 => by rw [hq q (Nat.lt_of_lt_of_le q1 hS.1)]; exact hS.2.1 q q1 q2⟩
theorem Con.mono {Z : MD} {av : List Value} {P' : Option Value → St → Prop} {X' : String → St → Prop} (h : Con G Z av μ P X) (hP : ∀ v μ', P v μ' → P' v μ') (hX : ∀ E μ', X E μ' → X' E μ') : Con G Z av μ P' X' := by
  intro l hl p e ha hc hk s m args below hf happ hp hg
  obtain ⟨n, o, h1, h2, h3, h4⟩ := h l hl p e ha hc hk s m args below hf happ hp hg
  refine ⟨n, o, h1, h2, h3, ?_⟩
  rcases h4 with ⟨⟨⟨v, μ', q1, q2, q3⟩, q4⟩, q5⟩ | ⟨q, q1, E, ce, L, ⟨⟨μ', q2, q3⟩, q4⟩, q5⟩
  · exact Or.inl ⟨⟨⟨v, μ', q1, hP _ _ q2, q3⟩, q4⟩, q5⟩
  · exact Or.inr ⟨q, q1, E, ce, L, ⟨⟨μ', hX _ _ q2, q3⟩, q4⟩, q5⟩
end VEnds
end
