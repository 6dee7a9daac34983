section
-- ===== PART A: goes FIRST, ahead of the names: the tables' words, and 'selects' of the private methods out of them =====
/-- a private method of a class that the tables say can be made, by its rows of tables_1 -/
def lw_okq (q : MethodName × Nat) : Prop := (q.1.cls ≠ "java/lang/invoke/MethodHandle" ∧ q.1.cls ≠ "java/lang/invoke/VarHandle") ∧ Cond.instantiable q.1.cls q.2 ∈ tables_1 ∧ Cond.privateMethod q.1 ∈ tables_1 ∧ Cond.instanceMethod q.1 ∈ tables_1
theorem lw_p0 : lw_okq (⟨"java/lang/Throwable", "fillInStackTrace", "(I)Ljava/lang/Throwable;"⟩, 6) := ⟨⟨by decide +kernel, by decide +kernel⟩, List.mem_of_getElem? (i := 426) (by decide +kernel), List.mem_of_getElem? (i := 424) (by decide +kernel), List.mem_of_getElem? (i := 425) (by decide +kernel)⟩
theorem lw_p1 : lw_okq (⟨"SlopeOperator", "keepRefusal", "(LSlopeOperator$Guest;I)V"⟩, 9) := ⟨⟨by decide +kernel, by decide +kernel⟩, List.mem_of_getElem? (i := 23) (by decide +kernel), List.mem_of_getElem? (i := 692) (by decide +kernel), List.mem_of_getElem? (i := 693) (by decide +kernel)⟩
theorem lw_p2 : lw_okq (⟨"SlopeOperator$Area", "moveRiders", "()I"⟩, 9) := ⟨⟨by decide +kernel, by decide +kernel⟩, List.mem_of_getElem? (i := 31) (by decide +kernel), List.mem_of_getElem? (i := 836) (by decide +kernel), List.mem_of_getElem? (i := 837) (by decide +kernel)⟩
theorem lw_p3 : lw_okq (⟨"SlopeOperator$Area", "moveSkiers", "()I"⟩, 9) := ⟨⟨by decide +kernel, by decide +kernel⟩, List.mem_of_getElem? (i := 31) (by decide +kernel), List.mem_of_getElem? (i := 840) (by decide +kernel), List.mem_of_getElem? (i := 841) (by decide +kernel)⟩
theorem lw_p4 : lw_okq (⟨"SlopeOperator$Area", "turnLifts", "()V"⟩, 9) := ⟨⟨by decide +kernel, by decide +kernel⟩, List.mem_of_getElem? (i := 31) (by decide +kernel), List.mem_of_getElem? (i := 845) (by decide +kernel), List.mem_of_getElem? (i := 846) (by decide +kernel)⟩
theorem lw_p5 : lw_okq (⟨"SlopeOperator$Area", "boardCabin", "(LSlopeOperator$Lift;I)V"⟩, 9) := ⟨⟨by decide +kernel, by decide +kernel⟩, List.mem_of_getElem? (i := 31) (by decide +kernel), List.mem_of_getElem? (i := 853) (by decide +kernel), List.mem_of_getElem? (i := 854) (by decide +kernel)⟩
theorem lw_p6 : lw_okq (⟨"SlopeOperator$Area", "groomPistes", "()V"⟩, 9) := ⟨⟨by decide +kernel, by decide +kernel⟩, List.mem_of_getElem? (i := 31) (by decide +kernel), List.mem_of_getElem? (i := 861) (by decide +kernel), List.mem_of_getElem? (i := 862) (by decide +kernel)⟩
theorem lw_p7 : lw_okq (⟨"SlopeOperator$Area", "closeWornPistes", "()V"⟩, 9) := ⟨⟨by decide +kernel, by decide +kernel⟩, List.mem_of_getElem? (i := 31) (by decide +kernel), List.mem_of_getElem? (i := 869) (by decide +kernel), List.mem_of_getElem? (i := 870) (by decide +kernel)⟩
theorem lw_p8 : lw_okq (⟨"SlopeOperator$Area", "ticksOnLift", "(LSlopeOperator$Lift;I)I"⟩, 9) := ⟨⟨by decide +kernel, by decide +kernel⟩, List.mem_of_getElem? (i := 31) (by decide +kernel), List.mem_of_getElem? (i := 898) (by decide +kernel), List.mem_of_getElem? (i := 899) (by decide +kernel)⟩
theorem lw_p9 : lw_okq (⟨"SlopeOperator$Area", "ticksFromQueue", "(LSlopeOperator$Lift;I)I"⟩, 9) := ⟨⟨by decide +kernel, by decide +kernel⟩, List.mem_of_getElem? (i := 31) (by decide +kernel), List.mem_of_getElem? (i := 905) (by decide +kernel), List.mem_of_getElem? (i := 906) (by decide +kernel)⟩
theorem lw_p10 : lw_okq (⟨"SlopeOperator$Ways", "shorten", "(LSlopeOperator$Area;LSlopeOperator$Guest;)Z"⟩, 1) := ⟨⟨by decide +kernel, by decide +kernel⟩, List.mem_of_getElem? (i := 303) (by decide +kernel), List.mem_of_getElem? (i := 933) (by decide +kernel), List.mem_of_getElem? (i := 934) (by decide +kernel)⟩
theorem lw_p11 : lw_okq (⟨"SlopeOperator$Ways", "shortenFrom", "(II)Z"⟩, 1) := ⟨⟨by decide +kernel, by decide +kernel⟩, List.mem_of_getElem? (i := 303) (by decide +kernel), List.mem_of_getElem? (i := 946) (by decide +kernel), List.mem_of_getElem? (i := 947) (by decide +kernel)⟩
theorem lw_p12 : lw_okq (⟨"SlopeOperator$Ways", "spread", "(LSlopeOperator$Area;LSlopeOperator$Guest;I)I"⟩, 1) := ⟨⟨by decide +kernel, by decide +kernel⟩, List.mem_of_getElem? (i := 303) (by decide +kernel), List.mem_of_getElem? (i := 980) (by decide +kernel), List.mem_of_getElem? (i := 981) (by decide +kernel)⟩
theorem lw_p13 : lw_okq (⟨"SlopeOperator$Input", "isHere", "(CC)Z"⟩, 7) := ⟨⟨by decide +kernel, by decide +kernel⟩, List.mem_of_getElem? (i := 268) (by decide +kernel), List.mem_of_getElem? (i := 1082) (by decide +kernel), List.mem_of_getElem? (i := 1083) (by decide +kernel)⟩
theorem lw_p14 : lw_okq (⟨"SlopeOperator$Input", "takeNumber", "(CC)Z"⟩, 7) := ⟨⟨by decide +kernel, by decide +kernel⟩, List.mem_of_getElem? (i := 268) (by decide +kernel), List.mem_of_getElem? (i := 1086) (by decide +kernel), List.mem_of_getElem? (i := 1087) (by decide +kernel)⟩
theorem lw_p15 : lw_okq (⟨"SlopeOperator$Input", "takeDigit", "(CC)I"⟩, 7) := ⟨⟨by decide +kernel, by decide +kernel⟩, List.mem_of_getElem? (i := 268) (by decide +kernel), List.mem_of_getElem? (i := 1090) (by decide +kernel), List.mem_of_getElem? (i := 1091) (by decide +kernel)⟩
def lw_privs_1 : List (MethodName × Nat) := [(⟨"java/lang/Throwable", "fillInStackTrace", "(I)Ljava/lang/Throwable;"⟩, 6), (⟨"SlopeOperator", "keepRefusal", "(LSlopeOperator$Guest;I)V"⟩, 9), (⟨"SlopeOperator$Area", "moveRiders", "()I"⟩, 9), (⟨"SlopeOperator$Area", "moveSkiers", "()I"⟩, 9), (⟨"SlopeOperator$Area", "turnLifts", "()V"⟩, 9), (⟨"SlopeOperator$Area", "boardCabin", "(LSlopeOperator$Lift;I)V"⟩, 9), (⟨"SlopeOperator$Area", "groomPistes", "()V"⟩, 9), (⟨"SlopeOperator$Area", "closeWornPistes", "()V"⟩, 9), (⟨"SlopeOperator$Area", "ticksOnLift", "(LSlopeOperator$Lift;I)I"⟩, 9), (⟨"SlopeOperator$Area", "ticksFromQueue", "(LSlopeOperator$Lift;I)I"⟩, 9), (⟨"SlopeOperator$Ways", "shorten", "(LSlopeOperator$Area;LSlopeOperator$Guest;)Z"⟩, 1), (⟨"SlopeOperator$Ways", "shortenFrom", "(II)Z"⟩, 1), (⟨"SlopeOperator$Ways", "spread", "(LSlopeOperator$Area;LSlopeOperator$Guest;I)I"⟩, 1), (⟨"SlopeOperator$Input", "isHere", "(CC)Z"⟩, 7), (⟨"SlopeOperator$Input", "takeNumber", "(CC)Z"⟩, 7), (⟨"SlopeOperator$Input", "takeDigit", "(CC)I"⟩, 7)]
theorem lw_r1 : ∀ q ∈ lw_privs_1, lw_okq q := List.forall_mem_cons.mpr ⟨lw_p0, List.forall_mem_cons.mpr ⟨lw_p1, List.forall_mem_cons.mpr ⟨lw_p2, List.forall_mem_cons.mpr ⟨lw_p3, List.forall_mem_cons.mpr ⟨lw_p4, List.forall_mem_cons.mpr ⟨lw_p5, List.forall_mem_cons.mpr ⟨lw_p6, List.forall_mem_cons.mpr ⟨lw_p7, List.forall_mem_cons.mpr ⟨lw_p8, List.forall_mem_cons.mpr ⟨lw_p9, List.forall_mem_cons.mpr ⟨lw_p10, List.forall_mem_cons.mpr ⟨lw_p11, List.forall_mem_cons.mpr ⟨lw_p12, List.forall_mem_cons.mpr ⟨lw_p13, List.forall_mem_cons.mpr ⟨lw_p14, List.forall_mem_cons.mpr ⟨lw_p15, fun _ h => absurd h List.not_mem_nil⟩⟩⟩⟩⟩⟩⟩⟩⟩⟩⟩⟩⟩⟩⟩⟩
theorem lw_p16 : lw_okq (⟨"SlopeOperator$Input", "takeTarget", "(CC)Z"⟩, 7) := ⟨⟨by decide +kernel, by decide +kernel⟩, List.mem_of_getElem? (i := 268) (by decide +kernel), List.mem_of_getElem? (i := 1094) (by decide +kernel), List.mem_of_getElem? (i := 1095) (by decide +kernel)⟩
theorem lw_p17 : lw_okq (⟨"SlopeOperator$Input", "takeSign", "(C)Z"⟩, 7) := ⟨⟨by decide +kernel, by decide +kernel⟩, List.mem_of_getElem? (i := 268) (by decide +kernel), List.mem_of_getElem? (i := 1098) (by decide +kernel), List.mem_of_getElem? (i := 1099) (by decide +kernel)⟩
theorem lw_p18 : lw_okq (⟨"SlopeOperator$Input", "takeGuest", "()Z"⟩, 7) := ⟨⟨by decide +kernel, by decide +kernel⟩, List.mem_of_getElem? (i := 268) (by decide +kernel), List.mem_of_getElem? (i := 1102) (by decide +kernel), List.mem_of_getElem? (i := 1103) (by decide +kernel)⟩
theorem lw_p19 : lw_okq (⟨"SlopeOperator", "doEntries", "(I)I"⟩, 9) := ⟨⟨by decide +kernel, by decide +kernel⟩, List.mem_of_getElem? (i := 23) (by decide +kernel), List.mem_of_getElem? (i := 1111) (by decide +kernel), List.mem_of_getElem? (i := 1112) (by decide +kernel)⟩
theorem lw_p20 : lw_okq (⟨"SlopeOperator", "doEntry", "(III)I"⟩, 9) := ⟨⟨by decide +kernel, by decide +kernel⟩, List.mem_of_getElem? (i := 23) (by decide +kernel), List.mem_of_getElem? (i := 1116) (by decide +kernel), List.mem_of_getElem? (i := 1117) (by decide +kernel)⟩
theorem lw_p21 : lw_okq (⟨"SlopeOperator", "addGuestByText", "(II)I"⟩, 9) := ⟨⟨by decide +kernel, by decide +kernel⟩, List.mem_of_getElem? (i := 23) (by decide +kernel), List.mem_of_getElem? (i := 1120) (by decide +kernel), List.mem_of_getElem? (i := 1121) (by decide +kernel)⟩
theorem lw_p22 : lw_okq (⟨"SlopeOperator", "queueByText", "(II)I"⟩, 9) := ⟨⟨by decide +kernel, by decide +kernel⟩, List.mem_of_getElem? (i := 23) (by decide +kernel), List.mem_of_getElem? (i := 1124) (by decide +kernel), List.mem_of_getElem? (i := 1125) (by decide +kernel)⟩
theorem lw_p23 : lw_okq (⟨"SlopeOperator", "skiByText", "(II)I"⟩, 9) := ⟨⟨by decide +kernel, by decide +kernel⟩, List.mem_of_getElem? (i := 23) (by decide +kernel), List.mem_of_getElem? (i := 1128) (by decide +kernel), List.mem_of_getElem? (i := 1129) (by decide +kernel)⟩
theorem lw_p24 : lw_okq (⟨"SlopeOperatorModel", "refuse", "(I)I"⟩, 20) := ⟨⟨by decide +kernel, by decide +kernel⟩, List.mem_of_getElem? (i := 1161) (by decide +kernel), List.mem_of_getElem? (i := 1246) (by decide +kernel), List.mem_of_getElem? (i := 1247) (by decide +kernel)⟩
theorem lw_p25 : lw_okq (⟨"SlopeOperatorModel", "keep", "()V"⟩, 20) := ⟨⟨by decide +kernel, by decide +kernel⟩, List.mem_of_getElem? (i := 1161) (by decide +kernel), List.mem_of_getElem? (i := 1250) (by decide +kernel), List.mem_of_getElem? (i := 1251) (by decide +kernel)⟩
theorem lw_p26 : lw_okq (⟨"SlopeOperatorModel", "stateOf", "(I)I"⟩, 20) := ⟨⟨by decide +kernel, by decide +kernel⟩, List.mem_of_getElem? (i := 1161) (by decide +kernel), List.mem_of_getElem? (i := 1268) (by decide +kernel), List.mem_of_getElem? (i := 1269) (by decide +kernel)⟩
theorem lw_p27 : lw_okq (⟨"SlopeOperatorModel", "isLift", "(I)Z"⟩, 20) := ⟨⟨by decide +kernel, by decide +kernel⟩, List.mem_of_getElem? (i := 1161) (by decide +kernel), List.mem_of_getElem? (i := 1276) (by decide +kernel), List.mem_of_getElem? (i := 1277) (by decide +kernel)⟩
theorem lw_p28 : lw_okq (⟨"SlopeOperatorModel", "guestsWho", "(II)I"⟩, 20) := ⟨⟨by decide +kernel, by decide +kernel⟩, List.mem_of_getElem? (i := 1161) (by decide +kernel), List.mem_of_getElem? (i := 1280) (by decide +kernel), List.mem_of_getElem? (i := 1281) (by decide +kernel)⟩
theorem lw_p29 : lw_okq (⟨"SlopeOperatorModel", "isPiste", "(I)Z"⟩, 20) := ⟨⟨by decide +kernel, by decide +kernel⟩, List.mem_of_getElem? (i := 1161) (by decide +kernel), List.mem_of_getElem? (i := 1291) (by decide +kernel), List.mem_of_getElem? (i := 1292) (by decide +kernel)⟩
theorem lw_p30 : lw_okq (⟨"SlopeOperatorModel", "openPistes", "()I"⟩, 20) := ⟨⟨by decide +kernel, by decide +kernel⟩, List.mem_of_getElem? (i := 1161) (by decide +kernel), List.mem_of_getElem? (i := 1307) (by decide +kernel), List.mem_of_getElem? (i := 1308) (by decide +kernel)⟩
theorem lw_p31 : lw_okq (⟨"SlopeOperatorModel", "arrives", "(IIIII)V"⟩, 20) := ⟨⟨by decide +kernel, by decide +kernel⟩, List.mem_of_getElem? (i := 1161) (by decide +kernel), List.mem_of_getElem? (i := 1315) (by decide +kernel), List.mem_of_getElem? (i := 1316) (by decide +kernel)⟩
def lw_privs_2 : List (MethodName × Nat) := [(⟨"SlopeOperator$Input", "takeTarget", "(CC)Z"⟩, 7), (⟨"SlopeOperator$Input", "takeSign", "(C)Z"⟩, 7), (⟨"SlopeOperator$Input", "takeGuest", "()Z"⟩, 7), (⟨"SlopeOperator", "doEntries", "(I)I"⟩, 9), (⟨"SlopeOperator", "doEntry", "(III)I"⟩, 9), (⟨"SlopeOperator", "addGuestByText", "(II)I"⟩, 9), (⟨"SlopeOperator", "queueByText", "(II)I"⟩, 9), (⟨"SlopeOperator", "skiByText", "(II)I"⟩, 9), (⟨"SlopeOperatorModel", "refuse", "(I)I"⟩, 20), (⟨"SlopeOperatorModel", "keep", "()V"⟩, 20), (⟨"SlopeOperatorModel", "stateOf", "(I)I"⟩, 20), (⟨"SlopeOperatorModel", "isLift", "(I)Z"⟩, 20), (⟨"SlopeOperatorModel", "guestsWho", "(II)I"⟩, 20), (⟨"SlopeOperatorModel", "isPiste", "(I)Z"⟩, 20), (⟨"SlopeOperatorModel", "openPistes", "()I"⟩, 20), (⟨"SlopeOperatorModel", "arrives", "(IIIII)V"⟩, 20)]
theorem lw_r2 : ∀ q ∈ lw_privs_2, lw_okq q := List.forall_mem_cons.mpr ⟨lw_p16, List.forall_mem_cons.mpr ⟨lw_p17, List.forall_mem_cons.mpr ⟨lw_p18, List.forall_mem_cons.mpr ⟨lw_p19, List.forall_mem_cons.mpr ⟨lw_p20, List.forall_mem_cons.mpr ⟨lw_p21, List.forall_mem_cons.mpr ⟨lw_p22, List.forall_mem_cons.mpr ⟨lw_p23, List.forall_mem_cons.mpr ⟨lw_p24, List.forall_mem_cons.mpr ⟨lw_p25, List.forall_mem_cons.mpr ⟨lw_p26, List.forall_mem_cons.mpr ⟨lw_p27, List.forall_mem_cons.mpr ⟨lw_p28, List.forall_mem_cons.mpr ⟨lw_p29, List.forall_mem_cons.mpr ⟨lw_p30, List.forall_mem_cons.mpr ⟨lw_p31, fun _ h => absurd h List.not_mem_nil⟩⟩⟩⟩⟩⟩⟩⟩⟩⟩⟩⟩⟩⟩⟩⟩
theorem lw_p32 : lw_okq (⟨"SlopeOperatorModel", "isGuest", "(I)Z"⟩, 20) := ⟨⟨by decide +kernel, by decide +kernel⟩, List.mem_of_getElem? (i := 1161) (by decide +kernel), List.mem_of_getElem? (i := 1323) (by decide +kernel), List.mem_of_getElem? (i := 1324) (by decide +kernel)⟩
theorem lw_p33 : lw_okq (⟨"SlopeOperatorModel", "placeOf", "(I)I"⟩, 20) := ⟨⟨by decide +kernel, by decide +kernel⟩, List.mem_of_getElem? (i := 1161) (by decide +kernel), List.mem_of_getElem? (i := 1327) (by decide +kernel), List.mem_of_getElem? (i := 1328) (by decide +kernel)⟩
theorem lw_p34 : lw_okq (⟨"SlopeOperatorModel", "whyNoLift", "(II)I"⟩, 20) := ⟨⟨by decide +kernel, by decide +kernel⟩, List.mem_of_getElem? (i := 1161) (by decide +kernel), List.mem_of_getElem? (i := 1335) (by decide +kernel), List.mem_of_getElem? (i := 1336) (by decide +kernel)⟩
theorem lw_p35 : lw_okq (⟨"SlopeOperatorModel", "isOpenTo", "(II)Z"⟩, 20) := ⟨⟨by decide +kernel, by decide +kernel⟩, List.mem_of_getElem? (i := 1161) (by decide +kernel), List.mem_of_getElem? (i := 1339) (by decide +kernel), List.mem_of_getElem? (i := 1340) (by decide +kernel)⟩
theorem lw_p36 : lw_okq (⟨"SlopeOperatorModel", "refuses", "(II)I"⟩, 20) := ⟨⟨by decide +kernel, by decide +kernel⟩, List.mem_of_getElem? (i := 1161) (by decide +kernel), List.mem_of_getElem? (i := 1343) (by decide +kernel), List.mem_of_getElem? (i := 1344) (by decide +kernel)⟩
theorem lw_p37 : lw_okq (⟨"SlopeOperatorModel", "standIn", "(II)I"⟩, 20) := ⟨⟨by decide +kernel, by decide +kernel⟩, List.mem_of_getElem? (i := 1161) (by decide +kernel), List.mem_of_getElem? (i := 1347) (by decide +kernel), List.mem_of_getElem? (i := 1348) (by decide +kernel)⟩
theorem lw_p38 : lw_okq (⟨"SlopeOperatorModel", "whyNoPiste", "(II)I"⟩, 20) := ⟨⟨by decide +kernel, by decide +kernel⟩, List.mem_of_getElem? (i := 1161) (by decide +kernel), List.mem_of_getElem? (i := 1355) (by decide +kernel), List.mem_of_getElem? (i := 1356) (by decide +kernel)⟩
theorem lw_p39 : lw_okq (⟨"SlopeOperatorModel", "goDown", "(II)I"⟩, 20) := ⟨⟨by decide +kernel, by decide +kernel⟩, List.mem_of_getElem? (i := 1161) (by decide +kernel), List.mem_of_getElem? (i := 1359) (by decide +kernel), List.mem_of_getElem? (i := 1360) (by decide +kernel)⟩
theorem lw_p40 : lw_okq (⟨"SlopeOperatorModel", "skiTime", "(II)I"⟩, 20) := ⟨⟨by decide +kernel, by decide +kernel⟩, List.mem_of_getElem? (i := 1161) (by decide +kernel), List.mem_of_getElem? (i := 1363) (by decide +kernel), List.mem_of_getElem? (i := 1364) (by decide +kernel)⟩
theorem lw_p41 : lw_okq (⟨"SlopeOperatorModel", "drops", "(III)V"⟩, 20) := ⟨⟨by decide +kernel, by decide +kernel⟩, List.mem_of_getElem? (i := 1161) (by decide +kernel), List.mem_of_getElem? (i := 1371) (by decide +kernel), List.mem_of_getElem? (i := 1372) (by decide +kernel)⟩
theorem lw_p42 : lw_okq (⟨"SlopeOperatorModel", "ticks", "(I)I"⟩, 20) := ⟨⟨by decide +kernel, by decide +kernel⟩, List.mem_of_getElem? (i := 1161) (by decide +kernel), List.mem_of_getElem? (i := 1399) (by decide +kernel), List.mem_of_getElem? (i := 1400) (by decide +kernel)⟩
theorem lw_p43 : lw_okq (⟨"SlopeOperatorModel", "tick", "()V"⟩, 20) := ⟨⟨by decide +kernel, by decide +kernel⟩, List.mem_of_getElem? (i := 1161) (by decide +kernel), List.mem_of_getElem? (i := 1403) (by decide +kernel), List.mem_of_getElem? (i := 1404) (by decide +kernel)⟩
theorem lw_p44 : lw_okq (⟨"SlopeOperatorModel", "stepOf", "(I)I"⟩, 20) := ⟨⟨by decide +kernel, by decide +kernel⟩, List.mem_of_getElem? (i := 1161) (by decide +kernel), List.mem_of_getElem? (i := 1407) (by decide +kernel), List.mem_of_getElem? (i := 1408) (by decide +kernel)⟩
theorem lw_p45 : lw_okq (⟨"SlopeOperatorModel", "comesTo", "(II)V"⟩, 20) := ⟨⟨by decide +kernel, by decide +kernel⟩, List.mem_of_getElem? (i := 1161) (by decide +kernel), List.mem_of_getElem? (i := 1411) (by decide +kernel), List.mem_of_getElem? (i := 1412) (by decide +kernel)⟩
theorem lw_p46 : lw_okq (⟨"SlopeOperatorModel", "cabin", "(I)V"⟩, 20) := ⟨⟨by decide +kernel, by decide +kernel⟩, List.mem_of_getElem? (i := 1161) (by decide +kernel), List.mem_of_getElem? (i := 1415) (by decide +kernel), List.mem_of_getElem? (i := 1416) (by decide +kernel)⟩
theorem lw_p47 : lw_okq (⟨"SlopeOperatorModel", "layAside", "()V"⟩, 20) := ⟨⟨by decide +kernel, by decide +kernel⟩, List.mem_of_getElem? (i := 1161) (by decide +kernel), List.mem_of_getElem? (i := 1428) (by decide +kernel), List.mem_of_getElem? (i := 1429) (by decide +kernel)⟩
def lw_privs_3 : List (MethodName × Nat) := [(⟨"SlopeOperatorModel", "isGuest", "(I)Z"⟩, 20), (⟨"SlopeOperatorModel", "placeOf", "(I)I"⟩, 20), (⟨"SlopeOperatorModel", "whyNoLift", "(II)I"⟩, 20), (⟨"SlopeOperatorModel", "isOpenTo", "(II)Z"⟩, 20), (⟨"SlopeOperatorModel", "refuses", "(II)I"⟩, 20), (⟨"SlopeOperatorModel", "standIn", "(II)I"⟩, 20), (⟨"SlopeOperatorModel", "whyNoPiste", "(II)I"⟩, 20), (⟨"SlopeOperatorModel", "goDown", "(II)I"⟩, 20), (⟨"SlopeOperatorModel", "skiTime", "(II)I"⟩, 20), (⟨"SlopeOperatorModel", "drops", "(III)V"⟩, 20), (⟨"SlopeOperatorModel", "ticks", "(I)I"⟩, 20), (⟨"SlopeOperatorModel", "tick", "()V"⟩, 20), (⟨"SlopeOperatorModel", "stepOf", "(I)I"⟩, 20), (⟨"SlopeOperatorModel", "comesTo", "(II)V"⟩, 20), (⟨"SlopeOperatorModel", "cabin", "(I)V"⟩, 20), (⟨"SlopeOperatorModel", "layAside", "()V"⟩, 20)]
theorem lw_r3 : ∀ q ∈ lw_privs_3, lw_okq q := List.forall_mem_cons.mpr ⟨lw_p32, List.forall_mem_cons.mpr ⟨lw_p33, List.forall_mem_cons.mpr ⟨lw_p34, List.forall_mem_cons.mpr ⟨lw_p35, List.forall_mem_cons.mpr ⟨lw_p36, List.forall_mem_cons.mpr ⟨lw_p37, List.forall_mem_cons.mpr ⟨lw_p38, List.forall_mem_cons.mpr ⟨lw_p39, List.forall_mem_cons.mpr ⟨lw_p40, List.forall_mem_cons.mpr ⟨lw_p41, List.forall_mem_cons.mpr ⟨lw_p42, List.forall_mem_cons.mpr ⟨lw_p43, List.forall_mem_cons.mpr ⟨lw_p44, List.forall_mem_cons.mpr ⟨lw_p45, List.forall_mem_cons.mpr ⟨lw_p46, List.forall_mem_cons.mpr ⟨lw_p47, fun _ h => absurd h List.not_mem_nil⟩⟩⟩⟩⟩⟩⟩⟩⟩⟩⟩⟩⟩⟩⟩⟩
theorem lw_p48 : lw_okq (⟨"SlopeOperatorModel", "takeBack", "()V"⟩, 20) := ⟨⟨by decide +kernel, by decide +kernel⟩, List.mem_of_getElem? (i := 1161) (by decide +kernel), List.mem_of_getElem? (i := 1432) (by decide +kernel), List.mem_of_getElem? (i := 1433) (by decide +kernel)⟩
theorem lw_p49 : lw_okq (⟨"SlopeOperatorModel", "lacks", "(III)I"⟩, 20) := ⟨⟨by decide +kernel, by decide +kernel⟩, List.mem_of_getElem? (i := 1161) (by decide +kernel), List.mem_of_getElem? (i := 1444) (by decide +kernel), List.mem_of_getElem? (i := 1445) (by decide +kernel)⟩
theorem lw_p50 : lw_okq (⟨"SlopeOperatorModel", "layWays", "(II)V"⟩, 20) := ⟨⟨by decide +kernel, by decide +kernel⟩, List.mem_of_getElem? (i := 1161) (by decide +kernel), List.mem_of_getElem? (i := 1448) (by decide +kernel), List.mem_of_getElem? (i := 1449) (by decide +kernel)⟩
theorem lw_p51 : lw_okq (⟨"SlopeOperatorModel", "isWayLift", "(II)Z"⟩, 20) := ⟨⟨by decide +kernel, by decide +kernel⟩, List.mem_of_getElem? (i := 1161) (by decide +kernel), List.mem_of_getElem? (i := 1453) (by decide +kernel), List.mem_of_getElem? (i := 1454) (by decide +kernel)⟩
theorem lw_p52 : lw_okq (⟨"SlopeOperatorModel", "isWayPiste", "(II)Z"⟩, 20) := ⟨⟨by decide +kernel, by decide +kernel⟩, List.mem_of_getElem? (i := 1161) (by decide +kernel), List.mem_of_getElem? (i := 1457) (by decide +kernel), List.mem_of_getElem? (i := 1458) (by decide +kernel)⟩
theorem lw_p53 : lw_okq (⟨"SlopeOperatorModel", "isText", "()Z"⟩, 20) := ⟨⟨by decide +kernel, by decide +kernel⟩, List.mem_of_getElem? (i := 1161) (by decide +kernel), List.mem_of_getElem? (i := 1506) (by decide +kernel), List.mem_of_getElem? (i := 1507) (by decide +kernel)⟩
theorem lw_p54 : lw_okq (⟨"SlopeOperatorModel", "entry", "()V"⟩, 20) := ⟨⟨by decide +kernel, by decide +kernel⟩, List.mem_of_getElem? (i := 1161) (by decide +kernel), List.mem_of_getElem? (i := 1510) (by decide +kernel), List.mem_of_getElem? (i := 1511) (by decide +kernel)⟩
theorem lw_p55 : lw_okq (⟨"SlopeOperatorModel", "here", "()I"⟩, 20) := ⟨⟨by decide +kernel, by decide +kernel⟩, List.mem_of_getElem? (i := 1161) (by decide +kernel), List.mem_of_getElem? (i := 1514) (by decide +kernel), List.mem_of_getElem? (i := 1515) (by decide +kernel)⟩
theorem lw_p56 : lw_okq (⟨"SlopeOperatorModel", "guestNumber", "()I"⟩, 20) := ⟨⟨by decide +kernel, by decide +kernel⟩, List.mem_of_getElem? (i := 1161) (by decide +kernel), List.mem_of_getElem? (i := 1518) (by decide +kernel), List.mem_of_getElem? (i := 1519) (by decide +kernel)⟩
theorem lw_p57 : lw_okq (⟨"SlopeOperatorModel", "digit", "(II)I"⟩, 20) := ⟨⟨by decide +kernel, by decide +kernel⟩, List.mem_of_getElem? (i := 1161) (by decide +kernel), List.mem_of_getElem? (i := 1522) (by decide +kernel), List.mem_of_getElem? (i := 1523) (by decide +kernel)⟩
theorem lw_p58 : lw_okq (⟨"SlopeOperatorModel", "take", "(I)V"⟩, 20) := ⟨⟨by decide +kernel, by decide +kernel⟩, List.mem_of_getElem? (i := 1161) (by decide +kernel), List.mem_of_getElem? (i := 1526) (by decide +kernel), List.mem_of_getElem? (i := 1527) (by decide +kernel)⟩
theorem lw_p59 : lw_okq (⟨"SlopeOperatorModel", "does", "(I)Z"⟩, 20) := ⟨⟨by decide +kernel, by decide +kernel⟩, List.mem_of_getElem? (i := 1161) (by decide +kernel), List.mem_of_getElem? (i := 1530) (by decide +kernel), List.mem_of_getElem? (i := 1531) (by decide +kernel)⟩
def lw_privs_4 : List (MethodName × Nat) := [(⟨"SlopeOperatorModel", "takeBack", "()V"⟩, 20), (⟨"SlopeOperatorModel", "lacks", "(III)I"⟩, 20), (⟨"SlopeOperatorModel", "layWays", "(II)V"⟩, 20), (⟨"SlopeOperatorModel", "isWayLift", "(II)Z"⟩, 20), (⟨"SlopeOperatorModel", "isWayPiste", "(II)Z"⟩, 20), (⟨"SlopeOperatorModel", "isText", "()Z"⟩, 20), (⟨"SlopeOperatorModel", "entry", "()V"⟩, 20), (⟨"SlopeOperatorModel", "here", "()I"⟩, 20), (⟨"SlopeOperatorModel", "guestNumber", "()I"⟩, 20), (⟨"SlopeOperatorModel", "digit", "(II)I"⟩, 20), (⟨"SlopeOperatorModel", "take", "(I)V"⟩, 20), (⟨"SlopeOperatorModel", "does", "(I)Z"⟩, 20)]
theorem lw_r4 : ∀ q ∈ lw_privs_4, lw_okq q := List.forall_mem_cons.mpr ⟨lw_p48, List.forall_mem_cons.mpr ⟨lw_p49, List.forall_mem_cons.mpr ⟨lw_p50, List.forall_mem_cons.mpr ⟨lw_p51, List.forall_mem_cons.mpr ⟨lw_p52, List.forall_mem_cons.mpr ⟨lw_p53, List.forall_mem_cons.mpr ⟨lw_p54, List.forall_mem_cons.mpr ⟨lw_p55, List.forall_mem_cons.mpr ⟨lw_p56, List.forall_mem_cons.mpr ⟨lw_p57, List.forall_mem_cons.mpr ⟨lw_p58, List.forall_mem_cons.mpr ⟨lw_p59, fun _ h => absurd h List.not_mem_nil⟩⟩⟩⟩⟩⟩⟩⟩⟩⟩⟩⟩
def lw_privs : List (MethodName × Nat) := lw_privs_1 ++ (lw_privs_2 ++ (lw_privs_3 ++ (lw_privs_4)))
def lw_tbl : List Cond := k2_sels lw_privs ++ tables_1
theorem lw_privs_ok : ∀ q ∈ lw_privs, lw_okq q := by
  show ∀ q ∈ lw_privs_1 ++ (lw_privs_2 ++ (lw_privs_3 ++ (lw_privs_4))), lw_okq q
  exact List.forall_mem_append.mpr ⟨lw_r1, List.forall_mem_append.mpr ⟨lw_r2, List.forall_mem_append.mpr ⟨lw_r3, lw_r4⟩⟩⟩
/-- the streams that the claim lets the run draw from -/
abbrev lw_cs : List Choice := [Jvm.Choice.named "NaN.bits"]
theorem lw_bits : nanBits ∈ lw_cs := by first | decide | exact List.mem_cons_self | simp [lw_cs, nanBits]
/-! ===== BEGIN words of one list among another's, by their places ===== -/
theorem goodIn_r {big : List Cond} (ws : List Cond) (ps : List Nat) (hp : ws = ps.filterMap (fun i => big[i]?)) (h : ws.all goodWord = true) : GoodIn big ws := by
  intro w hw
  have h1 := List.all_eq_true.mp h w hw
  rw [hp] at hw
  obtain ⟨i, -, hi⟩ := List.mem_filterMap.mp hw
  have hm : w ∈ big := by first | exact List.mem_of_getElem? hi | exact List.getElem?_mem hi
  exact ⟨hm, good_of_word h1⟩
theorem goodIn_app {big a b : List Cond} (ha : GoodIn big a) (hb : GoodIn big b) : GoodIn big (a ++ b) := fun w h => (List.mem_append.mp h).elim (ha w) (hb w)
theorem goodIn_ca {big a b : List Cond} {c : Cond} (ha : GoodIn big (c :: a)) (hb : GoodIn big b) : GoodIn big (c :: (a ++ b)) := fun w h => (List.mem_cons.mp h).elim (fun e => ha w (List.mem_cons.mpr (Or.inl e))) (fun h => (List.mem_append.mp h).elim (fun h => ha w (List.mem_cons.mpr (Or.inr h))) (hb w))
theorem goodIn_sub {big ws : List Cond} (hm : ∀ w ∈ ws, w ∈ big) (h : ws.all goodWord = true) : GoodIn big ws := fun w hw => ⟨hm w hw, good_of_word (List.all_eq_true.mp h w hw)⟩
/-! ===== END ===== -/

/-! ===== BEGIN exceptions that leave a method, and their catching by the caller (launches without stack traces) ===== -/
section VXA
/-! The laws vx_back, vx_callV, vx_callS, vx_callSW, vx_throw0, vx_throwS follow proofs of the library, with one case more: JvmDerived/Free/Laws.lean (Back.of_free), Shelf42/LK1.lean (callV, callS), Shelf/KitTraced.lean (throwNew0V, throwNewS). -/
/-- where a method has thrown q: the class by its name, the cell, what was written, the world -/
def vx_T (XC : String → State → State → Prop) (st : State) (q : Addr) (t : State) (mc ms : Nat) (free : Addr → Prop) : Prop :=
  ∃ (E : String) (ce : Cell) (L : List Loc), XC E st t ∧ t.heap[q]? = some ce ∧ ce.vm = .none ∧ st.vm.findClass E = some ce.cls ∧ st.WarmedH t.vm ∧ st.sameButNew ({ t with vm := st.vm } : State) L mc ms ∧ ∀ z ∈ L, free z.base
def vx_Q (Qc : Array Value → State → Outcome → State → Prop) (XC : String → State → State → Prop) (mc ms : Nat) (free : Addr → Prop) : Array Value → State → Outcome → State → Prop := fun a st o t =>
  (Qc a st o t ∧ ∃ L, FrameEnd st o t L mc ms ∧ ∀ q ∈ L, free q.base) ∨ ∃ q, o = .threw q ∧ vx_T XC st q t mc ms free
/-- a callee that returns or throws -/
def vx_Met (l : Launch) (y : MethodName) (ws : List Cond) (rm : Room) (Pc : Array Value → State → Prop) (Qc : Array Value → State → Outcome → State → Prop) (XC : String → State → State → Prop) (mc ms : Nat) (free : Addr → Prop) : Prop :=
  MetFree l y (headSpec ws rm) Pc (fun _ _ _ _ _ => True) (vx_Q Qc XC mc ms free)
def vx_Post (XC : String → State → State → Prop) (mc ms : Nat) (free : Addr → Prop) : Pt → Array Value → Addr → Pt → Prop := fun A a q B =>
  ∃ (g : JFrame) (mk : MethodId) (t : State) (L : List Loc) (E : String) (ce : Cell), B.U.heap = t.heap ∧ B.U.vm = t.vm ∧ XC E (A.U.calling g mk a) t ∧ t.heap[q]? = some ce ∧ ce.vm = .none ∧ A.U.vm.findClass E = some ce.cls ∧ B.locs = A.locs ++ L ∧ (∀ z ∈ L, free z.base) ∧ B.cells = A.cells + mc ∧ B.slots = A.slots + ms
def vx_Back (l : Launch) (R : Room) (p : Program) (e : Env) (below : List Frame) (s : State) (sargs : Array Value) (y : MethodName) (len W9 : Nat)
    (Pre : Pt → Array Value → Prop) (Post : Pt → Array Value → Option Value → Pt → Prop) (PostX : Pt → Array Value → Addr → Pt → Prop) : Prop :=
  ∀ (m : MethodId) (meth : Method) (c : Code) (A : Pt) (g : JFrame) (ig : Instr) (mk : MethodId) (a : Array Value),
    Stand p l e R s m sargs below meth c A.U A.locs A.cells A.slots → g.method = m → g.locals.size = c.maxLocals → decode c.code g.pc = .ok (ig, len) →
    2 * g.monitorRoom + (g.stack.map fun v => v.category).sum ≤ W9 → A.U.methodNamed? y = some mk → Pre A a →
    (∃ (v : Option Value) (B : Pt), Stand p l e R s m sargs below meth c B.U B.locs B.cells B.slots ∧ Post A a v B ∧
      Steps p.tables e below (doInvoke e (A.U.setTop g) [] mk a).1 (B.U.setTop { g with pc := g.pc + len, stack := v.toList ++ g.stack })) ∨
    (∃ (q : Addr) (B : Pt), Stand p l e R s m sargs below meth c B.U B.locs B.cells B.slots ∧ PostX A a q B ∧
      Steps p.tables e below (doInvoke e (A.U.setTop g) [] mk a).1 ((B.U.setTop g).pushFrame (.throwing q)))
section Payer
variable {l : Launch} {R : Room} {p : Program} {e : Env} {below : List Frame} {s : State} {sargs : Array Value} {y : MethodName} {len W9 : Nat}
theorem vx_back {ws : List Cond} {rm : Room} {Pc : Array Value → State → Prop} {Qc : Array Value → State → Outcome → State → Prop} {XC : String → State → State → Prop} {mc ms : Nat} {free : Addr → Prop} {bytes : ByteArray} {maxL : Nat} {ret : Option FieldType}
    (hM : vx_Met l y ws rm Pc Qc XC mc ms free) (hblind : FrameBlind Pc) (hrc : rm.cells = mc) (hrs : rm.slots = ms)
    (hframes : rm.frames + 1 ≤ R.frames) (hlocals : W9 + (maxL + 11) + rm.locals ≤ R.locals)
    (hws : ∀ w ∈ ws, ∀ a' U, s.WarmedH U.vm → w.before a' U = true) (hcode : Cond.code y bytes maxL ret ∈ ws) (hinit : ∀ a' U, s.WarmedH U.vm → (Cond.initialized y.cls).before a' U = true) :
    vx_Back l R p e below s sargs y len W9 (PreOf R mc ms Pc) (PostOf Qc mc ms free) (vx_Post XC mc ms free) := by
  intro m meth c A g ig mk a X hg hsize hdg hW hn hp
  have h1 : (headSpec ws rm).pre.before a A.U = true := atoms_intro fun w hw => hws w hw _ _ X.warmed
  have h2 : (Cond.code y bytes maxL ret).before a A.U = true := hws _ hcode _ _ X.warmed
  have h3 : (Cond.initialized y.cls).before a A.U = true := hinit _ _ X.warmed
  have h4 : A.cells + (headSpec ws rm).room.cells ≤ R.cells := by rw [show (headSpec ws rm).room.cells = mc from hrc]; exact hp.1
  have h5 : A.slots + (headSpec ws rm).room.slots ≤ R.slots := by rw [show (headSpec ws rm).room.slots = ms from hrs]; exact hp.2.1
  have hPc : Pc a (A.U.calling g mk a) := hblind _ _ _ _ hp.2.2
  obtain ⟨U, Ls, c0, s0⟩ := A
  dsimp only [Pt.U, Pt.locs, Pt.cells, Pt.slots] at h1 h2 h3 h4 h5 X hn hPc ⊢
  obtain ⟨methY, cY, hmY, hcY, -, hlY, -, -, -, -⟩ := Cond.code_spec hn h2
  obtain ⟨kY, hkY, -⟩ := className_of_methodNamed hn
  have hinitY : kY.init = .initialized := Cond.initialized_spec (findClass_of_methodNamed hn) hkY h3
  have h : At U g.method c below := by rw [hg]; exact X.here
  have hlocals9 : W9 + (maxL + 11) + (headSpec ws rm).room.locals ≤ R.locals := hlocals
  have happ : (headSpec ws rm).appliesLoose y e.platform (U.calling g mk a) = true :=
    Spec.appliesLoose_calling (g := g) h hdg hn hkY hinitY
      (X.room_calling (g := g) (R' := (headSpec ws rm).room) hsize hmY hcY hframes (by rw [hlY]; omega) h4 h5) h1
  obtain ⟨mid, hmid⟩ := h.above
  have hfr : (U.setTop g).frames = (.java g :: mid) ++ below := by rw [State.frames_setTop' g h.top, hmid]; rfl
  obtain ⟨o, s₂, hsteps, -, hend, hq⟩ := Steps.callFree hM p X.admits X.cas X.clock (acts := []) hfr happ hPc trivial
  have hq' : vx_Q Qc XC mc ms free a (U.calling g mk a) o s₂ := hq
  rw [State.frames_setTop' g h.top] at hend
  obtain ⟨g₀, hg0⟩ := Option.isSome_iff_exists.mp h.top
  obtain ⟨r, hr⟩ := State.topJava?_eq_some.mp hg0
  have hr' : (({ U with heap := s₂.heap, slotsUsed := s₂.slotsUsed } : State).setVm s₂.vm).frames = .java g₀ :: r := hr
  rcases hq' with ⟨hqc, L, hfe, hL⟩ | ⟨q, rfl, E, ce, L, hx, hce, hcv, hcl, hW₂, hsm, hL⟩
  · obtain ⟨⟨v, rfl⟩, hW₂, e2, q2, q3, q4, q5, q6⟩ := id hfe
    have e3 : s₂ = ({ (U.calling g mk a).setFrames s₂.frames with heap := s₂.heap, slotsUsed := s₂.slotsUsed } : State).setVm s₂.vm := by
      have : s₂ = ({ s₂ with vm := (U.calling g mk a).vm } : State).setVm s₂.vm := rfl
      rw [e2] at this
      exact this
    obtain ⟨c₂, i₂, len₂, hc₂, hd₂, hf₂⟩ := hend
    have hW' : U.WarmedH s₂.vm := hW₂
    have hcc : c₂ = c := by
      have h1 : s₂.code? g.method = U.code? g.method := by
        rw [State.code?_eq, State.code?_eq, hW'.alike.method?]
      exact Option.some.inj (hc₂.symm.trans (h1.trans h.code))
    subst hcc
    have hlen : len₂ = len := by rw [hdg] at hd₂; cases hd₂; rfl
    subst hlen
    have hs₂ : s₂ = (({ U with heap := s₂.heap, slotsUsed := s₂.slotsUsed } : State).setVm s₂.vm).setTop { g with pc := g.pc + len₂, stack := v.toList ++ g.stack } := by
      refine e3.trans ?_
      rw [hf₂, State.calling_eq h.top, State.setFrames_setFrames, State.setTop_of_frames _ hr', hr]
      rfl
    have hsame : U.sameButNew ({ U with heap := s₂.heap, slotsUsed := s₂.slotsUsed } : State) L mc ms := by
      refine ⟨?_, q2, q3, q4, q5, q6⟩
      obtain ⟨t, ht, -⟩ := State.frames_cons hr
      show ({ U with heap := s₂.heap, slotsUsed := s₂.slotsUsed } : State) = { U.setFrames U.frames with heap := s₂.heap, slotsUsed := s₂.slotsUsed }
      rw [State.setFrames_self ht]
    subst hg
    refine Or.inl ⟨v, ⟨(({ U with heap := s₂.heap, slotsUsed := s₂.slotsUsed } : State).setVm s₂.vm), Ls ++ L, c0 + mc, s0 + ms⟩,
      ⟨X.admits, X.cas, X.clock, X.frames, X.room, X.hears, X.method, X.code, (X.here.setHeapUsed s₂.heap s₂.slotsUsed).setVm hW'.alike, X.tail, State.WarmedH.trans X.warmed hW', X.limits, X.bytes, X.same.trans (hsame.setVm s.vm)⟩,
      ⟨g, mk, s₂, L, rfl, rfl, hqc, rfl, hL, rfl, rfl⟩, ?_⟩
    show Steps p.tables e below _ ((({ U with heap := s₂.heap, slotsUsed := s₂.slotsUsed } : State).setVm s₂.vm).setTop { g with pc := g.pc + len₂, stack := v.toList ++ g.stack })
    rw [← hs₂]
    exact hsteps
  · obtain ⟨e2, q2, q3, q4, q5, q6⟩ := id hsm
    have e3 : s₂ = ({ (U.calling g mk a).setFrames s₂.frames with heap := s₂.heap, slotsUsed := s₂.slotsUsed } : State).setVm s₂.vm := by
      have : s₂ = ({ s₂ with vm := (U.calling g mk a).vm } : State).setVm s₂.vm := rfl
      rw [e2] at this
      exact this
    have hf₂ : s₂.frames = .throwing q :: .java g :: U.frames.tail := hend
    have hW' : U.WarmedH s₂.vm := hW₂
    have hs₂ : s₂ = ((({ U with heap := s₂.heap, slotsUsed := s₂.slotsUsed } : State).setVm s₂.vm).setTop g).pushFrame (.throwing q) := by
      refine e3.trans ?_
      rw [hf₂, State.calling_eq h.top, State.setFrames_setFrames, State.pushFrame, State.frames_setTop _ hr', State.setTop_of_frames _ hr', State.setFrames_setFrames, hr]
      rfl
    have hsame : U.sameButNew ({ U with heap := s₂.heap, slotsUsed := s₂.slotsUsed } : State) L mc ms := by
      refine ⟨?_, q2, q3, q4, q5, q6⟩
      obtain ⟨t, ht, -⟩ := State.frames_cons hr
      show ({ U with heap := s₂.heap, slotsUsed := s₂.slotsUsed } : State) = { U.setFrames U.frames with heap := s₂.heap, slotsUsed := s₂.slotsUsed }
      rw [State.setFrames_self ht]
    subst hg
    refine Or.inr ⟨q, ⟨(({ U with heap := s₂.heap, slotsUsed := s₂.slotsUsed } : State).setVm s₂.vm), Ls ++ L, c0 + mc, s0 + ms⟩,
      ⟨X.admits, X.cas, X.clock, X.frames, X.room, X.hears, X.method, X.code, (X.here.setHeapUsed s₂.heap s₂.slotsUsed).setVm hW'.alike, X.tail, State.WarmedH.trans X.warmed hW', X.limits, X.bytes, X.same.trans (hsame.setVm s.vm)⟩,
      ⟨g, mk, s₂, L, E, ce, rfl, rfl, hx, hce, hcv, hcl, rfl, hL, rfl, rfl⟩, ?_⟩
    show Steps p.tables e below _ (((({ U with heap := s₂.heap, slotsUsed := s₂.slotsUsed } : State).setVm s₂.vm).setTop g).pushFrame (.throwing q))
    rw [← hs₂]
    exact hsteps
end Payer
section Calls
variable {p : Program} {l : Launch} {e : Env} {R : Room} {s : State} {m : MethodId} {args : Array Value} {below : List Frame} {meth : Method} {c : Code} {T : State} {locs : List Loc} {cells slots : Nat}
theorem vx_callV (X : Stand p l e R s m args below meth c T locs cells slots) (hexec : p.tables.exec = Jvm.exec) {own C : String} {index : Nat} {y : MethodName} {bytes : ByteArray} {maxL : Nat} {ret : Option FieldType}
    (hown : s.vm.findClass own = some m.cls) (hlink : (Cond.methodLink own index y).before args s = true) (hinst : (Cond.instanceMethod y).before args s = true) (hsel : (Cond.selects C y y).before args s = true)
    (hcode : (Cond.code y bytes maxL ret).before args s = true) (hy : y.cls ≠ "java/lang/invoke/MethodHandle" ∧ y.cls ≠ "java/lang/invoke/VarHandle")
    {W9 : Nat} {Pre : Pt → Array Value → Prop} {Post : Pt → Array Value → Option Value → Pt → Prop} {PostX : Pt → Array Value → Addr → Pt → Prop} (hK : vx_Back l R p e below s args y 3 W9 Pre Post PostX)
    {b : Addr} {cellB : Cell} (hcell : T.heap[b]? = some cellB) (hobj : cellB.vm.isStatics = false) (hcls : s.vm.findClass C = some cellB.cls)
    {g : JFrame} (hg : g.method = m) (hsize : g.locals.size = c.maxLocals) {argsL rest : List Value} (hlen : ∀ sig, parseMethodDescriptor y.desc = some sig → argsL.length = sig.parameters.length)
    (hstack : g.stack = argsL.reverse ++ .ref b :: rest) (hW : 2 * g.monitorRoom + (rest.map fun v => v.category).sum ≤ W9) (hdg : decode c.code g.pc = .ok (.invokevirtual index, 3))
    (hpre : ∀ vm₁, s.WarmedH vm₁ → Pre ⟨T.setVm vm₁, locs, cells, slots⟩ (Value.ref b :: argsL).toArray) :
    (∃ (v : Option Value) (vm₁ : Vm) (B : Pt), s.WarmedH vm₁ ∧ Stand p l e R s m args below meth c B.U B.locs B.cells B.slots ∧ Post ⟨T.setVm vm₁, locs, cells, slots⟩ (Value.ref b :: argsL).toArray v B ∧
      ∀ target, Steps p.tables e below (B.U.setTop { g with pc := g.pc + 3, stack := v.toList ++ rest }) target → Steps p.tables e below (T.setTop g) target) ∨
    (∃ (q : Addr) (vm₁ : Vm) (B : Pt), s.WarmedH vm₁ ∧ Stand p l e R s m args below meth c B.U B.locs B.cells B.slots ∧ PostX ⟨T.setVm vm₁, locs, cells, slots⟩ (Value.ref b :: argsL).toArray q B ∧
      Steps p.tables e below (T.setTop g) ((B.U.setTop { g with stack := rest }).pushFrame (.throwing q))) := by
  obtain ⟨mk, methM, hnamed, hmethM, hstM, habM⟩ := Cond.instanceMethod_spec hinst
  obtain ⟨methM', cM, hmethM', -, -, -, -, -, -, hsigM⟩ := Cond.code_spec hnamed hcode
  cases hmethM.symm.trans hmethM'
  obtain ⟨c2, r2, m2, q1, q2, q3, q4, kP, hkP, hkPi⟩ := Cond.selects_spec hsel
  cases hcls.symm.trans q1
  cases (State.methodFound?_of_named hnamed hy).symm.trans q2
  cases hnamed.symm.trans q3
  have hselP : selectMethod e.platform s.vm cellB.cls mk = .method mk := by rw [Launch.admits_selectMethod X.admits]; exact q4
  obtain ⟨vm₁, X₁, hstep₁⟩ := X.invokevirtual hexec hown hlink hnamed hmethM hstM hkP hkPi hy (a := b) (cell := cellB) hcell
    (fun z h => by rw [h] at hobj; cases hobj) hselP hmethM habM hkP hkPi (g := g) hg (argsL := argsL) (rest := rest) (hlen _ hsigM) hstack hdg
  rcases hK m meth c ⟨T.setVm vm₁, locs, cells, slots⟩ { g with stack := rest } (.invokevirtual index) mk (Value.ref b :: argsL).toArray X₁ hg hsize hdg hW (X₁.named hnamed) (hpre vm₁ X₁.warmed) with ⟨v, B, X', hpost, hsteps⟩ | ⟨q, B, X', hpost, hsteps⟩
  · exact Or.inl ⟨v, vm₁, B, X₁.warmed, X', hpost, fun target h => hstep₁ _ fun acts => by rw [doInvoke_state]; exact hsteps.trans h⟩
  · exact Or.inr ⟨q, vm₁, B, X₁.warmed, X', hpost, hstep₁ _ fun acts => by rw [doInvoke_state]; exact hsteps⟩
theorem vx_callS (X : Stand p l e R s m args below meth c T locs cells slots) (hexec : p.tables.exec = Jvm.exec) {own : String} {index : Nat} {y : MethodName} {bytes : ByteArray} {maxL : Nat} {ret : Option FieldType}
    (hown : s.vm.findClass own = some m.cls) (hlink : (Cond.methodLink own index y).before args s = true) (hstat : (Cond.static y).before args s = true) (hinit : (Cond.initialized y.cls).before args s = true)
    (hcode : (Cond.code y bytes maxL ret).before args s = true) (hy : y.cls ≠ "java/lang/invoke/MethodHandle" ∧ y.cls ≠ "java/lang/invoke/VarHandle")
    {W9 : Nat} {Pre : Pt → Array Value → Prop} {Post : Pt → Array Value → Option Value → Pt → Prop} {PostX : Pt → Array Value → Addr → Pt → Prop} (hK : vx_Back l R p e below s args y 3 W9 Pre Post PostX)
    {g : JFrame} (hg : g.method = m) (hsize : g.locals.size = c.maxLocals) {argsL rest : List Value} (hlen : ∀ sig, parseMethodDescriptor y.desc = some sig → argsL.length = sig.parameters.length)
    (hstack : g.stack = argsL.reverse ++ rest) (hW : 2 * g.monitorRoom + (rest.map fun v => v.category).sum ≤ W9) (hdg : decode c.code g.pc = .ok (.invokestatic index, 3))
    (hpre : ∀ vm₁, s.WarmedH vm₁ → Pre ⟨T.setVm vm₁, locs, cells, slots⟩ argsL.toArray) :
    (∃ (v : Option Value) (vm₁ : Vm) (B : Pt), s.WarmedH vm₁ ∧ Stand p l e R s m args below meth c B.U B.locs B.cells B.slots ∧ Post ⟨T.setVm vm₁, locs, cells, slots⟩ argsL.toArray v B ∧
      ∀ target, Steps p.tables e below (B.U.setTop { g with pc := g.pc + 3, stack := v.toList ++ rest }) target → Steps p.tables e below (T.setTop g) target) ∨
    (∃ (q : Addr) (vm₁ : Vm) (B : Pt), s.WarmedH vm₁ ∧ Stand p l e R s m args below meth c B.U B.locs B.cells B.slots ∧ PostX ⟨T.setVm vm₁, locs, cells, slots⟩ argsL.toArray q B ∧
      Steps p.tables e below (T.setTop g) ((B.U.setTop { g with stack := rest }).pushFrame (.throwing q))) := by
  obtain ⟨mk, hnamed⟩ := Cond.code_named hcode
  obtain ⟨methM, cM, hmethM, -, -, -, -, -, -, hsigM⟩ := Cond.code_spec hnamed hcode
  have hstatic : methM.isStatic = true := Cond.static_spec hnamed hmethM hstat
  obtain ⟨kP, hkP, -⟩ := className_of_methodNamed hnamed
  have hinitP : kP.init = .initialized := Cond.initialized_spec (findClass_of_methodNamed hnamed) hkP hinit
  obtain ⟨vm₁, X₁, hstep₁⟩ := X.invokestatic hexec hown hlink hnamed hmethM hstatic hkP hinitP hy (g := g) hg (argsL := argsL) (rest := rest) (hlen _ hsigM) hstack hdg
  rcases hK m meth c ⟨T.setVm vm₁, locs, cells, slots⟩ { g with stack := rest } (.invokestatic index) mk argsL.toArray X₁ hg hsize hdg hW (X₁.named hnamed) (hpre vm₁ X₁.warmed) with ⟨v, B, X', hpost, hsteps⟩ | ⟨q, B, X', hpost, hsteps⟩
  · exact Or.inl ⟨v, vm₁, B, X₁.warmed, X', hpost, fun target h => hstep₁ _ fun acts => by rw [doInvoke_state]; exact hsteps.trans h⟩
  · exact Or.inr ⟨q, vm₁, B, X₁.warmed, X', hpost, hstep₁ _ fun acts => by rw [doInvoke_state]; exact hsteps⟩
end Calls
theorem vx_cls {s : State} {T : State} {vm₁ : Vm} {E : String} {k : ClassId} (hW : s.WarmedH vm₁) (h : (T.setVm vm₁).vm.findClass E = some k) : s.vm.findClass E = some k := by
  have h1 : vm₁.findClass E = some k := h
  rw [hW.alike.findClass] at h1
  exact h1
/-- the method's frame g, with q thrown over it -/
def vx_W (p : Program) (l : Launch) (e : Env) (R : Room) (s : State) (m : MethodId) (args : Array Value) (below : List Frame) (meth : Method) (c : Code) (H : Heap) (locs : List Loc) (cells slots : Nat) (Q : State → Prop) (g : JFrame) (q : Addr) : Prop :=
  ∀ T : State, T.heap = H → Stand p l e R s m args below meth c T locs cells slots → ∃ t, Steps p.tables e below ((T.setTop g).pushFrame (.throwing q)) t ∧ Q t
def vx_Run (p : Program) (l : Launch) (e : Env) (R : Room) (s : State) (m : MethodId) (args : Array Value) (below : List Frame) (meth : Method) (c : Code) (H : Heap) (locs : List Loc) (cells slots mc ms : Nat) (g : JFrame) (rest : List Value) (Qa : State → Outcome → State → Prop) (XC : String → State → State → Prop) (free : Addr → Prop) : Prop :=
  ∀ T : State, T.heap = H → Stand p l e R s m args below meth c T locs cells slots →
    (∃ (v : Option Value) (st₀ t T' : State) (L : List Loc), st₀.heap = H ∧ Stand p l e R s m args below meth c T' (locs ++ L) (cells + mc) (slots + ms) ∧ (∀ q ∈ L, free q.base) ∧ T'.heap = t.heap ∧ T'.vm = t.vm ∧ Qa st₀ (.returned v) t ∧
      Goes p e below T g T' { g with pc := g.pc + 3, stack := v.toList ++ rest }) ∨
    (∃ (q : Addr) (st₀ t T' : State) (L : List Loc) (E : String) (ce : Cell), st₀.heap = H ∧ Stand p l e R s m args below meth c T' (locs ++ L) (cells + mc) (slots + ms) ∧ (∀ z ∈ L, free z.base) ∧ T'.heap = t.heap ∧ T'.vm = t.vm ∧ XC E st₀ t ∧ t.heap[q]? = some ce ∧ ce.vm = .none ∧ s.vm.findClass E = some ce.cls ∧
      Steps p.tables e below (T.setTop g) ((T'.setTop { g with stack := rest }).pushFrame (.throwing q)))
def vx_X {S : Type} (px : S → Prop) (B : String → S → State → Prop) (A : Nat → Prop) : String → State → State → Prop := fun E st t => ∃ u : S, px u ∧ B E u t ∧ va_F A st t
section Runs
variable {p : Program} {l : Launch} {e : Env} {R : Room} {s : State} {m : MethodId} {args : Array Value} {below : List Frame} {meth : Method} {c : Code} {H : Heap} {locs : List Loc} {cells slots : Nat}
variable {y : MethodName} {bytes cc : ByteArray} {maxL nL mc ms n index : Nat} {ret : Option FieldType} {ws : List Cond} {rm : Room} {Pc : Array Value → State → Prop} {Qc : Array Value → State → Outcome → State → Prop} {XC : String → State → State → Prop} {free : Addr → Prop} {Ts : List Cond} {own C : String} {b : Addr} {As rest : List Value} {g : JFrame}
theorem vx_callBack (cb : CallB R s args own index y bytes maxL ret ws rm mc ms n) (hM : vx_Met l y ws rm Pc Qc XC mc ms free) (hbl : FrameBlind Pc) : vx_Back l R p e below s args y 3 8 (PreOf R mc ms Pc) (PostOf Qc mc ms free) (vx_Post XC mc ms free) := by
  obtain ⟨hrc, hrs, hfr, hlo, hws, hcw, -, hini, -⟩ := cb
  exact vx_back (bytes := bytes) (maxL := maxL) (ret := ret) hM hbl hrc hrs hfr hlo hws hcw (fun a' U hW => word_at hW (Or.inl (by first | rfl | simp [Cond.onTables, Cond.keeps, Cond.steady])) hini)
theorem vx_runV (S : CallFix p m c cc nL s args Ts own) (hM : vx_Met l y ws rm Pc Qc XC mc ms free) (cw : CallW R s args own C index y bytes maxL ret ws rm mc ms n) (hp : PreV s H C b Pc As)
    (hg : g.method = m) (hn : As.length = n) (hsize : g.locals.size = nL) (hstack : g.stack = As.reverse ++ .ref b :: rest) (hW : 2 * g.monitorRoom + (rest.map fun v => v.category).sum ≤ 8) (hdg : decode cc g.pc = .ok (.invokevirtual index, 3)) (hf : cells + mc ≤ R.cells ∧ slots + ms ≤ R.slots) :
    vx_Run p l e R s m args below meth c H locs cells slots mc ms g rest (Qc (Value.ref b :: As).toArray) XC free := by
  have hK : vx_Back l R p e below s args y 3 8 (PreOf R mc ms Pc) (PostOf Qc mc ms free) (vx_Post XC mc ms free) := vx_callBack cw.1 hM hp.1
  obtain ⟨⟨-, -, -, -, -, -, hcode, -, hy, hlen, hl⟩, hin, hse⟩ := cw
  obtain ⟨hx, hb, hml, ho, -⟩ := S
  obtain ⟨-, ⟨cellB, hcB, hoB, hclB⟩, hPc⟩ := hp
  intro T hT X
  rcases vx_callV X hx (C := C) (bytes := bytes) (maxL := maxL) (ret := ret) ho hl hin hse hcode hy hK (by rw [hT]; exact hcB) hoB hclB hg (hsize.trans hml.symm) (argsL := As) (rest := rest) (fun sig h => hn.trans (hlen sig h)) hstack hW (by rw [hb]; exact hdg)
    (fun vm₁ hW₁ => ⟨hf.1, hf.2, hPc (T.setVm vm₁) hT hW₁⟩) with ⟨v, vm₁, ⟨U', l2, c2, s2⟩, hW₁, X', ⟨g', mk, t, L, e1, e2, hq, h1, hL, h2, h3⟩, st⟩ | ⟨q, vm₁, ⟨U', l2, c2, s2⟩, hW₁, X', ⟨g', mk, t, L, E, ce, e1, e2, hq, hce, hcv, hcl, h1, hL, h2, h3⟩, st⟩
  · dsimp only [Pt.U, Pt.locs, Pt.cells, Pt.slots] at X' e1 e2 h1 h2 h3 st
    subst h1; subst h2; subst h3
    exact Or.inl ⟨v, (T.setVm vm₁).calling g' mk (Value.ref b :: As).toArray, t, U', L, hT, X', hL, e1, e2, hq, st⟩
  · dsimp only [Pt.U, Pt.locs, Pt.cells, Pt.slots] at X' e1 e2 h1 h2 h3 st hcl
    subst h1; subst h2; subst h3
    exact Or.inr ⟨q, (T.setVm vm₁).calling g' mk (Value.ref b :: As).toArray, t, U', L, E, ce, hT, X', hL, e1, e2, hq, hce, hcv, vx_cls hW₁ hcl, st⟩
theorem vx_runS (S : CallFix p m c cc nL s args Ts own) (hM : vx_Met l y ws rm Pc Qc XC mc ms free) (cw : CallB R s args own index y bytes maxL ret ws rm mc ms n ∧ (Cond.static y).before args s = true) (hp : PreS s H Pc As)
    (hg : g.method = m) (hn : As.length = n) (hsize : g.locals.size = nL) (hstack : g.stack = As.reverse ++ rest) (hW : 2 * g.monitorRoom + (rest.map fun v => v.category).sum ≤ 8) (hdg : decode cc g.pc = .ok (.invokestatic index, 3)) (hf : cells + mc ≤ R.cells ∧ slots + ms ≤ R.slots) :
    vx_Run p l e R s m args below meth c H locs cells slots mc ms g rest (Qc As.toArray) XC free := by
  have hK : vx_Back l R p e below s args y 3 8 (PreOf R mc ms Pc) (PostOf Qc mc ms free) (vx_Post XC mc ms free) := vx_callBack cw.1 hM hp.1
  obtain ⟨⟨-, -, -, -, -, -, hcode, hini, hy, hlen, hl⟩, hstt⟩ := cw
  obtain ⟨hx, hb, hml, ho, -⟩ := S
  intro T hT X
  rcases vx_callS X hx (bytes := bytes) (maxL := maxL) (ret := ret) ho hl hstt hini hcode hy hK hg (hsize.trans hml.symm) (argsL := As) (rest := rest) (fun sig h => hn.trans (hlen sig h)) hstack hW (by rw [hb]; exact hdg)
    (fun vm₁ hW₁ => ⟨hf.1, hf.2, hp.2 (T.setVm vm₁) hT hW₁⟩) with ⟨v, vm₁, ⟨U', l2, c2, s2⟩, hW₁, X', ⟨g', mk, t, L, e1, e2, hq, h1, hL, h2, h3⟩, st⟩ | ⟨q, vm₁, ⟨U', l2, c2, s2⟩, hW₁, X', ⟨g', mk, t, L, E, ce, e1, e2, hq, hce, hcv, hcl, h1, hL, h2, h3⟩, st⟩
  · dsimp only [Pt.U, Pt.locs, Pt.cells, Pt.slots] at X' e1 e2 h1 h2 h3 st
    subst h1; subst h2; subst h3
    exact Or.inl ⟨v, (T.setVm vm₁).calling g' mk As.toArray, t, U', L, hT, X', hL, e1, e2, hq, st⟩
  · dsimp only [Pt.U, Pt.locs, Pt.cells, Pt.slots] at X' e1 e2 h1 h2 h3 st hcl
    subst h1; subst h2; subst h3
    exact Or.inr ⟨q, (T.setVm vm₁).calling g' mk As.toArray, t, U', L, E, ce, hT, X', hL, e1, e2, hq, hce, hcv, vx_cls hW₁ hcl, st⟩
end Runs
section Rows
variable {p : Program} {l : Launch} {e : Env} {R : Room} {s : State} {m : MethodId} {args : Array Value} {below : List Frame} {meth : Method} {c : Code} {H : Heap} {locs : List Loc} {cells slots : Nat} {Q : State → Prop}
variable {mc ms : Nat} {free : Addr → Prop} {A0 A1 : Nat → Prop} {H0 : Heap} {a : Array Value} {pc : Nat} {ls : Array Slot} {st0 rest : List Value}
theorem vx_keep {st₀ t T' : State} {L : List Loc} (h0 : st₀.heap = H) (e1 : T'.heap = t.heap) (hS : va_S A0 H0 H locs) (hA : ∀ q, q < H.size → A1 q → A0 q) (hf : ∀ q, free q → A0 q) (hL : ∀ q ∈ L, free q.base) (hF : va_F A1 st₀ t) :
    H.size ≤ T'.heap.size ∧ (∀ q : Nat, q < H.size → ¬ A1 q → T'.heap[q]? = H[q]?) ∧ va_S A0 H0 T'.heap (locs ++ L) := by
  obtain ⟨hz, hk⟩ := hF
  rw [h0] at hz hk
  exact ⟨by rw [e1]; exact hz, fun q h1 h2 => by rw [e1]; exact hk q h1 h2,
    ⟨Nat.le_trans hS.1 (by rw [e1]; exact hz), fun q h1 h2 => by rw [e1, hk q (Nat.lt_of_lt_of_le h1 hS.1) (fun z => h2 (hA q (Nat.lt_of_lt_of_le h1 hS.1) z))]; exact hS.2.1 q h1 h2, fun q hq => by
      rcases List.mem_append.mp hq with h | h
      · exact hS.2.2 q h
      · exact hf _ (hL q h)⟩⟩
theorem vx_calli {S SX : Type} {post : Int32 → S → Prop} {px : SX → Prop} {B : S → State → Prop} {BX : String → SX → State → Prop} {AX : Nat → Prop} (hr : vx_Run p l e R s m args below meth c H locs cells slots mc ms (F0 m pc ls st0) rest (va_Qi post B A1 a) (vx_X px BX AX) free) (hS : va_S A0 H0 H locs) (hA : ∀ q, q < H.size → A1 q → A0 q) (hf : ∀ q, free q → A0 q) (hAX : ∀ q, q < H.size → AX q → A0 q)
    (kx : ∀ (E : String) (ce : Cell) (q9 : Addr) (u : SX) (t : State) (H1 : Heap) (locs1 : List Loc), t.heap = H1 → s.vm.Alike t.vm → px u → BX E u t → H.size ≤ H1.size → (∀ q : Nat, q < H.size → ¬ AX q → H1[q]? = H[q]?) → va_S A0 H0 H1 locs1 → H1[q9]? = some ce → ce.vm = .none → s.vm.findClass E = some ce.cls → vx_W p l e R s m args below meth c H1 locs1 (cells + mc) (slots + ms) Q (F0 m pc ls rest) q9)
    (kk : ∀ (r : Int32) (u : S) (t : State) (H1 : Heap) (locs1 : List Loc), t.heap = H1 → s.vm.Alike t.vm → post r u → B u t → H.size ≤ H1.size → (∀ q : Nat, q < H.size → ¬ A1 q → H1[q]? = H[q]?) → va_S A0 H0 H1 locs1 → W p l e R s m args below meth c H1 locs1 (cells + mc) (slots + ms) Q (F0 m (pc + 3) ls (.int r :: rest))) : W p l e R s m args below meth c H locs cells slots Q (F0 m pc ls st0) := by
  intro T hT X
  rcases hr T hT X with ⟨v, st₀, t, T', L, h0, X', hL, e1, e2, ⟨⟨r, u, hv, hp, hb⟩, hF⟩, st⟩ | ⟨q, st₀, t, T', L, E, ce, h0, X', hL, e1, e2, ⟨u, hp, hb, hF⟩, hce, hcv, hcl, st⟩
  · cases hv
    obtain ⟨k1, k2, k3⟩ := vx_keep h0 e1 hS hA hf hL hF
    obtain ⟨t2, a1, b1⟩ := kk r u t T'.heap (locs ++ L) e1.symm (by rw [← e2]; exact X'.warmed.alike) hp hb k1 k2 k3 T' rfl X'
    exact ⟨t2, st t2 a1, b1⟩
  · obtain ⟨k1, k2, k3⟩ := vx_keep h0 e1 hS hAX hf hL hF
    obtain ⟨t2, a1, b1⟩ := kx E ce q u t T'.heap (locs ++ L) e1.symm (by rw [← e2]; exact X'.warmed.alike) hp hb k1 k2 k3 (by rw [e1]; exact hce) hcv hcl T' rfl X'
    exact ⟨t2, st.trans a1, b1⟩
theorem vx_calll {S SX : Type} {post : Int64 → S → Prop} {px : SX → Prop} {B : S → State → Prop} {BX : String → SX → State → Prop} {AX : Nat → Prop} (hr : vx_Run p l e R s m args below meth c H locs cells slots mc ms (F0 m pc ls st0) rest (va_Ql post B A1 a) (vx_X px BX AX) free) (hS : va_S A0 H0 H locs) (hA : ∀ q, q < H.size → A1 q → A0 q) (hf : ∀ q, free q → A0 q) (hAX : ∀ q, q < H.size → AX q → A0 q)
    (kx : ∀ (E : String) (ce : Cell) (q9 : Addr) (u : SX) (t : State) (H1 : Heap) (locs1 : List Loc), t.heap = H1 → s.vm.Alike t.vm → px u → BX E u t → H.size ≤ H1.size → (∀ q : Nat, q < H.size → ¬ AX q → H1[q]? = H[q]?) → va_S A0 H0 H1 locs1 → H1[q9]? = some ce → ce.vm = .none → s.vm.findClass E = some ce.cls → vx_W p l e R s m args below meth c H1 locs1 (cells + mc) (slots + ms) Q (F0 m pc ls rest) q9)
    (kk : ∀ (r : Int64) (u : S) (t : State) (H1 : Heap) (locs1 : List Loc), t.heap = H1 → s.vm.Alike t.vm → post r u → B u t → H.size ≤ H1.size → (∀ q : Nat, q < H.size → ¬ A1 q → H1[q]? = H[q]?) → va_S A0 H0 H1 locs1 → W p l e R s m args below meth c H1 locs1 (cells + mc) (slots + ms) Q (F0 m (pc + 3) ls (.long r :: rest))) : W p l e R s m args below meth c H locs cells slots Q (F0 m pc ls st0) := by
  intro T hT X
  rcases hr T hT X with ⟨v, st₀, t, T', L, h0, X', hL, e1, e2, ⟨⟨r, u, hv, hp, hb⟩, hF⟩, st⟩ | ⟨q, st₀, t, T', L, E, ce, h0, X', hL, e1, e2, ⟨u, hp, hb, hF⟩, hce, hcv, hcl, st⟩
  · cases hv
    obtain ⟨k1, k2, k3⟩ := vx_keep h0 e1 hS hA hf hL hF
    obtain ⟨t2, a1, b1⟩ := kk r u t T'.heap (locs ++ L) e1.symm (by rw [← e2]; exact X'.warmed.alike) hp hb k1 k2 k3 T' rfl X'
    exact ⟨t2, st t2 a1, b1⟩
  · obtain ⟨k1, k2, k3⟩ := vx_keep h0 e1 hS hAX hf hL hF
    obtain ⟨t2, a1, b1⟩ := kx E ce q u t T'.heap (locs ++ L) e1.symm (by rw [← e2]; exact X'.warmed.alike) hp hb k1 k2 k3 (by rw [e1]; exact hce) hcv hcl T' rfl X'
    exact ⟨t2, st.trans a1, b1⟩
theorem vx_callf {S SX : Type} {post : UInt32 → S → Prop} {px : SX → Prop} {B : S → State → Prop} {BX : String → SX → State → Prop} {AX : Nat → Prop} (hr : vx_Run p l e R s m args below meth c H locs cells slots mc ms (F0 m pc ls st0) rest (va_Qf post B A1 a) (vx_X px BX AX) free) (hS : va_S A0 H0 H locs) (hA : ∀ q, q < H.size → A1 q → A0 q) (hf : ∀ q, free q → A0 q) (hAX : ∀ q, q < H.size → AX q → A0 q)
    (kx : ∀ (E : String) (ce : Cell) (q9 : Addr) (u : SX) (t : State) (H1 : Heap) (locs1 : List Loc), t.heap = H1 → s.vm.Alike t.vm → px u → BX E u t → H.size ≤ H1.size → (∀ q : Nat, q < H.size → ¬ AX q → H1[q]? = H[q]?) → va_S A0 H0 H1 locs1 → H1[q9]? = some ce → ce.vm = .none → s.vm.findClass E = some ce.cls → vx_W p l e R s m args below meth c H1 locs1 (cells + mc) (slots + ms) Q (F0 m pc ls rest) q9)
    (kk : ∀ (r : UInt32) (u : S) (t : State) (H1 : Heap) (locs1 : List Loc), t.heap = H1 → s.vm.Alike t.vm → post r u → B u t → H.size ≤ H1.size → (∀ q : Nat, q < H.size → ¬ A1 q → H1[q]? = H[q]?) → va_S A0 H0 H1 locs1 → W p l e R s m args below meth c H1 locs1 (cells + mc) (slots + ms) Q (F0 m (pc + 3) ls (.float r :: rest))) : W p l e R s m args below meth c H locs cells slots Q (F0 m pc ls st0) := by
  intro T hT X
  rcases hr T hT X with ⟨v, st₀, t, T', L, h0, X', hL, e1, e2, ⟨⟨r, u, hv, hp, hb⟩, hF⟩, st⟩ | ⟨q, st₀, t, T', L, E, ce, h0, X', hL, e1, e2, ⟨u, hp, hb, hF⟩, hce, hcv, hcl, st⟩
  · cases hv
    obtain ⟨k1, k2, k3⟩ := vx_keep h0 e1 hS hA hf hL hF
    obtain ⟨t2, a1, b1⟩ := kk r u t T'.heap (locs ++ L) e1.symm (by rw [← e2]; exact X'.warmed.alike) hp hb k1 k2 k3 T' rfl X'
    exact ⟨t2, st t2 a1, b1⟩
  · obtain ⟨k1, k2, k3⟩ := vx_keep h0 e1 hS hAX hf hL hF
    obtain ⟨t2, a1, b1⟩ := kx E ce q u t T'.heap (locs ++ L) e1.symm (by rw [← e2]; exact X'.warmed.alike) hp hb k1 k2 k3 (by rw [e1]; exact hce) hcv hcl T' rfl X'
    exact ⟨t2, st.trans a1, b1⟩
theorem vx_calld {S SX : Type} {post : UInt64 → S → Prop} {px : SX → Prop} {B : S → State → Prop} {BX : String → SX → State → Prop} {AX : Nat → Prop} (hr : vx_Run p l e R s m args below meth c H locs cells slots mc ms (F0 m pc ls st0) rest (va_Qd post B A1 a) (vx_X px BX AX) free) (hS : va_S A0 H0 H locs) (hA : ∀ q, q < H.size → A1 q → A0 q) (hf : ∀ q, free q → A0 q) (hAX : ∀ q, q < H.size → AX q → A0 q)
    (kx : ∀ (E : String) (ce : Cell) (q9 : Addr) (u : SX) (t : State) (H1 : Heap) (locs1 : List Loc), t.heap = H1 → s.vm.Alike t.vm → px u → BX E u t → H.size ≤ H1.size → (∀ q : Nat, q < H.size → ¬ AX q → H1[q]? = H[q]?) → va_S A0 H0 H1 locs1 → H1[q9]? = some ce → ce.vm = .none → s.vm.findClass E = some ce.cls → vx_W p l e R s m args below meth c H1 locs1 (cells + mc) (slots + ms) Q (F0 m pc ls rest) q9)
    (kk : ∀ (r : UInt64) (u : S) (t : State) (H1 : Heap) (locs1 : List Loc), t.heap = H1 → s.vm.Alike t.vm → post r u → B u t → H.size ≤ H1.size → (∀ q : Nat, q < H.size → ¬ A1 q → H1[q]? = H[q]?) → va_S A0 H0 H1 locs1 → W p l e R s m args below meth c H1 locs1 (cells + mc) (slots + ms) Q (F0 m (pc + 3) ls (.double r :: rest))) : W p l e R s m args below meth c H locs cells slots Q (F0 m pc ls st0) := by
  intro T hT X
  rcases hr T hT X with ⟨v, st₀, t, T', L, h0, X', hL, e1, e2, ⟨⟨r, u, hv, hp, hb⟩, hF⟩, st⟩ | ⟨q, st₀, t, T', L, E, ce, h0, X', hL, e1, e2, ⟨u, hp, hb, hF⟩, hce, hcv, hcl, st⟩
  · cases hv
    obtain ⟨k1, k2, k3⟩ := vx_keep h0 e1 hS hA hf hL hF
    obtain ⟨t2, a1, b1⟩ := kk r u t T'.heap (locs ++ L) e1.symm (by rw [← e2]; exact X'.warmed.alike) hp hb k1 k2 k3 T' rfl X'
    exact ⟨t2, st t2 a1, b1⟩
  · obtain ⟨k1, k2, k3⟩ := vx_keep h0 e1 hS hAX hf hL hF
    obtain ⟨t2, a1, b1⟩ := kx E ce q u t T'.heap (locs ++ L) e1.symm (by rw [← e2]; exact X'.warmed.alike) hp hb k1 k2 k3 (by rw [e1]; exact hce) hcv hcl T' rfl X'
    exact ⟨t2, st.trans a1, b1⟩
theorem vx_callv {S SX : Type} {post : S → Prop} {px : SX → Prop} {B : S → State → Prop} {BX : String → SX → State → Prop} {AX : Nat → Prop} (hr : vx_Run p l e R s m args below meth c H locs cells slots mc ms (F0 m pc ls st0) rest (va_Qv post B A1 a) (vx_X px BX AX) free) (hS : va_S A0 H0 H locs) (hA : ∀ q, q < H.size → A1 q → A0 q) (hf : ∀ q, free q → A0 q) (hAX : ∀ q, q < H.size → AX q → A0 q)
    (kx : ∀ (E : String) (ce : Cell) (q9 : Addr) (u : SX) (t : State) (H1 : Heap) (locs1 : List Loc), t.heap = H1 → s.vm.Alike t.vm → px u → BX E u t → H.size ≤ H1.size → (∀ q : Nat, q < H.size → ¬ AX q → H1[q]? = H[q]?) → va_S A0 H0 H1 locs1 → H1[q9]? = some ce → ce.vm = .none → s.vm.findClass E = some ce.cls → vx_W p l e R s m args below meth c H1 locs1 (cells + mc) (slots + ms) Q (F0 m pc ls rest) q9)
    (kk : ∀ (u : S) (t : State) (H1 : Heap) (locs1 : List Loc), t.heap = H1 → s.vm.Alike t.vm → post u → B u t → H.size ≤ H1.size → (∀ q : Nat, q < H.size → ¬ A1 q → H1[q]? = H[q]?) → va_S A0 H0 H1 locs1 → W p l e R s m args below meth c H1 locs1 (cells + mc) (slots + ms) Q (F0 m (pc + 3) ls (rest))) : W p l e R s m args below meth c H locs cells slots Q (F0 m pc ls st0) := by
  intro T hT X
  rcases hr T hT X with ⟨v, st₀, t, T', L, h0, X', hL, e1, e2, ⟨⟨u, hv, hp, hb⟩, hF⟩, st⟩ | ⟨q, st₀, t, T', L, E, ce, h0, X', hL, e1, e2, ⟨u, hp, hb, hF⟩, hce, hcv, hcl, st⟩
  · cases hv
    obtain ⟨k1, k2, k3⟩ := vx_keep h0 e1 hS hA hf hL hF
    obtain ⟨t2, a1, b1⟩ := kk u t T'.heap (locs ++ L) e1.symm (by rw [← e2]; exact X'.warmed.alike) hp hb k1 k2 k3 T' rfl X'
    exact ⟨t2, st t2 a1, b1⟩
  · obtain ⟨k1, k2, k3⟩ := vx_keep h0 e1 hS hAX hf hL hF
    obtain ⟨t2, a1, b1⟩ := kx E ce q u t T'.heap (locs ++ L) e1.symm (by rw [← e2]; exact X'.warmed.alike) hp hb k1 k2 k3 (by rw [e1]; exact hce) hcv hcl T' rfl X'
    exact ⟨t2, st.trans a1, b1⟩
/-- caught by the row x of this method's table; the rows ahead don't take it -/
theorem vx_catch {own name : String} {E : String} {ce : Cell} {q : Addr} (hown : s.vm.findClass own = some m.cls) (pre : List ExceptionTableEntry) (x : ExceptionTableEntry) (suf : List ExceptionTableEntry) (hsplit : c.exceptionTable.toList = pre ++ x :: suf)
    (hpass : ∀ z ∈ pre, covers z pc = false ∨ (z.catchType ≠ 0 ∧ ∃ nm : String, (Cond.classLink own z.catchType nm).before args s = true ∧ va_Nc E nm s)) (hx : covers x pc = true) (h0 : x.catchType ≠ 0)
    (hlink : (Cond.classLink own x.catchType name).before args s = true) (hcast : (Cond.castable E name).before args s = true) (hcell : H[q]? = some ce) (hv : ce.vm = .none) (hcl : s.vm.findClass E = some ce.cls)
    (kk : W p l e R s m args below meth c H locs cells slots Q (F0 m x.handlerPc ls [.ref q])) : vx_W p l e R s m args below meth c H locs cells slots Q (F0 m pc ls rest) q := by
  intro T hT X
  have hpl : e.platform.magicAccessors = ({} : Platform).magicAccessors := by rw [X.admits.platform]
  obtain ⟨c3, c4, hc3, hc4, hasg⟩ := Cond.castable_spec hcast
  cases Option.some.inj (hc3.symm.trans hcl)
  obtain ⟨c5, hc5, hcl5⟩ := Cond.classLink_spec hown hlink e.platform hpl
  cases Option.some.inj (hc4.symm.trans hc5)
  obtain ⟨vm', X', st⟩ := X.thenCaughtThrough q (g := F0 m pc ls rest) rfl (Steps.refl _) (by rw [hT]; exact hcell) (by rw [hv]; rfl) (by obtain ⟨k9, h9, -⟩ := Vm.findClass_spec hcl; exact ⟨k9, h9⟩) pre x suf hsplit
    (fun z hz => by
      rcases hpass z hz with h | ⟨hz0, nm, hl1, hn1⟩
      · exact Or.inl h
      · obtain ⟨c6, hc6, hcl6⟩ := Cond.classLink_spec hown hl1 e.platform hpl
        obtain ⟨a8, b8, h1, h2, h3⟩ := hn1
        cases Option.some.inj (h1.symm.trans hcl)
        cases Option.some.inj (h2.symm.trans hc6)
        exact Or.inr ⟨hz0, _, hcl6, h3⟩) hx (Or.inr ⟨h0, c4, hcl5, hasg⟩)
  obtain ⟨t, a1, b1⟩ := kk (T.setVm vm') hT X'
  exact ⟨t, st.trans a1, b1⟩
end Rows
section Ends
variable {p : Program} {l : Launch} {e : Env} {R : Room} {s : State} {m : MethodId} {args : Array Value} {below : List Frame} {meth : Method} {c : Code} {H : Heap} {locs : List Loc} {cells slots : Nat} {Q : State → Prop}
variable {mc ms : Nat} {free : Addr → Prop} {A0 A1 : Nat → Prop} {H0 : Heap} {a : Array Value} {ls : Array Slot} {st0 rest : List Value}
variable {Qc : Array Value → State → Outcome → State → Prop} {XC : String → State → State → Prop}
/-- what a body that may throw owes at its end -/
def vx_MQ (below : List Frame) (Qc : Array Value → State → Outcome → State → Prop) (XC : String → State → State → Prop) (a : Array Value) (s : State) (mc ms : Nat) (free : Addr → Prop) : State → Prop := fun t =>
  ∃ o, t.status = .running ∧ Ended t below o ∧ vx_Q Qc XC mc ms free a s o t
theorem vx_ret {g : JFrame} {mc ms : Nat} (k : W p l e R s m args below meth c H locs cells slots (MQ below Qc args s mc ms free) g) : W p l e R s m args below meth c H locs cells slots (vx_MQ below Qc XC args s mc ms free) g := by
  intro T hT X
  obtain ⟨t, a1, o, b1, b2, b3, b4⟩ := k T hT X
  exact ⟨t, a1, o, b1, b2, Or.inl ⟨b3, b4⟩⟩
/-- not caught here: it goes on to the caller -/
theorem vx_widen {g : JFrame} {q : Addr} {k n : Nat} (h1 : cells ≤ k) (h2 : slots ≤ n) (kk : vx_W p l e R s m args below meth c H locs k n Q g q) : vx_W p l e R s m args below meth c H locs cells slots Q g q := fun T hT X => kk T hT (stand_widen X h1 h2)
theorem vx_out {pc : Nat} {E : String} {ce : Cell} {q : Addr} {mc ms : Nat} (hout : ∀ x ∈ c.exceptionTable.toList, covers x pc = false) (hlocks : meth.locks = false) (hcell : H[q]? = some ce) (hv : ce.vm = .none) (hcl : s.vm.findClass E = some ce.cls)
    (hx : ∀ t : State, t.heap = H → s.vm.Alike t.vm → XC E s t) (hf : ∀ z ∈ locs, free z.base) (hc : cells ≤ mc) (hs : slots ≤ ms) :
    vx_W p l e R s m args below meth c H locs cells slots (vx_MQ below Qc XC args s mc ms free) (F0 m pc ls rest) q := by
  intro T hT X
  obtain ⟨st1, hrun, hend, hW, hsm⟩ := X.leaveThrown q (g := F0 m pc ls rest) rfl rfl rfl hout hlocks
  have hcell9 : (T.setFrames (.throwing q :: below)).heap[q]? = some ce := by
    show T.heap[q]? = some ce
    rw [hT]; exact hcell
  exact ⟨_, st1, .threw q, hrun, hend, Or.inr ⟨q, rfl, E, ce, locs, hx _ hT hW.alike, hcell9, hv, hcl, hW, hsm.mono hc hs, hf⟩⟩
theorem vx_frame {U : State} {k n : Nat} (h : s.sameButNew ({ U with vm := s.vm } : State) locs k n) : s.heap.size ≤ U.heap.size ∧ ∀ q : Nat, q < s.heap.size → (∀ z ∈ locs, z.base ≠ q) → U.heap[q]? = s.heap[q]? := by
  obtain ⟨-, h2, -, -, -, h6⟩ := h
  refine ⟨h2, fun q hq hz => ?_⟩
  obtain ⟨c9, e1, e2, e3, e4⟩ := h6 q _ (Array.getElem?_eq_getElem hq)
  have hs : c9.slots = (s.heap[q]).slots := Array.ext_getElem? fun i => e4 i fun hm => hz _ hm rfl
  have h9 : c9 = s.heap[q] := by
    rw [hs] at e2
    exact e2
  have e5 : U.heap[q]? = some c9 := e1
  rw [e5, h9, Array.getElem?_eq_getElem hq]
/-- the words of a throw but the four that speak of the heap -/
def vx_no (w : Cond) : Bool := decide (w ≠ .isRef (.static Bundle.tN "UNASSIGNED_STACK" Bundle.steD)) && decide (w ≠ .isRef (.static Bundle.tN "SUPPRESSED_SENTINEL" Bundle.listD)) && decide (w ≠ .laysStatic Bundle.tN "UNASSIGNED_STACK" Bundle.steD) && decide (w ≠ .laysStatic Bundle.tN "SUPPRESSED_SENTINEL" Bundle.listD)
def vx_at0 (own : String) (ic : Nat) (X : String) (names : List String) : List Cond := (Bundle.ownAtoms0 own ic X names).filter vx_no
def vx_atS (own : String) (ic : Nat) (X : String) (names : List String) : List Cond := (Bundle.ownAtoms own ic X names).filter vx_no
/-- a word that the tables alone decide, or a good one -/
def vx_ot (w : Cond) : Bool := w.onTables || goodWord w
theorem vx_ot_at {args a' : Array Value} {s U : State} {w : Cond} (hW : s.WarmedH U.vm) (hvm : s.vm = U.vm) (hg : vx_ot w = true) (h : w.before args s = true) : w.before a' U = true := by
  simp only [vx_ot, Bool.or_eq_true] at hg
  rcases hg with hg | hg
  · exact va_tabs hg hvm h
  · exact word_at hW (good_of_word hg) h
/-- a list's words: the good ones out of the method's own list, the others by premises of their own -/
theorem vx_hat {args : Array Value} {s : State} {L B : List Cond} (h1 : ∀ w ∈ L.filter goodWord, w.before args s = true) (h2 : ∀ w ∈ L.filter (fun w => !goodWord w), w ∈ B) (h3 : ∀ w ∈ B, w.before args s = true) : ∀ w ∈ L, w.before args s = true := by
  intro w hw
  by_cases g : goodWord w = true
  · exact h1 w (List.mem_filter.mpr ⟨hw, g⟩)
  · refine h3 w (h2 w (List.mem_filter.mpr ⟨hw, ?_⟩))
    show (!goodWord w) = true
    cases hgw : goodWord w
    · rfl
    · exact absurd hgw g
theorem vx_c {args : Array Value} {s : State} {w : Cond} {B : List Cond} (h : w.before args s = true) (t : ∀ w ∈ B, w.before args s = true) : ∀ w' ∈ w :: B, w'.before args s = true := fun w' h' => (List.mem_cons.mp h').elim (fun e => by rw [e]; exact h) (t w')
theorem vx_n {args : Array Value} {s : State} : ∀ w ∈ ([] : List Cond), w.before args s = true := fun _ h => nomatch h
theorem vx_own {args : Array Value} {s : State} {L : List Cond} (h1 : ∀ w ∈ L.filter vx_no, w.before args s = true)
    (hU : (Cond.isRef (.static Bundle.tN "UNASSIGNED_STACK" Bundle.steD)).before args s = true) (hN : (Cond.isRef (.static Bundle.tN "SUPPRESSED_SENTINEL" Bundle.listD)).before args s = true)
    (lU : (Cond.laysStatic Bundle.tN "UNASSIGNED_STACK" Bundle.steD).before args s = true) (lN : (Cond.laysStatic Bundle.tN "SUPPRESSED_SENTINEL" Bundle.listD).before args s = true) : ∀ w ∈ L, w.before args s = true := by
  intro w hw
  by_cases e1 : w = .isRef (.static Bundle.tN "UNASSIGNED_STACK" Bundle.steD)
  · rw [e1]; exact hU
  · by_cases e2 : w = .isRef (.static Bundle.tN "SUPPRESSED_SENTINEL" Bundle.listD)
    · rw [e2]; exact hN
    · by_cases e3 : w = .laysStatic Bundle.tN "UNASSIGNED_STACK" Bundle.steD
      · rw [e3]; exact lU
      · by_cases e4 : w = .laysStatic Bundle.tN "SUPPRESSED_SENTINEL" Bundle.listD
        · rw [e4]; exact lN
        · exact h1 w (List.mem_filter.mpr ⟨hw, by unfold vx_no; rw [decide_eq_true e1, decide_eq_true e2, decide_eq_true e3, decide_eq_true e4]; rfl⟩)
/-- where a static field lies, its class's statics cell in H -/
def vx_L (C n d : String) (A : Nat → Prop) (U : State) (H : Heap) : Prop := ∃ (c : ClassId) (k : Class) (i : Nat) (f : Field) (a : Nat) (cell : Cell), U.vm.findClass C = some c ∧ U.fieldFound? C n d = some (c, k, i, f) ∧ f.isStatic = true ∧ k.statics = some a ∧ H[a]? = some cell ∧ cell.vm.isStatics = true ∧ cell.cls = c ∧ f.slot < cell.slots.size ∧ k.staticTypes[f.slot]? = some f.type ∧ ¬ A a
theorem vx_L.moved {C n d : String} {A : Nat → Prop} {u U : State} {H : Heap} (hvm : u.vm.Alike U.vm) (h : vx_L C n d A u H) : vx_L C n d A U H := by
  obtain ⟨c, k, i, f, a, cell, h1, h2, h3, h4, h5, h6, h7, h8, h9, h10⟩ := h
  obtain ⟨k', hi', he⟩ := State.fieldFound?_setVm hvm h2
  exact ⟨c, k', i, f, a, cell, by rw [hvm.findClass]; exact h1, hi', h3, by rw [he]; exact h4, h5, h6, h7, h8, by rw [he]; exact h9, h10⟩
theorem vx_L.kept {C n d : String} {A : Nat → Prop} {U : State} {H H1 : Heap} (h : vx_L C n d A U H) (hq : ∀ a : Nat, a < H.size → ¬ A a → H1[a]? = H[a]?) : vx_L C n d A U H1 := by
  obtain ⟨c, k, i, f, a, cell, h1, h2, h3, h4, h5, h6, h7, h8, h9, h10⟩ := h
  exact ⟨c, k, i, f, a, cell, h1, h2, h3, h4, by rw [hq a (Array.getElem?_eq_some_iff.mp h5).1 h10]; exact h5, h6, h7, h8, h9, h10⟩
theorem vx_L.narrow {C n d : String} {A B : Nat → Prop} {U : State} {H : Heap} (h : vx_L C n d A U H) (hAB : ∀ q, B q → A q) : vx_L C n d B U H := by
  obtain ⟨c, k, i, f, a, cell, h1, h2, h3, h4, h5, h6, h7, h8, h9, h10⟩ := h
  exact ⟨c, k, i, f, a, cell, h1, h2, h3, h4, h5, h6, h7, h8, h9, fun z => h10 (hAB _ z)⟩
theorem vx_L.word {C n d : String} {A : Nat → Prop} {s : State} {args : Array Value} (h : vx_L C n d A s s.heap) : (Cond.laysStatic C n d).before args s = true := by
  obtain ⟨c, k, i, f, a, cell, h1, h2, h3, h4, h5, h6, h7, h8, h9, -⟩ := h
  show (Cond.laysStatic C n d).holds args s none s [] = true
  exact Cond.laysStatic_of h1 h2 h3 h4 h5 h6 h7 h8 h9
/-- .. and what it holds: null or some reference -/
def vx_Zq (C n d : String) (A : Nat → Prop) (U : State) (H : Heap) : Prop := va_Zq C n d A U H ∧ vx_L C n d A U H
theorem vx_Zq.moved {C n d : String} {A : Nat → Prop} {u U : State} {H : Heap} (hvm : u.vm.Alike U.vm) (h : vx_Zq C n d A u H) : vx_Zq C n d A U H := ⟨va_Zq.moved hvm h.1, vx_L.moved hvm h.2⟩
theorem vx_Zq.kept {C n d : String} {A : Nat → Prop} {U : State} {H H1 : Heap} (h : vx_Zq C n d A U H) (hq : ∀ a : Nat, a < H.size → ¬ A a → H1[a]? = H[a]?) : vx_Zq C n d A U H1 := ⟨va_Zq.kept h.1 hq, vx_L.kept h.2 hq⟩
theorem vx_Zq.narrow {C n d : String} {A B : Nat → Prop} {U : State} {H : Heap} (h : vx_Zq C n d A U H) (hAB : ∀ q, B q → A q) : vx_Zq C n d B U H := ⟨va_Zq.narrow h.1 hAB, vx_L.narrow h.2 hAB⟩
theorem vx_Zqof {args : Array Value} {s : State} {C n d : String} {A : Nat → Prop} (hl : (Cond.laysStatic C n d).before args s = true) (hini : (Cond.initialized C).before args s = true) (h : (Cond.isRef (.static C n d)).before args s = true) (hA : ∀ a : Nat, a < s.heap.size → ¬ A a) : vx_Zq C n d A s s.heap := by
  refine ⟨va_Zqof hl hini h hA, ?_⟩
  obtain ⟨c, k, i, f, a, cell, h1, h2, h3, h4, h5, h6, h7, h8, h9⟩ := Cond.laysStatic_spec hl
  exact ⟨c, k, i, f, a, cell, h1, h2, h3, h4, h5, h6, h7, h8, h9, hA a (Array.getElem?_eq_some_iff.mp h5).1⟩
theorem vx_isRef {C n d : String} {v : Value} {A : Nat → Prop} {s : State} {args : Array Value} (h : va_Z C n d v A s s.heap) (hv : v.isRef = true) : (Cond.isRef (.static C n d)).before args s = true := by
  obtain ⟨cf, kf, fi, f, a, cell, h1, h2, h3, h4, h5, h6, h7, -⟩ := h
  have he : (Term.static C n d).eval args s none [] s = some v := by
    simp [Term.eval, State.fieldNamed?, h1, h2, h4, h5, h6, h7]
  simp only [Cond.before, Cond.holds, Cond.value, he]
  cases v <;> simp_all [Value.isRef]
theorem vx_isRefq {C n d : String} {A : Nat → Prop} {s : State} {args : Array Value} (h : va_Zq C n d A s s.heap) : (Cond.isRef (.static C n d)).before args s = true := by
  rcases h with h | ⟨t, h⟩
  · exact vx_isRef h rfl
  · exact vx_isRef h rfl
/-- the same frame, seen from here: as if the method were called anew in this heap -/
theorem vx_rebase {T : State} (X : Stand p l e R s m args below meth c T locs cells slots) {R' : Room} (hf : R'.frames ≤ R.frames) (hl : R'.locals ≤ R.locals) (hc : cells + R'.cells ≤ R.cells) (hs : slots + R'.slots ≤ R.slots) :
    Stand p l e R' ((T.setVm s.vm).setFrames (.invoking m args :: below)) m args below meth c T [] 0 0 := by
  have htop : (T.setVm s.vm).topJava?.isSome := X.here.top
  have hF : ((T.setVm s.vm).setFrames (.invoking m args :: below)).frames = .invoking m args :: below := State.frames_setFrames _ (State.cur_lt_of_top htop)
  obtain ⟨g₀, hg0⟩ := Option.isSome_iff_exists.mp htop
  obtain ⟨r, hr⟩ := State.topJava?_eq_some.mp hg0
  have hl9 : e.platform.stackLimits (T.setVm s.vm).me = e.platform.stackLimits s.me := X.limits
  have hb9 : (T.setVm s.vm).me.stackBytes = s.me.stackBytes := X.bytes
  refine ⟨X.admits, X.cas, X.clock, hF, ?_, X.hears, X.method, X.code, X.here, X.tail, X.warmed, ?_, ?_, ?_⟩
  · have h := X.room
    have hU : ((T.setVm s.vm).setFrames (.invoking m args :: below)).localsInUse = s.localsInUse := by
      rw [State.localsInUse_invoking hF (meth := meth) (c := c) X.method X.code, State.localsInUse_invoking X.frames X.method X.code]
    simp only [State.hasRoom, Bool.and_eq_true, decide_eq_true_eq] at h ⊢
    obtain ⟨⟨⟨⟨h1, h2, h3, h4, h5, h6⟩, h7⟩, h8⟩, h9⟩ := h
    rw [X.frames, List.length_cons] at h2 h3
    have q1 := X.heapSize
    have q2 := X.used
    simp only [hF, hU, List.length_cons, State.stackLimits_setFrames, State.stackBytes_setFrames, hl9, hb9]
    refine ⟨⟨⟨⟨by omega, by omega, by omega, by omega, by omega, h6⟩, ?_⟩, ?_⟩, X.book⟩
    · show T.heap.size + R'.cells ≤ e.platform.maxCells
      omega
    · show T.slotsUsed + R'.slots ≤ e.platform.maxSlots
      omega
  · rw [State.stackLimits_setFrames]; rfl
  · rw [State.stackBytes_setFrames]; rfl
  · refine ⟨?_, Nat.le_refl _, Nat.le_refl _, ?_, ?_, fun a c9 h9 => ⟨c9, h9, rfl, rfl, fun _ _ => rfl⟩⟩
    · obtain ⟨t, ht, -⟩ := State.frames_cons hr
      show T.setVm s.vm = { ((T.setVm s.vm).setFrames (.invoking m args :: below)).setFrames (T.setVm s.vm).frames with heap := T.heap, slotsUsed := T.slotsUsed }
      rw [State.setFrames_setFrames, State.setFrames_self ht]
      rfl
    · show T.slotsUsed = T.slotsUsed + ((T.heap.toList.drop T.heap.size).map (·.slots.size)).sum
      rw [List.drop_eq_nil_of_le (Nat.le_of_eq Array.length_toList)]
      rfl
    · show ((T.heap.toList.drop T.heap.size).map (·.slots.size)).sum ≤ 0
      rw [List.drop_eq_nil_of_le (Nat.le_of_eq Array.length_toList)]
      exact Nat.le_refl _
/-- 'throw new E()': new; dup; invokespecial; athrow -/
theorem vx_throw0 {cc : ByteArray} {pc : Nat} (hexec : p.tables.exec = Jvm.exec) (hb : c.code = cc) (hl : l.stackTraces = false) {own cls : String} {names : List String} {ik ic mc ms : Nat} {A : Nat → Prop}
    (hown : s.vm.findClass own = some m.cls) (hcls : Bundle.fit cls = true) (hnames : ∀ n ∈ names, Bundle.fit n = true)
    (hk : (Cond.classLink own ik cls).before args s = true) (hini : (Cond.initialized cls).before args s = true) (hat : ∀ w ∈ vx_at0 own ic cls names, w.before args s = true)
    (hgood : ∀ w ∈ Cond.classLink own ik cls :: Cond.initialized cls :: vx_at0 own ic cls names, vx_ot w = true)
    (hU : vx_Zq Bundle.tN "UNASSIGNED_STACK" Bundle.steD A s s.heap) (hN : vx_Zq Bundle.tN "SUPPRESSED_SENTINEL" Bundle.listD A s s.heap) (hS : va_S A s.heap H locs) (hsize : ls.size = c.maxLocals)
    (d0 : decode cc pc = .ok (.new ik, 3)) (d3 : decode cc (pc + 3) = .ok (.dup, 1)) (d4 : decode cc (pc + 4) = .ok (.invokespecial ic, 3)) (d7 : decode cc (pc + 7) = .ok (.athrow, 1))
    (hout : ∀ x ∈ c.exceptionTable.toList, covers x (pc + 7) = false)
    (hRframes : names.length + 3 < R.frames) (hRlocals : (rest.map fun v => v.category).sum + (13 * (names.length + 1) + 42) ≤ R.locals) (hRcells : cells + 1 ≤ R.cells) (hRslots : slots + 6 ≤ R.slots) (hlocks : meth.locks = false)
    (hx : ∀ t : State, s.vm.Alike t.vm → H.size ≤ t.heap.size → (∀ q : Nat, q < H.size → t.heap[q]? = H[q]?) → XC cls s t)
    (hf : ∀ z ∈ locs, free z.base) (hc : cells + 1 ≤ mc) (hs : slots + 6 ≤ ms) :
    W p l e R s m args below meth c H locs cells slots (vx_MQ below Qc XC args s mc ms free) (F0 m pc ls rest) := by
  intro T hT X
  have htr : e.platform.stackTraces = false := (show e.platform.stackTraces = l.stackTraces by rw [X.admits.platform]).trans hl
  have Y := vx_rebase X (R' := { frames := R.frames, locals := R.locals, cells := 1, slots := 6 }) (Nat.le_refl _) (Nat.le_refl _) hRcells hRslots
  obtain ⟨s', hA⟩ : ∃ z, z = (T.setVm s.vm).setFrames (.invoking m args :: below) := ⟨_, rfl⟩
  rw [← hA] at Y
  have hvm : s'.vm = s.vm := by rw [hA]; rfl
  have hhp : s'.heap = H := by rw [hA]; exact hT
  have hW0 : s.WarmedH s'.vm := by rw [hvm]; exact State.WarmedH.refl s
  have hat' : ∀ w ∈ vx_at0 own ic cls names, w.before args s' = true := fun w hw => vx_ot_at hW0 hvm.symm (hgood w (List.mem_cons_of_mem _ (List.mem_cons_of_mem _ hw))) (hat w hw)
  have hk' : (Cond.classLink own ik cls).before args s' = true := vx_ot_at hW0 hvm.symm (hgood _ List.mem_cons_self) hk
  have hini' : (Cond.initialized cls).before args s' = true := vx_ot_at hW0 hvm.symm (hgood _ (List.mem_cons_of_mem _ List.mem_cons_self)) hini
  have hU' : vx_Zq Bundle.tN "UNASSIGNED_STACK" Bundle.steD A s' s'.heap := by rw [hhp]; exact vx_Zq.moved hW0.alike (hU.kept hS.2.1)
  have hN' : vx_Zq Bundle.tN "SUPPRESSED_SENTINEL" Bundle.listD A s' s'.heap := by rw [hhp]; exact vx_Zq.moved hW0.alike (hN.kept hS.2.1)
  have h : ∀ w ∈ Bundle.ownAtoms0 own ic cls names, w.before args s' = true := vx_own hat' (vx_isRefq hU'.1) (vx_isRefq hN'.1) hU'.2.word hN'.2.word
  have hown' : s'.vm.findClass own = some m.cls := by rw [hvm]; exact hown
  have hins : (Cond.instantiable cls 6).before args s' = true := h _ (by simp [Bundle.ownAtoms0])
  obtain ⟨vm₁, cX, kX, hfX, hkX, -, -, X₁, st1⟩ := Y.newCold hexec (own := own) (C := cls) (index := ik) (n := 6) hown' hk' hins hini'
    (g := F0 m pc ls rest) rfl (by rw [hb]; exact d0) (Nat.le_refl _) (Nat.le_refl _)
  generalize hT1 : (T.setVm vm₁).pushCell { cls := cX, slots := kX.instanceTypes.map defaultValue, vm := .none } = T1 at X₁ st1
  have hcat : (Value.ref T.heap.size).category = 1 := rfl
  have hcellA : T1.heap[T.heap.size]? = some (freshCell cX kX) := by rw [← hT1]; exact State.heap_pushCell_size _ _
  have d3' : decode c.code (pc + 3) = .ok (.dup, 1) := by rw [hb]; exact d3
  obtain ⟨U, hsteps, hrun, hend, hW, hsame, ce, hce, hO⟩ := X₁.ctorThrow0 hexec htr (own := own) (cls := cls) (names := names) (ic := ic) hown' hcls hnames h (fun x hx => nomatch hx) hfX hkX hcellA (by rw [hhp, hT]; exact Nat.le_refl _)
    (g := { method := m, pc := pc + 4, locals := ls, stack := .ref T.heap.size :: .ref T.heap.size :: rest, locked := none }) rfl hsize rfl rfl (rest := rest) rfl
    (by rw [hb]; exact d4) (by rw [hb]; exact d7) hout hRframes (by simp only [List.map_cons, List.sum_cons, hcat]; omega) hlocks
  obtain ⟨f1, f2⟩ := vx_frame hsame
  rw [hhp] at f1 f2
  have hWs : s.WarmedH U.vm := State.WarmedH.trans hW0 hW
  have hcl : s.vm.findClass cls = some ce.cls := by
    have h9 := hO.cls
    rw [hvm] at h9
    exact h9
  have hall : s.sameButNew ({ U with vm := s.vm } : State) locs mc ms := by
    subst hA
    obtain ⟨e1, e2⟩ := hsame
    rw [State.setFrames_setFrames] at e1
    have h2 : (T.setVm s.vm).sameButNew ({ U with vm := s.vm } : State) [] (0 + 1) (0 + 6) := ⟨e1, e2⟩
    have h3 := X.same.trans h2
    rw [List.append_nil] at h3
    exact h3.mono hc hs
  refine ⟨U, ?_, .threw T.heap.size, hrun, hend, Or.inr ⟨T.heap.size, rfl, cls, ce, locs, hx U hWs.alike f1 (fun q hq => f2 q hq (fun z hz => nomatch hz)), hce, hO.vm, hcl, hWs, hall, hf⟩⟩
  refine st1 _ ?_
  show Steps p.tables e below (T1.setTop { method := m, pc := pc + 3, locals := ls, stack := .ref T.heap.size :: rest, locked := none }) _
  jvm_step X₁.here [X₁.here.top, hexec, d3', Value.category]
  exact hsteps
/-- 'throw new E("text")': new; dup; ldc; invokespecial; athrow -/
theorem vx_throwS {cc : ByteArray} {pc : Nat} (hexec : p.tables.exec = Jvm.exec) (hb : c.code = cc) (hl : l.stackTraces = false) {own cls text : String} {names : List String} {ik is ic mc ms sa : Nat} {A : Nat → Prop}
    (hown : s.vm.findClass own = some m.cls) (hcls : Bundle.fit cls = true) (hnames : ∀ n ∈ names, Bundle.fit n = true)
    (hk : (Cond.classLink own ik cls).before args s = true) (hini : (Cond.initialized cls).before args s = true) (hstr : vk_R own is text sa s) (hat : ∀ w ∈ vx_atS own ic cls names, w.before args s = true)
    (hgood : ∀ w ∈ Cond.classLink own ik cls :: Cond.initialized cls :: vx_atS own ic cls names, vx_ot w = true)
    (hU : vx_Zq Bundle.tN "UNASSIGNED_STACK" Bundle.steD A s s.heap) (hN : vx_Zq Bundle.tN "SUPPRESSED_SENTINEL" Bundle.listD A s s.heap) (hS : va_S A s.heap H locs) (hsize : ls.size = c.maxLocals)
    (d0 : decode cc pc = .ok (.new ik, 3)) (d3 : decode cc (pc + 3) = .ok (.dup, 1)) (d4 : decode cc (pc + 4) = .ok (.ldc is, 2)) (d6 : decode cc (pc + 6) = .ok (.invokespecial ic, 3)) (d9 : decode cc (pc + 9) = .ok (.athrow, 1))
    (hout : ∀ x ∈ c.exceptionTable.toList, covers x (pc + 9) = false)
    (hRframes : names.length + 3 < R.frames) (hRlocals : (rest.map fun v => v.category).sum + (13 * (names.length + 1) + 43) ≤ R.locals) (hRcells : cells + 1 ≤ R.cells) (hRslots : slots + 6 ≤ R.slots) (hlocks : meth.locks = false)
    (hx : ∀ t : State, s.vm.Alike t.vm → H.size ≤ t.heap.size → (∀ q : Nat, q < H.size → t.heap[q]? = H[q]?) → XC cls s t)
    (hf : ∀ z ∈ locs, free z.base) (hc : cells + 1 ≤ mc) (hs : slots + 6 ≤ ms) :
    W p l e R s m args below meth c H locs cells slots (vx_MQ below Qc XC args s mc ms free) (F0 m pc ls rest) := by
  intro T hT X
  have htr : e.platform.stackTraces = false := (show e.platform.stackTraces = l.stackTraces by rw [X.admits.platform]).trans hl
  have Y := vx_rebase X (R' := { frames := R.frames, locals := R.locals, cells := 1, slots := 6 }) (Nat.le_refl _) (Nat.le_refl _) hRcells hRslots
  obtain ⟨s', hA⟩ : ∃ z, z = (T.setVm s.vm).setFrames (.invoking m args :: below) := ⟨_, rfl⟩
  rw [← hA] at Y
  have hvm : s'.vm = s.vm := by rw [hA]; rfl
  have hhp : s'.heap = H := by rw [hA]; exact hT
  have hW0 : s.WarmedH s'.vm := by rw [hvm]; exact State.WarmedH.refl s
  have hat' : ∀ w ∈ vx_atS own ic cls names, w.before args s' = true := fun w hw => vx_ot_at hW0 hvm.symm (hgood w (List.mem_cons_of_mem _ (List.mem_cons_of_mem _ hw))) (hat w hw)
  have hk' : (Cond.classLink own ik cls).before args s' = true := vx_ot_at hW0 hvm.symm (hgood _ List.mem_cons_self) hk
  have hini' : (Cond.initialized cls).before args s' = true := vx_ot_at hW0 hvm.symm (hgood _ (List.mem_cons_of_mem _ List.mem_cons_self)) hini
  have hU' : vx_Zq Bundle.tN "UNASSIGNED_STACK" Bundle.steD A s' s'.heap := by rw [hhp]; exact vx_Zq.moved hW0.alike (hU.kept hS.2.1)
  have hN' : vx_Zq Bundle.tN "SUPPRESSED_SENTINEL" Bundle.listD A s' s'.heap := by rw [hhp]; exact vx_Zq.moved hW0.alike (hN.kept hS.2.1)
  have h : ∀ w ∈ Bundle.ownAtoms own ic cls names, w.before args s' = true := vx_own hat' (vx_isRefq hU'.1) (vx_isRefq hN'.1) hU'.2.word hN'.2.word
  have hown' : s'.vm.findClass own = some m.cls := by rw [hvm]; exact hown
  have hins : (Cond.instantiable cls 6).before args s' = true := h _ (by simp [Bundle.ownAtoms])
  obtain ⟨vm₁, cX, kX, hfX, hkX, -, -, X₁, st1⟩ := Y.newCold hexec (own := own) (C := cls) (index := ik) (n := 6) hown' hk' hins hini'
    (g := F0 m pc ls rest) rfl (by rw [hb]; exact d0) (Nat.le_refl _) (Nat.le_refl _)
  generalize hT1 : (T.setVm vm₁).pushCell { cls := cX, slots := kX.instanceTypes.map defaultValue, vm := .none } = T1 at X₁ st1
  have hcat : (Value.ref T.heap.size).category = 1 := rfl
  have hcellA : T1.heap[T.heap.size]? = some (freshCell cX kX) := by rw [← hT1]; exact State.heap_pushCell_size _ _
  have d3' : decode c.code (pc + 3) = .ok (.dup, 1) := by rw [hb]; exact d3
  have d4' : decode c.code (pc + 4) = .ok (.ldc is, 2) := by rw [hb]; exact d4
  have hstr' : vk_R own is text sa s' := vk_R.warm hW0 hstr
  obtain ⟨U, hsteps, hrun, hend, hW, hsame, ce, hce, hO⟩ := X₁.ctorThrowS hexec htr (own := own) (cls := cls) (names := names) (ic := ic) hown' hcls hnames h (fun x hx => nomatch hx) hfX hkX hcellA (by rw [hhp, hT]; exact Nat.le_refl _) (msg := .ref sa) rfl
    (g := { method := m, pc := pc + 6, locals := ls, stack := .ref sa :: .ref T.heap.size :: .ref T.heap.size :: rest, locked := none }) rfl hsize rfl rfl (rest := rest) rfl
    (by rw [hb]; exact d6) (by rw [hb]; exact d9) hout hRframes (by simp only [List.map_cons, List.sum_cons, hcat]; omega) hlocks
  obtain ⟨f1, f2⟩ := vx_frame hsame
  rw [hhp] at f1 f2
  have hWs : s.WarmedH U.vm := State.WarmedH.trans hW0 hW
  have hcl : s.vm.findClass cls = some ce.cls := by
    have h9 := hO.cls
    rw [hvm] at h9
    exact h9
  have hall : s.sameButNew ({ U with vm := s.vm } : State) locs mc ms := by
    subst hA
    obtain ⟨e1, e2⟩ := hsame
    rw [State.setFrames_setFrames] at e1
    have h2 : (T.setVm s.vm).sameButNew ({ U with vm := s.vm } : State) [] (0 + 1) (0 + 6) := ⟨e1, e2⟩
    have h3 := X.same.trans h2
    rw [List.append_nil] at h3
    exact h3.mono hc hs
  refine ⟨U, ?_, .threw T.heap.size, hrun, hend, Or.inr ⟨T.heap.size, rfl, cls, ce, locs, hx U hWs.alike f1 (fun q hq => f2 q hq (fun z hz => nomatch hz)), hce, hO.vm, hcl, hWs, hall, hf⟩⟩
  refine st1 _ ?_
  show Steps p.tables e below (T1.setTop { method := m, pc := pc + 3, locals := ls, stack := .ref T.heap.size :: rest, locked := none }) _
  jvm_step X₁.here [X₁.here.top, hexec, d3', Value.category]
  exact X₁.ldcString hexec (own := own) (text := text) (index := is) (a := sa) hown' hstr'.1 hstr'.2
    (g := { method := m, pc := pc + 4, locals := ls, stack := .ref T.heap.size :: .ref T.heap.size :: rest, locked := none }) rfl d4' _ hsteps
/-- 'throw new E("text")', the text by a wide index -/
theorem vx_throwSW {cc : ByteArray} {pc : Nat} (hexec : p.tables.exec = Jvm.exec) (hb : c.code = cc) (hl : l.stackTraces = false) {own cls text : String} {names : List String} {ik is ic mc ms sa : Nat} {A : Nat → Prop}
    (hown : s.vm.findClass own = some m.cls) (hcls : Bundle.fit cls = true) (hnames : ∀ n ∈ names, Bundle.fit n = true)
    (hk : (Cond.classLink own ik cls).before args s = true) (hini : (Cond.initialized cls).before args s = true) (hstr : vk_R own is text sa s) (hat : ∀ w ∈ vx_atS own ic cls names, w.before args s = true)
    (hgood : ∀ w ∈ Cond.classLink own ik cls :: Cond.initialized cls :: vx_atS own ic cls names, vx_ot w = true)
    (hU : vx_Zq Bundle.tN "UNASSIGNED_STACK" Bundle.steD A s s.heap) (hN : vx_Zq Bundle.tN "SUPPRESSED_SENTINEL" Bundle.listD A s s.heap) (hS : va_S A s.heap H locs) (hsize : ls.size = c.maxLocals)
    (d0 : decode cc pc = .ok (.new ik, 3)) (d3 : decode cc (pc + 3) = .ok (.dup, 1)) (d4 : decode cc (pc + 4) = .ok (.ldc_w is, 3)) (d7 : decode cc (pc + 7) = .ok (.invokespecial ic, 3)) (d10 : decode cc (pc + 10) = .ok (.athrow, 1))
    (hout : ∀ x ∈ c.exceptionTable.toList, covers x (pc + 10) = false)
    (hRframes : names.length + 3 < R.frames) (hRlocals : (rest.map fun v => v.category).sum + (13 * (names.length + 1) + 43) ≤ R.locals) (hRcells : cells + 1 ≤ R.cells) (hRslots : slots + 6 ≤ R.slots) (hlocks : meth.locks = false)
    (hx : ∀ t : State, s.vm.Alike t.vm → H.size ≤ t.heap.size → (∀ q : Nat, q < H.size → t.heap[q]? = H[q]?) → XC cls s t)
    (hf : ∀ z ∈ locs, free z.base) (hc : cells + 1 ≤ mc) (hs : slots + 6 ≤ ms) :
    W p l e R s m args below meth c H locs cells slots (vx_MQ below Qc XC args s mc ms free) (F0 m pc ls rest) := by
  intro T hT X
  have htr : e.platform.stackTraces = false := (show e.platform.stackTraces = l.stackTraces by rw [X.admits.platform]).trans hl
  have Y := vx_rebase X (R' := { frames := R.frames, locals := R.locals, cells := 1, slots := 6 }) (Nat.le_refl _) (Nat.le_refl _) hRcells hRslots
  obtain ⟨s', hA⟩ : ∃ z, z = (T.setVm s.vm).setFrames (.invoking m args :: below) := ⟨_, rfl⟩
  rw [← hA] at Y
  have hvm : s'.vm = s.vm := by rw [hA]; rfl
  have hhp : s'.heap = H := by rw [hA]; exact hT
  have hW0 : s.WarmedH s'.vm := by rw [hvm]; exact State.WarmedH.refl s
  have hat' : ∀ w ∈ vx_atS own ic cls names, w.before args s' = true := fun w hw => vx_ot_at hW0 hvm.symm (hgood w (List.mem_cons_of_mem _ (List.mem_cons_of_mem _ hw))) (hat w hw)
  have hk' : (Cond.classLink own ik cls).before args s' = true := vx_ot_at hW0 hvm.symm (hgood _ List.mem_cons_self) hk
  have hini' : (Cond.initialized cls).before args s' = true := vx_ot_at hW0 hvm.symm (hgood _ (List.mem_cons_of_mem _ List.mem_cons_self)) hini
  have hU' : vx_Zq Bundle.tN "UNASSIGNED_STACK" Bundle.steD A s' s'.heap := by rw [hhp]; exact vx_Zq.moved hW0.alike (hU.kept hS.2.1)
  have hN' : vx_Zq Bundle.tN "SUPPRESSED_SENTINEL" Bundle.listD A s' s'.heap := by rw [hhp]; exact vx_Zq.moved hW0.alike (hN.kept hS.2.1)
  have h : ∀ w ∈ Bundle.ownAtoms own ic cls names, w.before args s' = true := vx_own hat' (vx_isRefq hU'.1) (vx_isRefq hN'.1) hU'.2.word hN'.2.word
  have hown' : s'.vm.findClass own = some m.cls := by rw [hvm]; exact hown
  have hins : (Cond.instantiable cls 6).before args s' = true := h _ (by simp [Bundle.ownAtoms])
  obtain ⟨vm₁, cX, kX, hfX, hkX, -, -, X₁, st1⟩ := Y.newCold hexec (own := own) (C := cls) (index := ik) (n := 6) hown' hk' hins hini'
    (g := F0 m pc ls rest) rfl (by rw [hb]; exact d0) (Nat.le_refl _) (Nat.le_refl _)
  generalize hT1 : (T.setVm vm₁).pushCell { cls := cX, slots := kX.instanceTypes.map defaultValue, vm := .none } = T1 at X₁ st1
  have hcat : (Value.ref T.heap.size).category = 1 := rfl
  have hcellA : T1.heap[T.heap.size]? = some (freshCell cX kX) := by rw [← hT1]; exact State.heap_pushCell_size _ _
  have d3' : decode c.code (pc + 3) = .ok (.dup, 1) := by rw [hb]; exact d3
  have d4' : decode c.code (pc + 4) = .ok (.ldc_w is, 3) := by rw [hb]; exact d4
  have hstr' : vk_R own is text sa s' := vk_R.warm hW0 hstr
  obtain ⟨U, hsteps, hrun, hend, hW, hsame, ce, hce, hO⟩ := X₁.ctorThrowS hexec htr (own := own) (cls := cls) (names := names) (ic := ic) hown' hcls hnames h (fun x hx => nomatch hx) hfX hkX hcellA (by rw [hhp, hT]; exact Nat.le_refl _) (msg := .ref sa) rfl
    (g := { method := m, pc := pc + 7, locals := ls, stack := .ref sa :: .ref T.heap.size :: .ref T.heap.size :: rest, locked := none }) rfl hsize rfl rfl (rest := rest) rfl
    (by rw [hb]; exact d7) (by rw [hb]; exact d10) hout hRframes (by simp only [List.map_cons, List.sum_cons, hcat]; omega) hlocks
  obtain ⟨f1, f2⟩ := vx_frame hsame
  rw [hhp] at f1 f2
  have hWs : s.WarmedH U.vm := State.WarmedH.trans hW0 hW
  have hcl : s.vm.findClass cls = some ce.cls := by
    have h9 := hO.cls
    rw [hvm] at h9
    exact h9
  have hall : s.sameButNew ({ U with vm := s.vm } : State) locs mc ms := by
    subst hA
    obtain ⟨e1, e2⟩ := hsame
    rw [State.setFrames_setFrames] at e1
    have h2 : (T.setVm s.vm).sameButNew ({ U with vm := s.vm } : State) [] (0 + 1) (0 + 6) := ⟨e1, e2⟩
    have h3 := X.same.trans h2
    rw [List.append_nil] at h3
    exact h3.mono hc hs
  refine ⟨U, ?_, .threw T.heap.size, hrun, hend, Or.inr ⟨T.heap.size, rfl, cls, ce, locs, hx U hWs.alike f1 (fun q hq => f2 q hq (fun z hz => nomatch hz)), hce, hO.vm, hcl, hWs, hall, hf⟩⟩
  refine st1 _ ?_
  show Steps p.tables e below (T1.setTop { method := m, pc := pc + 3, locals := ls, stack := .ref T.heap.size :: rest, locked := none }) _
  jvm_step X₁.here [X₁.here.top, hexec, d3', Value.category]
  exact X₁.ldcStringW hexec (own := own) (text := text) (index := is) (a := sa) hown' hstr'.1 hstr'.2
    (g := { method := m, pc := pc + 4, locals := ls, stack := .ref T.heap.size :: .ref T.heap.size :: rest, locked := none }) rfl d4' _ hsteps
end Ends
section Bodies
variable {l : Launch}
theorem vx_ofW {y : MethodName} {ws ws' : List Cond} {rm : Room} {Pc : Array Value → State → Prop} {Qc : Array Value → State → Outcome → State → Prop} {XC : String → State → State → Prop} {mc ms : Nat} {free : Addr → Prop} {cc : ByteArray} {maxL : Nat} {ret : Option FieldType}
    (hy : plainName y.cls = true) (hw : ws = Cond.code y cc maxL ret :: ws')
    (body : ∀ p e s m args below meth c s₁, BodyLoose p l y (headSpec ws rm) cc maxL ret e s m args below meth c s₁ → c.maxLocals = maxL → (∀ x ∈ c.exceptionTable.toList, False) → Pc args s →
      W p l e (headSpec ws rm).room s m args below meth c s.heap [] 0 0 (vx_MQ below Qc XC args s mc ms free) (entryFrame m args maxL)) : vx_Met l y ws rm Pc Qc XC mc ms free := by
  refine MetFree.of_bodyS (code := cc) (maxLocals := maxL) (ret := ret) hy ?_ ?_
  · intro args s m h hn
    obtain ⟨meth, c, h1, h2, h3, h4, h5, h6, -, -⟩ := Cond.code_spec hn (atoms_spec (ws := ws) h _ (by rw [hw]; exact List.mem_cons_self))
    exact ⟨meth, c, h1, h2, h3, h4, h5, h6⟩
  · intro p e s m args below meth c s₁ B hml hP _
    have hh0 : s₁.heap = s.heap := by rw [B.state]; rfl
    have ht : ∀ x ∈ c.exceptionTable.toList, False := by
      obtain ⟨meth9, c9, h1, h2, -, -, -, -, h7, -⟩ := Cond.code_spec B.named (atoms_spec (ws := ws) B.pre _ (by rw [hw]; exact List.mem_cons_self))
      cases Option.some.inj (h1.symm.trans B.method)
      cases Option.some.inj (h2.symm.trans (Stand.of_body B).code)
      intro x hx
      rw [Array.isEmpty_iff.mp h7] at hx
      cases hx
    obtain ⟨t, a1, o, b1, b2, b3⟩ := body p e s m args below meth c s₁ B hml ht hP s₁ hh0 (Stand.of_body B)
    exact ⟨t, o, a1, b1, b2, b3⟩
/-- the table of a body with handlers -/
theorem vx_table {p : Program} {x y : MethodName} {S : Spec} {cc bytes : ByteArray} {maxL maxL' : Nat} {ret ret' : Option FieldType} {e : Env} {s s₁ : State} {m : MethodId} {args : Array Value} {below : List Frame} {meth : Method} {c : Code} {hh : List (Nat × Nat × Nat × Nat)}
    (B : BodyLoose p l y S cc maxL ret e s m args below meth c s₁) (h : (Cond.codeWith y bytes maxL' ret' hh).before args s = true) : c.exceptionTable.toList = tableOf hh := by
  obtain ⟨m9, meth9, c9, hn9, h1, h2, -, -, h6, -⟩ := Cond.codeWith_spec h
  cases Option.some.inj (hn9.symm.trans B.named)
  cases Option.some.inj (h1.symm.trans B.method)
  cases Option.some.inj (h2.symm.trans (Stand.of_body B).code)
  rw [← h6, table_eq]
end Bodies
end VXA
/-! ===== END ===== -/
/-! ===== BEGIN a static call of a method with an exception table ===== -/
section VXS
variable {p : Program} {l : Launch} {e : Env} {R : Room} {s : State} {m : MethodId} {args : Array Value} {below : List Frame} {meth : Method} {c : Code} {T : State} {H : Heap} {locs : List Loc} {cells slots : Nat}
abbrev vx_CSW (R : Room) (s : State) (args : Array Value) (own : String) (index : Nat) (y : MethodName) (bytes : ByteArray) (maxL : Nat) (ret : Option FieldType) (hh : List (Nat × Nat × Nat × Nat)) (ws : List Cond) (rm : Room) (mc ms n : Nat) : Prop :=
  (rm.cells = mc ∧ rm.slots = ms ∧ rm.frames + 1 ≤ R.frames ∧ 8 + (maxL + 11) + rm.locals ≤ R.locals ∧ (∀ w ∈ ws, ∀ (a' : Array Value) (U : State), s.WarmedH U.vm → w.before a' U = true) ∧ Cond.codeWith y bytes maxL ret hh ∈ ws) ∧
  (Cond.codeWith y bytes maxL ret hh).before args s = true ∧ (Cond.initialized y.cls).before args s = true ∧ (y.cls ≠ "java/lang/invoke/MethodHandle" ∧ y.cls ≠ "java/lang/invoke/VarHandle") ∧
  (∀ sig, parseMethodDescriptor y.desc = some sig → n = sig.parameters.length) ∧ (Cond.methodLink own index y).before args s = true ∧ (Cond.static y).before args s = true
theorem vx_cwSW {own : String} {index maxL mc ms : Nat} {y : MethodName} {bytes : ByteArray} {ret : Option FieldType} {hh : List (Nat × Nat × Nat × Nat)} {Ts ws ws' : List Cond} {rm : Room} (n : Nat) (ht : ∀ w ∈ Ts, w.before args s = true) (hT : GoodIn Ts (va_wsS own index y ws)) (hw : ws = Cond.codeWith y bytes maxL ret hh :: ws') (hrc : rm.cells = mc) (hrs : rm.slots = ms)
    (hd : y.cls ≠ "java/lang/invoke/MethodHandle" ∧ y.cls ≠ "java/lang/invoke/VarHandle" ∧ (parseMethodDescriptor y.desc).map (fun d => d.parameters.length) = some n) (hR : rm.frames + 1 ≤ R.frames ∧ 8 + (maxL + 11) + rm.locals ≤ R.locals) :
    vx_CSW R s args own index y bytes maxL ret hh ws rm mc ms n := by
  have ok : ∀ w ∈ va_wsS own index y ws, w.before args s = true := fun w h => ht w (hT w h).1
  have hG : GoodIn Ts ws := fun w h => hT w (by unfold va_wsS; exact List.mem_append_right _ h)
  have hc : Cond.codeWith y bytes maxL ret hh ∈ ws := by rw [hw]; exact List.mem_cons_self
  refine ⟨⟨hrc, hrs, hR.1, hR.2, pay_in ht hG, hc⟩, ht _ (hG _ hc).1, ok _ (by simp [va_wsS]), ⟨hd.1, hd.2.1⟩, fun sig h => ?_, ok _ (by simp [va_wsS]), ok _ (by simp [va_wsS])⟩
  have h2 := hd.2.2
  rw [h] at h2
  exact (Option.some.inj h2).symm
theorem vx_callSW (X : Stand p l e R s m args below meth c T locs cells slots) (hexec : p.tables.exec = Jvm.exec) {own : String} {index : Nat} {y : MethodName} {bytes : ByteArray} {maxL : Nat} {ret : Option FieldType} {hh : List (Nat × Nat × Nat × Nat)}
    (hown : s.vm.findClass own = some m.cls) (hlink : (Cond.methodLink own index y).before args s = true) (hstat : (Cond.static y).before args s = true) (hinit : (Cond.initialized y.cls).before args s = true)
    (hcode : (Cond.codeWith y bytes maxL ret hh).before args s = true) (hy : y.cls ≠ "java/lang/invoke/MethodHandle" ∧ y.cls ≠ "java/lang/invoke/VarHandle")
    {W9 : Nat} {Pre : Pt → Array Value → Prop} {Post : Pt → Array Value → Option Value → Pt → Prop} (hK : Back l R p e below s args y 3 W9 Pre Post)
    {g : JFrame} (hg : g.method = m) (hsize : g.locals.size = c.maxLocals) {argsL rest : List Value} (hlen : ∀ sig, parseMethodDescriptor y.desc = some sig → argsL.length = sig.parameters.length)
    (hstack : g.stack = argsL.reverse ++ rest) (hW : 2 * g.monitorRoom + (rest.map fun v => v.category).sum ≤ W9) (hdg : decode c.code g.pc = .ok (.invokestatic index, 3))
    (hpre : ∀ vm₁, s.WarmedH vm₁ → Pre ⟨T.setVm vm₁, locs, cells, slots⟩ argsL.toArray) :
    ∃ (v : Option Value) (vm₁ : Vm) (B : Pt), s.WarmedH vm₁ ∧ Stand p l e R s m args below meth c B.U B.locs B.cells B.slots ∧ Post ⟨T.setVm vm₁, locs, cells, slots⟩ argsL.toArray v B ∧
      ∀ target, Steps p.tables e below (B.U.setTop { g with pc := g.pc + 3, stack := v.toList ++ rest }) target → Steps p.tables e below (T.setTop g) target := by
  obtain ⟨mk, methM, cM, hnamed, hmethM, -, -, -, -, -, -, hsigM⟩ := Cond.codeWith_spec hcode
  have hstatic : methM.isStatic = true := Cond.static_spec hnamed hmethM hstat
  obtain ⟨kP, hkP, -⟩ := className_of_methodNamed hnamed
  have hinitP : kP.init = .initialized := Cond.initialized_spec (findClass_of_methodNamed hnamed) hkP hinit
  obtain ⟨vm₁, X₁, hstep₁⟩ := X.invokestatic hexec hown hlink hnamed hmethM hstatic hkP hinitP hy (g := g) hg (argsL := argsL) (rest := rest) (hlen _ hsigM) hstack hdg
  obtain ⟨v, B, X', hpost, hsteps⟩ := hK m meth c ⟨T.setVm vm₁, locs, cells, slots⟩ { g with stack := rest } (.invokestatic index) mk argsL.toArray X₁ hg hsize hdg hW (X₁.named hnamed) (hpre vm₁ X₁.warmed)
  exact ⟨v, vm₁, B, X₁.warmed, X', hpost, fun target h => hstep₁ _ fun acts => by rw [doInvoke_state]; exact hsteps.trans h⟩
theorem vx_runSW {y : MethodName} {bytes cc : ByteArray} {maxL nL mc ms n index : Nat} {ret : Option FieldType} {hh : List (Nat × Nat × Nat × Nat)} {ws : List Cond} {rm : Room} {Pc : Array Value → State → Prop} {Qc : Array Value → State → Outcome → State → Prop} {free : Addr → Prop} {Ts : List Cond} {own : String} {As rest : List Value} {g : JFrame}
    (S : CallFix p m c cc nL s args Ts own) (hM : Met l y ws rm Pc Qc mc ms free) (cw : vx_CSW R s args own index y bytes maxL ret hh ws rm mc ms n) (hp : PreS s H Pc As)
    (hg : g.method = m) (hn : As.length = n) (hsize : g.locals.size = nL) (hstack : g.stack = As.reverse ++ rest) (hW : 2 * g.monitorRoom + (rest.map fun v => v.category).sum ≤ 8) (hdg : decode cc g.pc = .ok (.invokestatic index, 3)) (hf : cells + mc ≤ R.cells ∧ slots + ms ≤ R.slots) :
    va_Run p l e R s m args below meth c H locs cells slots mc ms g rest (Qc As.toArray) (free) := by
  obtain ⟨⟨hrc, hrs, hfr, hlo, hws, hcw⟩, hcode, hini, hy, hlen, hl, hstt⟩ := cw
  have hK : Back l R p e below s args y 3 8 (PreOf R mc ms Pc) (PostOf Qc mc ms free) := va_backW (hh := hh) (bytes := bytes) (maxL := maxL) (ret := ret) hM hp.1 hrc hrs hfr hlo hws hcw (fun a' U hW => word_at hW (Or.inl (by first | rfl | simp [Cond.onTables, Cond.keeps, Cond.steady])) hini)
  obtain ⟨hx, hb, hml, ho, -⟩ := S
  intro T hT X
  obtain ⟨v, vm₁, ⟨U', l2, c2, s2⟩, hW₁, X', ⟨g', mk, t, L, e1, e2, hq, h1, hL, h2, h3⟩, st⟩ := vx_callSW X hx (hh := hh) (bytes := bytes) (maxL := maxL) (ret := ret) ho hl hstt hini hcode hy hK hg (hsize.trans hml.symm) (argsL := As) (rest := rest) (fun sig h => hn.trans (hlen sig h)) hstack hW (by rw [hb]; exact hdg)
    (fun vm₁ hW₁ => ⟨hf.1, hf.2, hp.2 (T.setVm vm₁) hT hW₁⟩)
  dsimp only [Pt.U, Pt.locs, Pt.cells, Pt.slots] at X' e1 e2 h1 h2 h3 st
  subst h1; subst h2; subst h3
  exact ⟨v, (T.setVm vm₁).calling g' mk As.toArray, t, U', L, hT, X', hL, e1, e2, hq, st⟩
/-- not caught here, past rows that name other classes: it goes on to the caller -/
theorem vx_outP {p : Program} {l : Launch} {e : Env} {R : Room} {s : State} {m : MethodId} {args : Array Value} {below : List Frame} {meth : Method} {c : Code} {H : Heap} {locs : List Loc} {cells slots : Nat} {free : Addr → Prop} {ls : Array Slot} {rest : List Value} {Qc : Array Value → State → Outcome → State → Prop} {XC : String → State → State → Prop}
    {pc : Nat} {own E : String} {ce : Cell} {q : Addr} {mc ms : Nat} (hown : s.vm.findClass own = some m.cls) (hlocks : meth.locks = false)
    (hpass : ∀ z ∈ c.exceptionTable.toList, covers z pc = false ∨ (z.catchType ≠ 0 ∧ ∃ nm : String, (Cond.classLink own z.catchType nm).before args s = true ∧ va_Nc E nm s)) (hcell : H[q]? = some ce) (hv : ce.vm = .none) (hcl : s.vm.findClass E = some ce.cls)
    (hx : ∀ t : State, t.heap = H → s.vm.Alike t.vm → XC E s t) (hf : ∀ z ∈ locs, free z.base) (hc : cells ≤ mc) (hs : slots ≤ ms) :
    vx_W p l e R s m args below meth c H locs cells slots (vx_MQ below Qc XC args s mc ms free) (F0 m pc ls rest) q := by
  intro T hT X
  have hpl : e.platform.magicAccessors = ({} : Platform).magicAccessors := by rw [X.admits.platform]
  obtain ⟨vm', hW', X', st⟩ := X.outThrough hlocks q (g := F0 m pc ls rest) rfl rfl rfl (cell := ce) (by rw [hT]; exact hcell) (by rw [hv]; rfl)
    (by obtain ⟨k9, h9, -⟩ := Vm.findClass_spec hcl; exact ⟨k9, h9⟩) (fun z hz => by
      rcases hpass z hz with h | ⟨hz0, nm, hl1, hn1⟩
      · exact Or.inl h
      · obtain ⟨c6, hc6, hcl6⟩ := Cond.classLink_spec hown hl1 e.platform hpl
        obtain ⟨a8, b8, h1, h2, h3⟩ := hn1
        cases Option.some.inj (h1.symm.trans hcl)
        cases Option.some.inj (h2.symm.trans hc6)
        exact Or.inr ⟨hz0, _, hcl6, h3⟩)
  obtain ⟨g₀, hfr⟩ := X'.frames_eq
  have hcell9 : ((T.setVm vm').setFrames (.throwing q :: below)).heap[q]? = some ce := by
    show T.heap[q]? = some ce
    rw [hT]; exact hcell
  have hend : Ended ((T.setVm vm').setFrames (.throwing q :: below)) below (.threw q) := State.frames_setFrames _ (State.cur_lt_of_frames hfr)
  refine ⟨(T.setVm vm').setFrames (.throwing q :: below), ?_, .threw q, X'.here.running, hend, Or.inr ⟨q, rfl, E, ce, locs, hx _ hT (X'.ends _).1.alike, hcell9, hv, hcl, (X'.ends _).1, (X'.ends _).2.mono hc hs, hf⟩⟩
  rw [X.pushThrowing_eq]
  exact st
/-- a thing of a world lies in the heap -/
theorem vx_lt {D : va_G} {cl : List vw_C} {ws : va_W} {H1 : Heap} (h : va_P D cl ws H1) {k : Nat} {q : Nat × va_E} (hk : ws[k]? = some q) : q.1 < H1.size := (h k q hk).lt
end VXS
/-! ===== END ===== -/
/-! ===== BEGIN methods with a table of their own: called by a name, returning or throwing ===== -/
section VXH
/-! vx_backW, vx_callVX, vx_callSX, vx_callVW, vx_runVW, vx_runVX, vx_runSX, vx_ofWH follow the same proofs as their sisters above (Free/Laws.lean, Shelf42/LK1.lean); vx_outP calls Shelf42/NT130.lean (outThrough). -/
section
variable {l : Launch} {R : Room} {p : Program} {e : Env} {below : List Frame} {s : State} {sargs : Array Value} {y : MethodName} {len W9 : Nat}
theorem vx_backW {ws : List Cond} {rm : Room} {Pc : Array Value → State → Prop} {Qc : Array Value → State → Outcome → State → Prop} {XC : String → State → State → Prop} {mc ms : Nat} {free : Addr → Prop} {bytes : ByteArray} {maxL : Nat} {ret : Option FieldType} {hh : List (Nat × Nat × Nat × Nat)}
    (hM : vx_Met l y ws rm Pc Qc XC mc ms free) (hblind : FrameBlind Pc) (hrc : rm.cells = mc) (hrs : rm.slots = ms)
    (hframes : rm.frames + 1 ≤ R.frames) (hlocals : W9 + (maxL + 11) + rm.locals ≤ R.locals)
    (hws : ∀ w ∈ ws, ∀ a' U, s.WarmedH U.vm → w.before a' U = true) (hcode : Cond.codeWith y bytes maxL ret hh ∈ ws) (hinit : ∀ a' U, s.WarmedH U.vm → (Cond.initialized y.cls).before a' U = true) :
    vx_Back l R p e below s sargs y len W9 (PreOf R mc ms Pc) (PostOf Qc mc ms free) (vx_Post XC mc ms free) := by
  intro m meth c A g ig mk a X hg hsize hdg hW hn hp
  have h1 : (headSpec ws rm).pre.before a A.U = true := atoms_intro fun w hw => hws w hw _ _ X.warmed
  have h2 : (Cond.codeWith y bytes maxL ret hh).before a A.U = true := hws _ hcode _ _ X.warmed
  have h3 : (Cond.initialized y.cls).before a A.U = true := hinit _ _ X.warmed
  have h4 : A.cells + (headSpec ws rm).room.cells ≤ R.cells := by rw [show (headSpec ws rm).room.cells = mc from hrc]; exact hp.1
  have h5 : A.slots + (headSpec ws rm).room.slots ≤ R.slots := by rw [show (headSpec ws rm).room.slots = ms from hrs]; exact hp.2.1
  have hPc : Pc a (A.U.calling g mk a) := hblind _ _ _ _ hp.2.2
  obtain ⟨U, Ls, c0, s0⟩ := A
  dsimp only [Pt.U, Pt.locs, Pt.cells, Pt.slots] at h1 h2 h3 h4 h5 X hn hPc ⊢
  obtain ⟨m9, methY, cY, hn9, hmY, hcY, -, hlY, -⟩ := Cond.codeWith_spec h2
  cases Option.some.inj (hn9.symm.trans hn)
  obtain ⟨kY, hkY, -⟩ := className_of_methodNamed hn
  have hinitY : kY.init = .initialized := Cond.initialized_spec (findClass_of_methodNamed hn) hkY h3
  have h : At U g.method c below := by rw [hg]; exact X.here
  have hlocals9 : W9 + (maxL + 11) + (headSpec ws rm).room.locals ≤ R.locals := hlocals
  have happ : (headSpec ws rm).appliesLoose y e.platform (U.calling g mk a) = true :=
    Spec.appliesLoose_calling (g := g) h hdg hn hkY hinitY
      (X.room_calling (g := g) (R' := (headSpec ws rm).room) hsize hmY hcY hframes (by rw [hlY]; omega) h4 h5) h1
  obtain ⟨mid, hmid⟩ := h.above
  have hfr : (U.setTop g).frames = (.java g :: mid) ++ below := by rw [State.frames_setTop' g h.top, hmid]; rfl
  obtain ⟨o, s₂, hsteps, -, hend, hq⟩ := Steps.callFree hM p X.admits X.cas X.clock (acts := []) hfr happ hPc trivial
  have hq' : vx_Q Qc XC mc ms free a (U.calling g mk a) o s₂ := hq
  rw [State.frames_setTop' g h.top] at hend
  obtain ⟨g₀, hg0⟩ := Option.isSome_iff_exists.mp h.top
  obtain ⟨r, hr⟩ := State.topJava?_eq_some.mp hg0
  have hr' : (({ U with heap := s₂.heap, slotsUsed := s₂.slotsUsed } : State).setVm s₂.vm).frames = .java g₀ :: r := hr
  rcases hq' with ⟨hqc, L, hfe, hL⟩ | ⟨q, rfl, E, ce, L, hx, hce, hcv, hcl, hW₂, hsm, hL⟩
  · obtain ⟨⟨v, rfl⟩, hW₂, e2, q2, q3, q4, q5, q6⟩ := id hfe
    have e3 : s₂ = ({ (U.calling g mk a).setFrames s₂.frames with heap := s₂.heap, slotsUsed := s₂.slotsUsed } : State).setVm s₂.vm := by
      have : s₂ = ({ s₂ with vm := (U.calling g mk a).vm } : State).setVm s₂.vm := rfl
      rw [e2] at this
      exact this
    obtain ⟨c₂, i₂, len₂, hc₂, hd₂, hf₂⟩ := hend
    have hW' : U.WarmedH s₂.vm := hW₂
    have hcc : c₂ = c := by
      have h1 : s₂.code? g.method = U.code? g.method := by
        rw [State.code?_eq, State.code?_eq, hW'.alike.method?]
      exact Option.some.inj (hc₂.symm.trans (h1.trans h.code))
    subst hcc
    have hlen : len₂ = len := by rw [hdg] at hd₂; cases hd₂; rfl
    subst hlen
    have hs₂ : s₂ = (({ U with heap := s₂.heap, slotsUsed := s₂.slotsUsed } : State).setVm s₂.vm).setTop { g with pc := g.pc + len₂, stack := v.toList ++ g.stack } := by
      refine e3.trans ?_
      rw [hf₂, State.calling_eq h.top, State.setFrames_setFrames, State.setTop_of_frames _ hr', hr]
      rfl
    have hsame : U.sameButNew ({ U with heap := s₂.heap, slotsUsed := s₂.slotsUsed } : State) L mc ms := by
      refine ⟨?_, q2, q3, q4, q5, q6⟩
      obtain ⟨t, ht, -⟩ := State.frames_cons hr
      show ({ U with heap := s₂.heap, slotsUsed := s₂.slotsUsed } : State) = { U.setFrames U.frames with heap := s₂.heap, slotsUsed := s₂.slotsUsed }
      rw [State.setFrames_self ht]
    subst hg
    refine Or.inl ⟨v, ⟨(({ U with heap := s₂.heap, slotsUsed := s₂.slotsUsed } : State).setVm s₂.vm), Ls ++ L, c0 + mc, s0 + ms⟩,
      ⟨X.admits, X.cas, X.clock, X.frames, X.room, X.hears, X.method, X.code, (X.here.setHeapUsed s₂.heap s₂.slotsUsed).setVm hW'.alike, X.tail, State.WarmedH.trans X.warmed hW', X.limits, X.bytes, X.same.trans (hsame.setVm s.vm)⟩,
      ⟨g, mk, s₂, L, rfl, rfl, hqc, rfl, hL, rfl, rfl⟩, ?_⟩
    show Steps p.tables e below _ ((({ U with heap := s₂.heap, slotsUsed := s₂.slotsUsed } : State).setVm s₂.vm).setTop { g with pc := g.pc + len₂, stack := v.toList ++ g.stack })
    rw [← hs₂]
    exact hsteps
  · obtain ⟨e2, q2, q3, q4, q5, q6⟩ := id hsm
    have e3 : s₂ = ({ (U.calling g mk a).setFrames s₂.frames with heap := s₂.heap, slotsUsed := s₂.slotsUsed } : State).setVm s₂.vm := by
      have : s₂ = ({ s₂ with vm := (U.calling g mk a).vm } : State).setVm s₂.vm := rfl
      rw [e2] at this
      exact this
    have hf₂ : s₂.frames = .throwing q :: .java g :: U.frames.tail := hend
    have hW' : U.WarmedH s₂.vm := hW₂
    have hs₂ : s₂ = ((({ U with heap := s₂.heap, slotsUsed := s₂.slotsUsed } : State).setVm s₂.vm).setTop g).pushFrame (.throwing q) := by
      refine e3.trans ?_
      rw [hf₂, State.calling_eq h.top, State.setFrames_setFrames, State.pushFrame, State.frames_setTop _ hr', State.setTop_of_frames _ hr', State.setFrames_setFrames, hr]
      rfl
    have hsame : U.sameButNew ({ U with heap := s₂.heap, slotsUsed := s₂.slotsUsed } : State) L mc ms := by
      refine ⟨?_, q2, q3, q4, q5, q6⟩
      obtain ⟨t, ht, -⟩ := State.frames_cons hr
      show ({ U with heap := s₂.heap, slotsUsed := s₂.slotsUsed } : State) = { U.setFrames U.frames with heap := s₂.heap, slotsUsed := s₂.slotsUsed }
      rw [State.setFrames_self ht]
    subst hg
    refine Or.inr ⟨q, ⟨(({ U with heap := s₂.heap, slotsUsed := s₂.slotsUsed } : State).setVm s₂.vm), Ls ++ L, c0 + mc, s0 + ms⟩,
      ⟨X.admits, X.cas, X.clock, X.frames, X.room, X.hears, X.method, X.code, (X.here.setHeapUsed s₂.heap s₂.slotsUsed).setVm hW'.alike, X.tail, State.WarmedH.trans X.warmed hW', X.limits, X.bytes, X.same.trans (hsame.setVm s.vm)⟩,
      ⟨g, mk, s₂, L, E, ce, rfl, rfl, hx, hce, hcv, hcl, rfl, hL, rfl, rfl⟩, ?_⟩
    show Steps p.tables e below _ (((({ U with heap := s₂.heap, slotsUsed := s₂.slotsUsed } : State).setVm s₂.vm).setTop g).pushFrame (.throwing q))
    rw [← hs₂]
    exact hsteps
end
variable {p : Program} {l : Launch} {e : Env} {R : Room} {s : State} {m : MethodId} {args : Array Value} {below : List Frame} {meth : Method} {c : Code} {T : State} {H : Heap} {locs : List Loc} {cells slots : Nat}
theorem vx_callVX (X : Stand p l e R s m args below meth c T locs cells slots) (hexec : p.tables.exec = Jvm.exec) {own C : String} {index : Nat} {y : MethodName} {bytes : ByteArray} {maxL : Nat} {ret : Option FieldType} {hh : List (Nat × Nat × Nat × Nat)}
    (hown : s.vm.findClass own = some m.cls) (hlink : (Cond.methodLink own index y).before args s = true) (hinst : (Cond.instanceMethod y).before args s = true) (hsel : (Cond.selects C y y).before args s = true)
    (hcode : (Cond.codeWith y bytes maxL ret hh).before args s = true) (hy : y.cls ≠ "java/lang/invoke/MethodHandle" ∧ y.cls ≠ "java/lang/invoke/VarHandle")
    {W9 : Nat} {Pre : Pt → Array Value → Prop} {Post : Pt → Array Value → Option Value → Pt → Prop} {PostX : Pt → Array Value → Addr → Pt → Prop} (hK : vx_Back l R p e below s args y 3 W9 Pre Post PostX)
    {b : Addr} {cellB : Cell} (hcell : T.heap[b]? = some cellB) (hobj : cellB.vm.isStatics = false) (hcls : s.vm.findClass C = some cellB.cls)
    {g : JFrame} (hg : g.method = m) (hsize : g.locals.size = c.maxLocals) {argsL rest : List Value} (hlen : ∀ sig, parseMethodDescriptor y.desc = some sig → argsL.length = sig.parameters.length)
    (hstack : g.stack = argsL.reverse ++ .ref b :: rest) (hW : 2 * g.monitorRoom + (rest.map fun v => v.category).sum ≤ W9) (hdg : decode c.code g.pc = .ok (.invokevirtual index, 3))
    (hpre : ∀ vm₁, s.WarmedH vm₁ → Pre ⟨T.setVm vm₁, locs, cells, slots⟩ (Value.ref b :: argsL).toArray) :
    (∃ (v : Option Value) (vm₁ : Vm) (B : Pt), s.WarmedH vm₁ ∧ Stand p l e R s m args below meth c B.U B.locs B.cells B.slots ∧ Post ⟨T.setVm vm₁, locs, cells, slots⟩ (Value.ref b :: argsL).toArray v B ∧
      ∀ target, Steps p.tables e below (B.U.setTop { g with pc := g.pc + 3, stack := v.toList ++ rest }) target → Steps p.tables e below (T.setTop g) target) ∨
    (∃ (q : Addr) (vm₁ : Vm) (B : Pt), s.WarmedH vm₁ ∧ Stand p l e R s m args below meth c B.U B.locs B.cells B.slots ∧ PostX ⟨T.setVm vm₁, locs, cells, slots⟩ (Value.ref b :: argsL).toArray q B ∧
      Steps p.tables e below (T.setTop g) ((B.U.setTop { g with stack := rest }).pushFrame (.throwing q))) := by
  obtain ⟨mk, methM, hnamed, hmethM, hstM, habM⟩ := Cond.instanceMethod_spec hinst
  obtain ⟨m8, methM', cM, hn8, hmethM', -, -, -, -, -, -, hsigM⟩ := Cond.codeWith_spec hcode
  cases Option.some.inj (hn8.symm.trans hnamed)
  cases hmethM.symm.trans hmethM'
  obtain ⟨c2, r2, m2, q1, q2, q3, q4, kP, hkP, hkPi⟩ := Cond.selects_spec hsel
  cases hcls.symm.trans q1
  cases (State.methodFound?_of_named hnamed hy).symm.trans q2
  cases hnamed.symm.trans q3
  have hselP : selectMethod e.platform s.vm cellB.cls mk = .method mk := by rw [Launch.admits_selectMethod X.admits]; exact q4
  obtain ⟨vm₁, X₁, hstep₁⟩ := X.invokevirtual hexec hown hlink hnamed hmethM hstM hkP hkPi hy (a := b) (cell := cellB) hcell
    (fun z h => by rw [h] at hobj; cases hobj) hselP hmethM habM hkP hkPi (g := g) hg (argsL := argsL) (rest := rest) (hlen _ hsigM) hstack hdg
  rcases hK m meth c ⟨T.setVm vm₁, locs, cells, slots⟩ { g with stack := rest } (.invokevirtual index) mk (Value.ref b :: argsL).toArray X₁ hg hsize hdg hW (X₁.named hnamed) (hpre vm₁ X₁.warmed) with ⟨v, B, X', hpost, hsteps⟩ | ⟨q, B, X', hpost, hsteps⟩
  · exact Or.inl ⟨v, vm₁, B, X₁.warmed, X', hpost, fun target h => hstep₁ _ fun acts => by rw [doInvoke_state]; exact hsteps.trans h⟩
  · exact Or.inr ⟨q, vm₁, B, X₁.warmed, X', hpost, hstep₁ _ fun acts => by rw [doInvoke_state]; exact hsteps⟩
theorem vx_callSX (X : Stand p l e R s m args below meth c T locs cells slots) (hexec : p.tables.exec = Jvm.exec) {own : String} {index : Nat} {y : MethodName} {bytes : ByteArray} {maxL : Nat} {ret : Option FieldType} {hh : List (Nat × Nat × Nat × Nat)}
    (hown : s.vm.findClass own = some m.cls) (hlink : (Cond.methodLink own index y).before args s = true) (hstat : (Cond.static y).before args s = true) (hinit : (Cond.initialized y.cls).before args s = true)
    (hcode : (Cond.codeWith y bytes maxL ret hh).before args s = true) (hy : y.cls ≠ "java/lang/invoke/MethodHandle" ∧ y.cls ≠ "java/lang/invoke/VarHandle")
    {W9 : Nat} {Pre : Pt → Array Value → Prop} {Post : Pt → Array Value → Option Value → Pt → Prop} {PostX : Pt → Array Value → Addr → Pt → Prop} (hK : vx_Back l R p e below s args y 3 W9 Pre Post PostX)
    {g : JFrame} (hg : g.method = m) (hsize : g.locals.size = c.maxLocals) {argsL rest : List Value} (hlen : ∀ sig, parseMethodDescriptor y.desc = some sig → argsL.length = sig.parameters.length)
    (hstack : g.stack = argsL.reverse ++ rest) (hW : 2 * g.monitorRoom + (rest.map fun v => v.category).sum ≤ W9) (hdg : decode c.code g.pc = .ok (.invokestatic index, 3))
    (hpre : ∀ vm₁, s.WarmedH vm₁ → Pre ⟨T.setVm vm₁, locs, cells, slots⟩ argsL.toArray) :
    (∃ (v : Option Value) (vm₁ : Vm) (B : Pt), s.WarmedH vm₁ ∧ Stand p l e R s m args below meth c B.U B.locs B.cells B.slots ∧ Post ⟨T.setVm vm₁, locs, cells, slots⟩ argsL.toArray v B ∧
      ∀ target, Steps p.tables e below (B.U.setTop { g with pc := g.pc + 3, stack := v.toList ++ rest }) target → Steps p.tables e below (T.setTop g) target) ∨
    (∃ (q : Addr) (vm₁ : Vm) (B : Pt), s.WarmedH vm₁ ∧ Stand p l e R s m args below meth c B.U B.locs B.cells B.slots ∧ PostX ⟨T.setVm vm₁, locs, cells, slots⟩ argsL.toArray q B ∧
      Steps p.tables e below (T.setTop g) ((B.U.setTop { g with stack := rest }).pushFrame (.throwing q))) := by
  obtain ⟨mk, methM, cM, hnamed, hmethM, -, -, -, -, -, -, hsigM⟩ := Cond.codeWith_spec hcode
  have hstatic : methM.isStatic = true := Cond.static_spec hnamed hmethM hstat
  obtain ⟨kP, hkP, -⟩ := className_of_methodNamed hnamed
  have hinitP : kP.init = .initialized := Cond.initialized_spec (findClass_of_methodNamed hnamed) hkP hinit
  obtain ⟨vm₁, X₁, hstep₁⟩ := X.invokestatic hexec hown hlink hnamed hmethM hstatic hkP hinitP hy (g := g) hg (argsL := argsL) (rest := rest) (hlen _ hsigM) hstack hdg
  rcases hK m meth c ⟨T.setVm vm₁, locs, cells, slots⟩ { g with stack := rest } (.invokestatic index) mk argsL.toArray X₁ hg hsize hdg hW (X₁.named hnamed) (hpre vm₁ X₁.warmed) with ⟨v, B, X', hpost, hsteps⟩ | ⟨q, B, X', hpost, hsteps⟩
  · exact Or.inl ⟨v, vm₁, B, X₁.warmed, X', hpost, fun target h => hstep₁ _ fun acts => by rw [doInvoke_state]; exact hsteps.trans h⟩
  · exact Or.inr ⟨q, vm₁, B, X₁.warmed, X', hpost, hstep₁ _ fun acts => by rw [doInvoke_state]; exact hsteps⟩
theorem vx_callVW (X : Stand p l e R s m args below meth c T locs cells slots) (hexec : p.tables.exec = Jvm.exec) {own C : String} {index : Nat} {y : MethodName} {bytes : ByteArray} {maxL : Nat} {ret : Option FieldType} {hh : List (Nat × Nat × Nat × Nat)}
    (hown : s.vm.findClass own = some m.cls) (hlink : (Cond.methodLink own index y).before args s = true) (hinst : (Cond.instanceMethod y).before args s = true) (hsel : (Cond.selects C y y).before args s = true)
    (hcode : (Cond.codeWith y bytes maxL ret hh).before args s = true) (hy : y.cls ≠ "java/lang/invoke/MethodHandle" ∧ y.cls ≠ "java/lang/invoke/VarHandle")
    {W9 : Nat} {Pre : Pt → Array Value → Prop} {Post : Pt → Array Value → Option Value → Pt → Prop} (hK : Back l R p e below s args y 3 W9 Pre Post)
    {b : Addr} {cellB : Cell} (hcell : T.heap[b]? = some cellB) (hobj : cellB.vm.isStatics = false) (hcls : s.vm.findClass C = some cellB.cls)
    {g : JFrame} (hg : g.method = m) (hsize : g.locals.size = c.maxLocals) {argsL rest : List Value} (hlen : ∀ sig, parseMethodDescriptor y.desc = some sig → argsL.length = sig.parameters.length)
    (hstack : g.stack = argsL.reverse ++ .ref b :: rest) (hW : 2 * g.monitorRoom + (rest.map fun v => v.category).sum ≤ W9) (hdg : decode c.code g.pc = .ok (.invokevirtual index, 3))
    (hpre : ∀ vm₁, s.WarmedH vm₁ → Pre ⟨T.setVm vm₁, locs, cells, slots⟩ (Value.ref b :: argsL).toArray) :
    ∃ (v : Option Value) (vm₁ : Vm) (B : Pt), s.WarmedH vm₁ ∧ Stand p l e R s m args below meth c B.U B.locs B.cells B.slots ∧ Post ⟨T.setVm vm₁, locs, cells, slots⟩ (Value.ref b :: argsL).toArray v B ∧
      ∀ target, Steps p.tables e below (B.U.setTop { g with pc := g.pc + 3, stack := v.toList ++ rest }) target → Steps p.tables e below (T.setTop g) target := by
  obtain ⟨mk, methM, hnamed, hmethM, hstM, habM⟩ := Cond.instanceMethod_spec hinst
  obtain ⟨m8, methM', cM, hn8, hmethM', -, -, -, -, -, -, hsigM⟩ := Cond.codeWith_spec hcode
  cases Option.some.inj (hn8.symm.trans hnamed)
  cases hmethM.symm.trans hmethM'
  obtain ⟨c2, r2, m2, q1, q2, q3, q4, kP, hkP, hkPi⟩ := Cond.selects_spec hsel
  cases hcls.symm.trans q1
  cases (State.methodFound?_of_named hnamed hy).symm.trans q2
  cases hnamed.symm.trans q3
  have hselP : selectMethod e.platform s.vm cellB.cls mk = .method mk := by rw [Launch.admits_selectMethod X.admits]; exact q4
  obtain ⟨vm₁, X₁, hstep₁⟩ := X.invokevirtual hexec hown hlink hnamed hmethM hstM hkP hkPi hy (a := b) (cell := cellB) hcell
    (fun z h => by rw [h] at hobj; cases hobj) hselP hmethM habM hkP hkPi (g := g) hg (argsL := argsL) (rest := rest) (hlen _ hsigM) hstack hdg
  obtain ⟨v, B, X', hpost, hsteps⟩ := hK m meth c ⟨T.setVm vm₁, locs, cells, slots⟩ { g with stack := rest } (.invokevirtual index) mk (Value.ref b :: argsL).toArray X₁ hg hsize hdg hW (X₁.named hnamed) (hpre vm₁ X₁.warmed)
  exact ⟨v, vm₁, B, X₁.warmed, X', hpost, fun target h => hstep₁ _ fun acts => by rw [doInvoke_state]; exact hsteps.trans h⟩
abbrev vx_CVW (R : Room) (s : State) (args : Array Value) (own C : String) (index : Nat) (y : MethodName) (bytes : ByteArray) (maxL : Nat) (ret : Option FieldType) (hh : List (Nat × Nat × Nat × Nat)) (ws : List Cond) (rm : Room) (mc ms n : Nat) : Prop :=
  (rm.cells = mc ∧ rm.slots = ms ∧ rm.frames + 1 ≤ R.frames ∧ 8 + (maxL + 11) + rm.locals ≤ R.locals ∧ (∀ w ∈ ws, ∀ (a' : Array Value) (U : State), s.WarmedH U.vm → w.before a' U = true) ∧ Cond.codeWith y bytes maxL ret hh ∈ ws) ∧
  (Cond.codeWith y bytes maxL ret hh).before args s = true ∧ (Cond.initialized y.cls).before args s = true ∧ (y.cls ≠ "java/lang/invoke/MethodHandle" ∧ y.cls ≠ "java/lang/invoke/VarHandle") ∧
  (∀ sig, parseMethodDescriptor y.desc = some sig → n = sig.parameters.length) ∧ (Cond.methodLink own index y).before args s = true ∧ (Cond.instanceMethod y).before args s = true ∧ (Cond.selects C y y).before args s = true
theorem vx_cwVW {own C : String} {index maxL mc ms : Nat} {y : MethodName} {bytes : ByteArray} {ret : Option FieldType} {hh : List (Nat × Nat × Nat × Nat)} {Ts ws ws' : List Cond} {rm : Room} (n : Nat) (ht : ∀ w ∈ Ts, w.before args s = true) (hT : GoodIn Ts (wsV own index C y ws)) (hw : ws = Cond.codeWith y bytes maxL ret hh :: ws') (hrc : rm.cells = mc) (hrs : rm.slots = ms)
    (hd : y.cls = C ∧ y.cls ≠ "java/lang/invoke/MethodHandle" ∧ y.cls ≠ "java/lang/invoke/VarHandle" ∧ (parseMethodDescriptor y.desc).map (fun d => d.parameters.length) = some n) (hR : rm.frames + 1 ≤ R.frames ∧ 8 + (maxL + 11) + rm.locals ≤ R.locals) :
    vx_CVW R s args own C index y bytes maxL ret hh ws rm mc ms n := by
  obtain ⟨hC, hd⟩ := hd
  subst hC
  have ok : ∀ w ∈ wsV own index y.cls y ws, w.before args s = true := fun w h => ht w (hT w h).1
  have hG : GoodIn Ts ws := fun w h => hT w (by unfold wsV; exact List.mem_append_right _ h)
  have hc : Cond.codeWith y bytes maxL ret hh ∈ ws := by rw [hw]; exact List.mem_cons_self
  refine ⟨⟨hrc, hrs, hR.1, hR.2, pay_in ht hG, hc⟩, ht _ (hG _ hc).1, ok _ (by simp [wsV]), ⟨hd.1, hd.2.1⟩, fun sig h => ?_, ok _ (by simp [wsV]), ok _ (by simp [wsV]), ok _ (by simp [wsV])⟩
  have h2 := hd.2.2
  rw [h] at h2
  exact (Option.some.inj h2).symm
theorem vx_runVW {y : MethodName} {bytes cc : ByteArray} {maxL nL mc ms n index : Nat} {ret : Option FieldType} {hh : List (Nat × Nat × Nat × Nat)} {ws : List Cond} {rm : Room} {Pc : Array Value → State → Prop} {Qc : Array Value → State → Outcome → State → Prop} {free : Addr → Prop} {Ts : List Cond} {own C : String} {b : Addr} {As rest : List Value} {g : JFrame}
    (S : CallFix p m c cc nL s args Ts own) (hM : Met l y ws rm Pc Qc mc ms free) (cw : vx_CVW R s args own C index y bytes maxL ret hh ws rm mc ms n) (hp : PreV s H C b Pc As)
    (hg : g.method = m) (hn : As.length = n) (hsize : g.locals.size = nL) (hstack : g.stack = As.reverse ++ .ref b :: rest) (hW : 2 * g.monitorRoom + (rest.map fun v => v.category).sum ≤ 8) (hdg : decode cc g.pc = .ok (.invokevirtual index, 3)) (hf : cells + mc ≤ R.cells ∧ slots + ms ≤ R.slots) :
    va_Run p l e R s m args below meth c H locs cells slots mc ms g rest (Qc (Value.ref b :: As).toArray) free := by
  obtain ⟨⟨hrc, hrs, hfr, hlo, hws, hcw⟩, hcode, hini, hy, hlen, hl, hin, hse⟩ := cw
  have hK : Back l R p e below s args y 3 8 (PreOf R mc ms Pc) (PostOf Qc mc ms free) := va_backW (hh := hh) (bytes := bytes) (maxL := maxL) (ret := ret) hM hp.1 hrc hrs hfr hlo hws hcw (fun a' U hW => word_at hW (Or.inl (by first | rfl | simp [Cond.onTables, Cond.keeps, Cond.steady])) hini)
  obtain ⟨hx, hb, hml, ho, -⟩ := S
  obtain ⟨-, ⟨cellB, hcB, hoB, hclB⟩, hPc⟩ := hp
  intro T hT X
  obtain ⟨v, vm₁, ⟨U', l2, c2, s2⟩, hW₁, X', ⟨g', mk, t, L, e1, e2, hq, h1, hL, h2, h3⟩, st⟩ := vx_callVW X hx (C := C) (hh := hh) (bytes := bytes) (maxL := maxL) (ret := ret) ho hl hin hse hcode hy hK (by rw [hT]; exact hcB) hoB hclB hg (hsize.trans hml.symm) (argsL := As) (rest := rest) (fun sig h => hn.trans (hlen sig h)) hstack hW (by rw [hb]; exact hdg)
    (fun vm₁ hW₁ => ⟨hf.1, hf.2, hPc (T.setVm vm₁) hT hW₁⟩)
  dsimp only [Pt.U, Pt.locs, Pt.cells, Pt.slots] at X' e1 e2 h1 h2 h3 st
  subst h1; subst h2; subst h3
  exact ⟨v, (T.setVm vm₁).calling g' mk (Value.ref b :: As).toArray, t, U', L, hT, X', hL, e1, e2, hq, st⟩
section
variable {y : MethodName} {bytes cc : ByteArray} {maxL nL mc ms n index : Nat} {ret : Option FieldType} {ws : List Cond} {rm : Room} {Pc : Array Value → State → Prop} {Qc : Array Value → State → Outcome → State → Prop} {XC : String → State → State → Prop} {free : Addr → Prop} {Ts : List Cond} {own C : String} {b : Addr} {As rest : List Value} {g : JFrame}
theorem vx_runVX {hh : List (Nat × Nat × Nat × Nat)} (S : CallFix p m c cc nL s args Ts own) (hM : vx_Met l y ws rm Pc Qc XC mc ms free) (cw : vx_CVW R s args own C index y bytes maxL ret hh ws rm mc ms n) (hp : PreV s H C b Pc As)
    (hg : g.method = m) (hn : As.length = n) (hsize : g.locals.size = nL) (hstack : g.stack = As.reverse ++ .ref b :: rest) (hW : 2 * g.monitorRoom + (rest.map fun v => v.category).sum ≤ 8) (hdg : decode cc g.pc = .ok (.invokevirtual index, 3)) (hf : cells + mc ≤ R.cells ∧ slots + ms ≤ R.slots) :
    vx_Run p l e R s m args below meth c H locs cells slots mc ms g rest (Qc (Value.ref b :: As).toArray) XC free := by
  obtain ⟨⟨hrc, hrs, hfr, hlo, hws, hcw⟩, hcode, hini, hy, hlen, hl, hin, hse⟩ := cw
  have hK : vx_Back l R p e below s args y 3 8 (PreOf R mc ms Pc) (PostOf Qc mc ms free) (vx_Post XC mc ms free) := vx_backW (hh := hh) (bytes := bytes) (maxL := maxL) (ret := ret) hM hp.1 hrc hrs hfr hlo hws hcw (fun a' U hW => word_at hW (Or.inl (by first | rfl | simp [Cond.onTables, Cond.keeps, Cond.steady])) hini)
  obtain ⟨hx, hb, hml, ho, -⟩ := S
  obtain ⟨-, ⟨cellB, hcB, hoB, hclB⟩, hPc⟩ := hp
  intro T hT X
  rcases vx_callVX X hx (C := C) (hh := hh) (bytes := bytes) (maxL := maxL) (ret := ret) ho hl hin hse hcode hy hK (by rw [hT]; exact hcB) hoB hclB hg (hsize.trans hml.symm) (argsL := As) (rest := rest) (fun sig h => hn.trans (hlen sig h)) hstack hW (by rw [hb]; exact hdg)
    (fun vm₁ hW₁ => ⟨hf.1, hf.2, hPc (T.setVm vm₁) hT hW₁⟩) with ⟨v, vm₁, ⟨U', l2, c2, s2⟩, hW₁, X', ⟨g', mk, t, L, e1, e2, hq, h1, hL, h2, h3⟩, st⟩ | ⟨q, vm₁, ⟨U', l2, c2, s2⟩, hW₁, X', ⟨g', mk, t, L, E, ce, e1, e2, hq, hce, hcv, hcl, h1, hL, h2, h3⟩, st⟩
  · dsimp only [Pt.U, Pt.locs, Pt.cells, Pt.slots] at X' e1 e2 h1 h2 h3 st
    subst h1; subst h2; subst h3
    exact Or.inl ⟨v, (T.setVm vm₁).calling g' mk (Value.ref b :: As).toArray, t, U', L, hT, X', hL, e1, e2, hq, st⟩
  · dsimp only [Pt.U, Pt.locs, Pt.cells, Pt.slots] at X' e1 e2 h1 h2 h3 st hcl
    subst h1; subst h2; subst h3
    exact Or.inr ⟨q, (T.setVm vm₁).calling g' mk (Value.ref b :: As).toArray, t, U', L, E, ce, hT, X', hL, e1, e2, hq, hce, hcv, vx_cls hW₁ hcl, st⟩
theorem vx_runSX {hh : List (Nat × Nat × Nat × Nat)} (S : CallFix p m c cc nL s args Ts own) (hM : vx_Met l y ws rm Pc Qc XC mc ms free) (cw : vx_CSW R s args own index y bytes maxL ret hh ws rm mc ms n) (hp : PreS s H Pc As)
    (hg : g.method = m) (hn : As.length = n) (hsize : g.locals.size = nL) (hstack : g.stack = As.reverse ++ rest) (hW : 2 * g.monitorRoom + (rest.map fun v => v.category).sum ≤ 8) (hdg : decode cc g.pc = .ok (.invokestatic index, 3)) (hf : cells + mc ≤ R.cells ∧ slots + ms ≤ R.slots) :
    vx_Run p l e R s m args below meth c H locs cells slots mc ms g rest (Qc As.toArray) XC free := by
  obtain ⟨⟨hrc, hrs, hfr, hlo, hws, hcw⟩, hcode, hini, hy, hlen, hl, hstt⟩ := cw
  have hK : vx_Back l R p e below s args y 3 8 (PreOf R mc ms Pc) (PostOf Qc mc ms free) (vx_Post XC mc ms free) := vx_backW (hh := hh) (bytes := bytes) (maxL := maxL) (ret := ret) hM hp.1 hrc hrs hfr hlo hws hcw (fun a' U hW => word_at hW (Or.inl (by first | rfl | simp [Cond.onTables, Cond.keeps, Cond.steady])) hini)
  obtain ⟨hx, hb, hml, ho, -⟩ := S
  intro T hT X
  rcases vx_callSX X hx (hh := hh) (bytes := bytes) (maxL := maxL) (ret := ret) ho hl hstt hini hcode hy hK hg (hsize.trans hml.symm) (argsL := As) (rest := rest) (fun sig h => hn.trans (hlen sig h)) hstack hW (by rw [hb]; exact hdg)
    (fun vm₁ hW₁ => ⟨hf.1, hf.2, hp.2 (T.setVm vm₁) hT hW₁⟩) with ⟨v, vm₁, ⟨U', l2, c2, s2⟩, hW₁, X', ⟨g', mk, t, L, e1, e2, hq, h1, hL, h2, h3⟩, st⟩ | ⟨q, vm₁, ⟨U', l2, c2, s2⟩, hW₁, X', ⟨g', mk, t, L, E, ce, e1, e2, hq, hce, hcv, hcl, h1, hL, h2, h3⟩, st⟩
  · dsimp only [Pt.U, Pt.locs, Pt.cells, Pt.slots] at X' e1 e2 h1 h2 h3 st
    subst h1; subst h2; subst h3
    exact Or.inl ⟨v, (T.setVm vm₁).calling g' mk As.toArray, t, U', L, hT, X', hL, e1, e2, hq, st⟩
  · dsimp only [Pt.U, Pt.locs, Pt.cells, Pt.slots] at X' e1 e2 h1 h2 h3 st hcl
    subst h1; subst h2; subst h3
    exact Or.inr ⟨q, (T.setVm vm₁).calling g' mk As.toArray, t, U', L, E, ce, hT, X', hL, e1, e2, hq, hce, hcv, vx_cls hW₁ hcl, st⟩
end
end VXH
theorem vx_ofWH {l : Launch} {y : MethodName} {ws ws' : List Cond} {rm : Room} {Pc : Array Value → State → Prop} {Qc : Array Value → State → Outcome → State → Prop} {XC : String → State → State → Prop} {mc ms : Nat} {free : Addr → Prop} {cc : ByteArray} {maxL : Nat} {ret : Option FieldType} {hh : List (Nat × Nat × Nat × Nat)}
    (hy : plainName y.cls = true) (hw : ws = Cond.codeWith y cc maxL ret hh :: ws')
    (body : ∀ p e s m args below meth c s₁, BodyLoose p l y (headSpec ws rm) cc maxL ret e s m args below meth c s₁ → c.maxLocals = maxL → Pc args s →
      W p l e (headSpec ws rm).room s m args below meth c s.heap [] 0 0 (vx_MQ below Qc XC args s mc ms free) (entryFrame m args maxL)) : vx_Met l y ws rm Pc Qc XC mc ms free := by
  refine MetFree.of_bodyS (code := cc) (maxLocals := maxL) (ret := ret) hy ?_ ?_
  · intro args s m h hn
    obtain ⟨m9, meth, c, hn9, h1, h2, h3, h4, -, h5, h6, -⟩ := Cond.codeWith_spec (atoms_spec (ws := ws) h _ (by rw [hw]; exact List.mem_cons_self))
    cases hn.symm.trans hn9
    exact ⟨meth, c, h1, h2, h3, h4, h5, h6⟩
  · intro p e s m args below meth c s₁ B hml hP _
    have hh0 : s₁.heap = s.heap := by rw [B.state]; rfl
    obtain ⟨t, a1, o, b1, b2, b3⟩ := body p e s m args below meth c s₁ B hml hP s₁ hh0 (Stand.of_body B)
    exact ⟨t, o, a1, b1, b2, b3⟩
/-! ===== END ===== -/

/-! ===== BEGIN what the machine throws by itself, no traces kept ===== -/
section VXM
set_option maxHeartbeats 1000000 in
/-- the machine throws cls with the message text, no traces kept: from its note over the frame g to 'throwing' over the same frame (follows the proofs of Stand.vmThrowsMessage, Shelf/KitTracedVmS.lean, and Stand.throwsMessageColdBareV, StandMessageColdV.lean, without the step out of the frame) -/
theorem vx_vmAt {p : Program} {l : Launch} {e : Env} {R : Room} {s : State} {m₀ : MethodId} {args : Array Value} {below : List Frame} {meth : Method} {c : Code} {W : State} {locs : List Loc} {cells slots : Nat}
    (X : Stand p l e R s m₀ args below meth c W locs cells slots) (hexec : p.tables.exec = Jvm.exec) (htr : e.platform.stackTraces = false) {cls : String} {names : List String} {text : String}
    (hcls : Bundle.fit cls = true) (hnames : ∀ n ∈ names, Bundle.fit n = true) (hsoe : (cls == "java/lang/StackOverflowError") = false) (hoom : (cls == "java/lang/OutOfMemoryError") = false)
    (h : ∀ a ∈ Bundle.messageArmAtoms cls names, a.before args s = true)
    (hlocs : ∀ x ∈ locs, ∀ cell, s.heap[x.base]? = some cell → cell.vm.isStatics = false)
    (htext : (text == notModelled) = false) (hlimit : ¬ (stringBytes (stringToUtf16 text)).size > e.platform.arrayLengthLimit) (hheap : ¬ (stringBytes (stringToUtf16 text)).size * componentBytes .byte > e.platform.maxHeapBytes)
    {g : JFrame} (hg : g.method = m₀) (hsize : g.locals.size = c.maxLocals)
    (hRframes : names.length + 4 < R.frames) (hRlocals : 2 * g.monitorRoom + (g.stack.map fun v => v.category).sum + 10240 ≤ R.locals) (hshort : 13 * names.length + 55 ≤ 10240)
    (hRcells : cells + 3 ≤ R.cells) (hRslots : slots + ((stringBytes (stringToUtf16 text)).size + 4 + 6) ≤ R.slots) (hlocks : meth.locks = false) :
    ∃ (S : State) (q : Addr) (ce : Cell), (∀ target, Steps p.tables e below ((S.setTop g).pushFrame (.throwing q)) target → Steps p.tables e below ((W.setTop g).pushFrame (.throwNew cls (some text) none)) target) ∧
      Stand p l e R s m₀ args below meth c S locs (cells + 3) (slots + ((stringBytes (stringToUtf16 text)).size + 4 + 6)) ∧ S.heap[q]? = some ce ∧ s.vm.findClass cls = some ce.cls ∧ ce.vm = .none := by
  have howns : e.platform.frameOwnsMonitors = true := by rw [X.admits.platform]
  have hfin : e.platform.finalization = false := by rw [X.admits.platform]
  have hpl : e.platform.magicAccessors = ({} : Platform).magicAccessors := by rw [X.admits.platform]
  have a : ∀ x, x ∈ Bundle.messageArmAtoms cls names → x.holds args s none s [] = true := fun x hx => h x hx
  obtain ⟨T, Z0, L, -, Y⟩ := ThrowableC.of_atoms (args := args) howns hfin hpl (fun x hx => h x (by simp [Bundle.messageArmAtoms, hx]))
  obtain ⟨Z, M, LZ, LM, hnZ⟩ := Init0T.ofS_atoms (args := args) hpl L Y (fun x hx => h x (by simp [Bundle.messageArmAtoms, hx]))
  obtain ⟨P1, Ps, hlen, L1, hL, hP1m, hlink1, hlink⟩ := Bundle.chainS (args := args) hpl hnZ names cls hcls hnames (fun x hx => h x (by simp [Bundle.messageArmAtoms, hx]))
  obtain ⟨Zs, LZs, hn4, hfitv, hfitc⟩ := StringT.of_atoms (args := args) (fun x hx => h x (by simp [Bundle.messageArmAtoms, hx]))
  have hfound : s.vm.findClass cls = some P1.m.cls := findClass_of_methodNamed hP1m
  obtain ⟨c1, kX, hc1, hk, hord, -, -, hn6⟩ := Cond.instantiable_spec (a (.instantiable cls 6) (by simp [Bundle.messageArmAtoms]))
  cases Option.some.inj (hc1.symm.trans hfound)
  have hinit := Cond.initialized_spec hfound hk (a (.initialized cls) (by simp [Bundle.messageArmAtoms]))
  have hctor : kX.findMethod "<init>" "(Ljava/lang/String;)V" = some P1.m.idx := findMethod_of_methodNamed hP1m hk
  have hsel0 : selectMethod e.platform s.vm P1.m.cls T.fill0 = .method T.fill0 := by
    obtain ⟨c2, r2, m2, q1, q2, q3, q4, -⟩ := Cond.selects_spec (a (.selects cls Bundle.tFill0 Bundle.tFill0) (by simp [Bundle.messageArmAtoms]))
    cases Option.some.inj (q1.symm.trans hfound)
    cases Option.some.inj (q2.symm.trans (State.methodFound?_of_named Y.fill0 (by decide)))
    cases Option.some.inj (q3.symm.trans Y.fill0)
    rw [Launch.admits_selectMethod X.admits]; exact q4
  have hselF : selectMethod e.platform s.vm P1.m.cls T.fill = .method T.fill := by
    obtain ⟨c2, r2, m2, q1, q2, q3, q4, -⟩ := Cond.selects_spec (a (.selects cls Bundle.tFill Bundle.tFill) (by simp [Bundle.messageArmAtoms]))
    cases Option.some.inj (q1.symm.trans hfound)
    cases Option.some.inj (q2.symm.trans (State.methodFound?_of_named Y.fill (by decide)))
    cases Option.some.inj (q3.symm.trans Y.fill)
    rw [Launch.admits_selectMethod X.admits]; exact q4
  obtain ⟨cellS0, hcS0, hiss⟩ := Y.statics
  obtain ⟨u0, hu0⟩ := Cond.staticRefV Y.unassigned L.unassignedStatic L.statics hcS0 hiss (a (.isRef (.static Bundle.tN "UNASSIGNED_STACK" Bundle.steD)) (by simp [Bundle.messageArmAtoms]))
  obtain ⟨sen, hsen⟩ := Cond.staticRefV Y.sentinel L.sentinelStatic L.statics hcS0 hiss (a (.isRef (.static Bundle.tN "SUPPRESSED_SENTINEL" Bundle.listD)) (by simp [Bundle.messageArmAtoms]))
  obtain ⟨ci198, i198, fB, hk198, hg198, ha198, hsB, -, hnB, htB, hffB⟩ := Cond.ownField (t := .object "java/lang/Object") Y.found L.cls (by decide +kernel) (a (.fieldLink Bundle.tN 198 Bundle.tN "backtrace" "Ljava/lang/Object;") (by simp [Bundle.messageArmAtoms])) (a (.lays Bundle.tN Bundle.tN "backtrace" "Ljava/lang/Object;") (by simp [Bundle.messageArmAtoms])) e.platform hpl
  obtain ⟨cellS, hcS', heS, -, hkeep⟩ := X.same.2.2.2.2.2 T.aS cellS0 hcS0
  have hcellS : W.heap[T.aS]? = some cellS := hcS'
  have hout' : ∀ i, (⟨T.aS, i⟩ : Loc) ∉ locs := fun i hmem => by
    have := hlocs _ hmem cellS0 hcS0
    rw [hiss] at this; cases this
  have hknownS : cellS.vm ≠ .unknown := by
    rw [heS]; intro hu
    rw [show cellS0.vm = .unknown from hu] at hiss
    cases hiss
  have hvU : cellS.slots[T.fUnassigned.slot]? = some u0.v := by rw [hkeep _ (hout' _)]; exact hu0
  have hvSen : cellS.slots[T.fSentinel.slot]? = some sen.v := by rw [hkeep _ (hout' _)]; exact hsen
  obtain ⟨iM, hffM⟩ := Y.msg
  obtain ⟨tyC, dC, hdC, hdnC⟩ := Cond.laysAt hfound hk Y.cause (a (.lays cls Bundle.tN "cause" "Ljava/lang/Throwable;") (by simp [Bundle.messageArmAtoms]))
  obtain ⟨tyS, dS, hdS, hdnS⟩ := Cond.laysAt hfound hk Y.stack (a (.lays cls Bundle.tN "stackTrace" Bundle.steD) (by simp [Bundle.messageArmAtoms]))
  obtain ⟨tyP, dP, hdP, hdnP⟩ := Cond.laysAt hfound hk Y.supp (a (.lays cls Bundle.tN "suppressedExceptions" Bundle.listD) (by simp [Bundle.messageArmAtoms]))
  obtain ⟨tyM, dM, hdM, hdnM⟩ := Cond.laysAt hfound hk hffM (a (.lays cls Bundle.tN "detailMessage" "Ljava/lang/String;") (by simp [Bundle.messageArmAtoms]))
  obtain ⟨tyB, dB, hdB, hdnB⟩ := Cond.laysAt hfound hk hffB (a (.lays cls Bundle.tN "backtrace" "Ljava/lang/Object;") (by simp [Bundle.messageArmAtoms]))
  have bC := Cond.laysApart hdB hdC hdnB hdnC (by rw [hnB, Y.causeName]; decide)
  have bS := Cond.laysApart hdB hdS hdnB hdnS (by rw [hnB, Y.stackName]; decide)
  have bP := Cond.laysApart hdB hdP hdnB hdnP (by rw [hnB, Y.suppName]; decide)
  have hbk : ((preparedCellV T.toThrowableT (freshCell P1.m.cls kX) (W.heap.size + 2) u0 sen).withEntry W.cur).slots[fB.slot]? = some .null := by
    have := fresh_default (c := P1.m.cls) tyB
    rw [htB] at this
    simpa [preparedCellV, Cell.setSlot, Cell.withEntry, Array.getElem?_setIfInBounds, bC, bS, bP, bC.symm, bS.symm, bP.symm, defaultValue] using this
  have tkC := Takes.of_laid (v := .ref (W.heap.size + 2)) hk hord tyC (by rw [Y.causeType]; rfl)
  have tkS := Takes.of_laid (v := u0.v) hk hord tyS (by rw [Y.stackType]; exact fits_refV_array _ u0)
  have tkP := Takes.of_laid (v := sen.v) hk hord tyP (by rw [Y.suppType]; exact fits_refV_object _ sen)
  have tkM := Takes.of_laid (v := .ref (W.heap.size + 1)) hk hord tyM (by rw [Y.msgType]; rfl)
  have hskip : SkipFacts T e.platform s (fun u => u) u0 ((preparedCellV T.toThrowableT (freshCell P1.m.cls kX) (W.heap.size + 2) u0 sen).withEntry W.cur) := ⟨{ ci198 := ci198, i198 := i198, fBack := fB }, ⟨hk198, hg198, ha198, hsB⟩, hbk, fun _ _ => rfl⟩
  have h0 : At W g.method c below := by rw [hg]; exact X.here
  obtain ⟨hbeyond, hfreeW⟩ := X.vmMayThrow hsize (.throwNew cls (some text) none) (fun f hf => by cases hf) rfl hRlocals
  have hfr' : W.frames.length + Ps.length + 4 < (e.platform.stackLimits W.me).1 := by have := X.framesAbove hRframes; omega
  have hwd' : (stackUse (.java g :: W.frames.tail)).2 + 13 * Ps.length + 55 ≤ (e.platform.stackLimits W.me).2 := by have := X.stackAbove hsize (K := 13 * Ps.length + 55) (by omega); omega
  have hslots : W.slotsUsed + (stringBytes (stringToUtf16 text)).size + Zs.kS.instanceTypes.size + kX.instanceTypes.size ≤ e.platform.maxSlots := by
    have := X.slotsAbove hRslots
    rw [hn4, hn6]
    omega
  obtain ⟨vm', hW', st⟩ := Steps.vmThrowsMessageColdByV p (s₀ := s) (S := W) (g := g) h0 hexec T L Z LZ M LM X.warmed (t := W.cur) rfl Zs LZs P1 L1 Ps hL hlink1 hlink hsoe hoom hfound hk hinit hord hctor
    (Launch.admits_hotImplicitExceptions X.admits) hbeyond hfreeW htext hlimit hheap (X.cellsAbove hRcells) hslots (hfitv _) (hfitc _)
    (Nn := fun u => u) heapOnly_id (fun _ _ => rfl) (fun _ => rfl) (fun u x y => setCell_twice _ _ _ _) (fun _ => Nat.le_refl _) (cN := ((preparedCellV T.toThrowableT (freshCell P1.m.cls kX) (W.heap.size + 2) u0 sen).withEntry W.cur))
    hsel0 hcellS hknownS hvU tkS (fun _ hu => hu) (fun _ hu => hu) rfl rfl rfl (by simp [preparedCellV, Cell.setSlot, Cell.withEntry]) hskip (fun _ _ hA hW _ hroom _ hrest => L.nativeOff p htr hA hW hroom hrest) hselF hvSen tkC tkP tkM Y.objLocals rfl hfr' hwd'
  rw [plainBareV_eq T.toThrowableT (W.heap.size + 2) u0 sen (.ref (W.heap.size + 1)) W.cur rfl rfl] at st
  obtain ⟨-, -, w3, w4, -, -, -⟩ := withThrown_facts e.platform W Zs text P1.m.cls kX
  have X3 := ((X.pushed (bytesOf Zs.cB (stringToUtf16 text))).pushed (stringAt Zs.cS Zs.kS Zs.fv Zs.fc (stringToUtf16 text) W.heap.size)).pushed (freshCell P1.m.cls kX)
  rw [← withString_eq] at X3
  have X4 := X3.noted hW'
  have ha : (W.heap.size + 2) < ((withThrown W Zs text P1.m.cls kX).setVm vm').heap.size := by show _ < (withThrown W Zs text P1.m.cls kX).heap.size; rw [w3]; omega
  have hcell : ((withThrown W Zs text P1.m.cls kX).setVm vm').heap[(W.heap.size + 2)]? = some (freshCell P1.m.cls kX) := w4
  have X5 := ((((X4.stored hcell T.fCause.slot (.ref (W.heap.size + 2))).storedAgain ha T.fStack.slot u0.v).storedAgain ha T.fSupp.slot sen.v).storedAgain ha T.fStack.slot u0.v).storedAgain ha T.fMsg.slot (.ref (W.heap.size + 1))
  obtain ⟨g₁, hfrM⟩ := X5.frames_eq
  have hU : ((((withThrown W Zs text P1.m.cls kX).setVm vm').setCell (W.heap.size + 2) (plainBareV T.toThrowableT (freshCell P1.m.cls kX) (W.heap.size + 2) u0 sen (.ref (W.heap.size + 1)))).setTop g).pushFrame (.throwing (W.heap.size + 2)) = (((withThrown W Zs text P1.m.cls kX).setVm vm').setCell (W.heap.size + 2) (plainBareV T.toThrowableT (freshCell P1.m.cls kX) (W.heap.size + 2) u0 sen (.ref (W.heap.size + 1)))).setFrames (.throwing (W.heap.size + 2) :: .java g :: below) := by
    rw [State.pushFrame, State.frames_setTop _ hfrM, State.setTop_of_frames _ hfrM, State.setFrames_setFrames]
  have b1 : (bytesOf Zs.cB (stringToUtf16 text)).slots.size = (stringBytes (stringToUtf16 text)).size := by
    rw [(Cell.writeAll_facts _ _).2.2]; simp [bytes0]
  have b2 : (stringAt Zs.cS Zs.kS Zs.fv Zs.fc (stringToUtf16 text) W.heap.size).slots.size = 4 := by simp [string0, Cell.setSlot, hn4]
  have b3 : (freshCell P1.m.cls kX).slots.size = 6 := by simp [hn6]
  rw [b1, b2, b3] at X5
  have e9 : slots + (stringBytes (stringToUtf16 text)).size + 4 + 6 = slots + ((stringBytes (stringToUtf16 text)).size + 4 + 6) := by omega
  rw [e9] at X5
  simp only [List.append_assoc, List.cons_append, List.nil_append] at X5
  refine ⟨((withThrown W Zs text P1.m.cls kX).setVm vm').setCell (W.heap.size + 2) (plainBareV T.toThrowableT (freshCell P1.m.cls kX) (W.heap.size + 2) u0 sen (.ref (W.heap.size + 1))), W.heap.size + 2, _, fun target ht => st _ (by rw [X.tail, ← hU]; exact ht),
    X5.forget (fun y hy => ?_), heapAt_setCell_self _ ha, hfound, rfl⟩
  simp only [List.mem_cons, List.not_mem_nil, or_false] at hy
  have hge : s.heap.size ≤ W.heap.size := X.same.2.1
  rcases hy with rfl | rfl | rfl | rfl | rfl <;> exact Nat.le_trans hge (Nat.le_add_right _ 2)
set_option maxHeartbeats 1000000 in
/-- the machine throws NullPointerException, no traces kept: from its note over the frame g to 'throwing' over the same frame (follows the proof of Stand.vmThrowsNpe, Shelf42/KT2.lean; throwsNpeColdBareVAt, Shelf42/NT91.lean, called) -/
theorem vx_npeAt {p : Program} {l : Launch} {e : Env} {R : Room} {s : State} {m₀ : MethodId} {args : Array Value} {below : List Frame} {meth : Method} {c : Code} {W : State} {locs : List Loc} {cells slots : Nat}
    (X : Stand p l e R s m₀ args below meth c W locs cells slots) (hexec : p.tables.exec = Jvm.exec) (htr : e.platform.stackTraces = false) {n : Nat}
    (h : ∀ a ∈ Bundle.npeArmAtoms n, a.before args s = true)
    (hlocs : ∀ x ∈ locs, ∀ cell, s.heap[x.base]? = some cell → cell.vm.isStatics = false)
    {g : JFrame} (hg : g.method = m₀) (hsize : g.locals.size = c.maxLocals)
    (hRframes : 7 < R.frames) (hRlocals : 2 * g.monitorRoom + (g.stack.map fun v => v.category).sum + 10240 ≤ R.locals)
    (hRcells : cells + 1 ≤ R.cells) (hRslots : slots + n ≤ R.slots) (hlocks : meth.locks = false) :
    ∃ (S : State) (q : Addr) (ce : Cell), (∀ target, Steps p.tables e below ((S.setTop g).pushFrame (.throwing q)) target → Steps p.tables e below ((W.setTop g).pushFrame (.throwNew "java/lang/NullPointerException" none none)) target) ∧
      Stand p l e R s m₀ args below meth c S locs (cells + 1) (slots + n) ∧ S.heap[q]? = some ce ∧ s.vm.findClass "java/lang/NullPointerException" = some ce.cls ∧ ce.vm = .none := by
  have howns : e.platform.frameOwnsMonitors = true := by rw [X.admits.platform]
  have hfin : e.platform.finalization = false := by rw [X.admits.platform]
  have hpl : e.platform.magicAccessors = ({} : Platform).magicAccessors := by rw [X.admits.platform]
  have hpl2 : e.platform.arrayCloneIsPublic = true := by rw [X.admits.platform]
  have a' : ∀ x, x ∈ Bundle.npeArmAtoms n → x.holds args s none s [] = true := fun x hx => h x hx
  obtain ⟨T, Z, L, LZ, Y⟩ := ThrowableC.of_atoms (args := args) howns hfin hpl (fun x hx => h x (by simp [Bundle.npeArmAtoms, hx]))
  obtain ⟨N, LN, hcN, hnNF, hordN, hffS⟩ := NpeC.of_atoms (args := args) hpl hpl2 L Y (fun x hx => h x (by simp [Bundle.npeArmAtoms, hx]))
  obtain ⟨P1, L1, hP1m, hP1s⟩ := PassC.of_atoms (args := args) (s := s) hpl (X := Bundle.nN) (Y := Bundle.rN) (by decide) (by decide) LibCode.NullPointerException.Init0.at_0 LibCode.NullPointerException.Init0.at_1 LibCode.NullPointerException.Init0.at_4 (fun x hx => h x (by simp [Bundle.npeArmAtoms, hx]))
  obtain ⟨PR, LR, hPRm, hPRs⟩ := PassC.of_atoms (args := args) (s := s) hpl (X := Bundle.rN) (Y := Bundle.eN) (by decide) (by decide) LibCode.RuntimeException.Init0.at_0 LibCode.RuntimeException.Init0.at_1 LibCode.RuntimeException.Init0.at_4 (fun x hx => h x (by simp [Bundle.npeArmAtoms, hx]))
  obtain ⟨PE, LEx, hPEm, hPEs⟩ := PassC.of_atoms (args := args) (s := s) hpl (X := Bundle.eN) (Y := Bundle.tN) (by decide) (by decide) LibCode.Exception.Init0.at_0 LibCode.Exception.Init0.at_1 LibCode.Exception.Init0.at_4 (fun x hx => h x (by simp [Bundle.npeArmAtoms, hx]))
  have hfound : s.vm.findClass Bundle.nN = some P1.m.cls := findClass_of_methodNamed hP1m
  have ecls : N.cN = P1.m.cls := Option.some.inj (hcN.symm.trans hfound)
  have hk : s.vm.classes[P1.m.cls]? = some N.kN := by rw [← ecls]; exact LN.cls
  have hinit := Cond.initialized_spec hfound hk (a' (.initialized Bundle.nN) (by simp [Bundle.npeArmAtoms]))
  have hctor : N.kN.findMethod "<init>" "()V" = some P1.m.idx := findMethod_of_methodNamed hP1m hk
  obtain ⟨c1, k1, hc1, hk1, -, -, -, hn⟩ := Cond.instantiable_spec (a' (.instantiable Bundle.nN n) (by simp [Bundle.npeArmAtoms]))
  cases Option.some.inj (hc1.symm.trans hfound)
  cases Option.some.inj (hk1.symm.trans hk)
  have hfsz : (freshCell P1.m.cls N.kN).slots.size = n := by simp [hn]
  have hlink1 : P1.sup = PR.m := Option.some.inj (hP1s.symm.trans hPRm)
  have hlinkR : PR.sup = PE.m := Option.some.inj (hPRs.symm.trans hPEm)
  have hlinkE : PE.sup = Z.m T.toThrowableT := Option.some.inj (hPEs.symm.trans Y.init0)
  have hLs : ∀ P, P ∈ [PR, PE] → P.Links0 e.platform s := fun P hP => by
    simp only [List.mem_cons, List.not_mem_nil, or_false] at hP
    rcases hP with rfl | rfl
    · exact LR
    · exact LEx
  have hsel0 : selectMethod e.platform s.vm P1.m.cls T.fill0 = .method T.fill0 := by
    obtain ⟨c2, r2, m2, q1, q2, q3, q4, -⟩ := Cond.selects_spec (a' (.selects Bundle.nN Bundle.tFill0 Bundle.tFill0) (by simp [Bundle.npeArmAtoms]))
    cases Option.some.inj (q1.symm.trans hfound)
    cases Option.some.inj (q2.symm.trans (State.methodFound?_of_named Y.fill0 (by decide)))
    cases Option.some.inj (q3.symm.trans Y.fill0)
    rw [Launch.admits_selectMethod X.admits]; exact q4
  have hselF : selectMethod e.platform s.vm P1.m.cls T.fill = .method N.fill := by
    obtain ⟨c2, r2, m2, q1, q2, q3, q4, -⟩ := Cond.selects_spec (a' (.selects Bundle.nN Bundle.tFill Bundle.nFill) (by simp [Bundle.npeArmAtoms]))
    cases Option.some.inj (q1.symm.trans hfound)
    cases Option.some.inj (q2.symm.trans (State.methodFound?_of_named Y.fill (by decide)))
    cases Option.some.inj (q3.symm.trans hnNF)
    rw [Launch.admits_selectMethod X.admits]; exact q4
  obtain ⟨cellS0, hcS0, hiss⟩ := Y.statics
  obtain ⟨u0, hu0⟩ := Cond.staticRefV Y.unassigned L.unassignedStatic L.statics hcS0 hiss (a' (.isRef (.static Bundle.tN "UNASSIGNED_STACK" Bundle.steD)) (by simp [Bundle.npeArmAtoms]))
  obtain ⟨sen, hsen⟩ := Cond.staticRefV Y.sentinel L.sentinelStatic L.statics hcS0 hiss (a' (.isRef (.static Bundle.tN "SUPPRESSED_SENTINEL" Bundle.listD)) (by simp [Bundle.npeArmAtoms]))
  obtain ⟨ci198, i198, fB, hk198, hg198, ha198, hsB, -, hnB, htB, hffB⟩ := Cond.ownField (t := .object "java/lang/Object") Y.found L.cls (by decide +kernel) (a' (.fieldLink Bundle.tN 198 Bundle.tN "backtrace" Bundle.objD) (by simp [Bundle.npeArmAtoms])) (a' (.lays Bundle.tN Bundle.tN "backtrace" Bundle.objD) (by simp [Bundle.npeArmAtoms])) e.platform hpl
  obtain ⟨cellS, hcS', heS, -, hkeep⟩ := X.same.2.2.2.2.2 T.aS cellS0 hcS0
  have hcellS : W.heap[T.aS]? = some cellS := hcS'
  have hout' : ∀ i, (⟨T.aS, i⟩ : Loc) ∉ locs := fun i hmem => by
    have := hlocs _ hmem cellS0 hcS0
    rw [hiss] at this; cases this
  have hknownS : cellS.vm ≠ .unknown := by
    rw [heS]; intro hu
    rw [show cellS0.vm = .unknown from hu] at hiss
    cases hiss
  have hvU : cellS.slots[T.fUnassigned.slot]? = some u0.v := by rw [hkeep _ (hout' _)]; exact hu0
  have hvSen : cellS.slots[T.fSentinel.slot]? = some sen.v := by rw [hkeep _ (hout' _)]; exact hsen
  obtain ⟨tyC, dC, hdC, hdnC⟩ := Cond.laysAt hfound hk Y.cause (a' (.lays Bundle.nN Bundle.tN "cause" "Ljava/lang/Throwable;") (by simp [Bundle.npeArmAtoms]))
  obtain ⟨tyS, dS, hdS, hdnS⟩ := Cond.laysAt hfound hk Y.stack (a' (.lays Bundle.nN Bundle.tN "stackTrace" Bundle.steD) (by simp [Bundle.npeArmAtoms]))
  obtain ⟨tyP, dP, hdP, hdnP⟩ := Cond.laysAt hfound hk Y.supp (a' (.lays Bundle.nN Bundle.tN "suppressedExceptions" Bundle.listD) (by simp [Bundle.npeArmAtoms]))
  obtain ⟨tyX, dX, hdX, hdnX⟩ := Cond.laysAt hfound hk hffS (a' (.lays Bundle.nN Bundle.nN "extendedMessageState" "I") (by simp [Bundle.npeArmAtoms, Bundle.npeAtoms]))
  obtain ⟨hnX, htX⟩ := State.fieldFound?_type hffS (t := .int) (by decide +kernel)
  have xC := Cond.laysApart hdC hdX hdnC hdnX (by rw [hnX, Y.causeName]; decide)
  have xS := Cond.laysApart hdS hdX hdnS hdnX (by rw [hnX, Y.stackName]; decide)
  have xP := Cond.laysApart hdP hdX hdnP hdnX (by rw [hnX, Y.suppName]; decide)
  have hv0 : (freshCell P1.m.cls N.kN).slots[N.fState.slot]? = some (.int 0) := by
    have := fresh_default (c := P1.m.cls) tyX
    rw [htX] at this; exact this
  obtain ⟨tyB, dB, hdB, hdnB⟩ := Cond.laysAt hfound hk hffB (a' (.lays Bundle.nN Bundle.tN "backtrace" Bundle.objD) (by simp [Bundle.npeArmAtoms]))
  have bC := Cond.laysApart hdB hdC hdnB hdnC (by rw [hnB, Y.causeName]; decide)
  have bS := Cond.laysApart hdB hdS hdnB hdnS (by rw [hnB, Y.stackName]; decide)
  have bP := Cond.laysApart hdB hdP hdnB hdnP (by rw [hnB, Y.suppName]; decide)
  have bX := Cond.laysApart hdB hdX hdnB hdnX (by rw [hnB, hnX]; decide)
  have hbk : ((npeCell N.toNpeT (preparedCellV T.toThrowableT (freshCell P1.m.cls N.kN) W.heap.size u0 sen) W.cur).withEntry W.cur).slots[fB.slot]? = some .null := by
    have := fresh_default (c := P1.m.cls) tyB
    rw [htB] at this
    simpa [npeCell, preparedCellV, Cell.setSlot, Cell.withEntry, Array.getElem?_setIfInBounds, bC, bS, bP, bX, bC.symm, bS.symm, bP.symm, bX.symm, defaultValue] using this
  have tkC := Takes.of_laid (v := .ref W.heap.size) hk hordN tyC (by rw [Y.causeType]; rfl)
  have tkS := Takes.of_laid (v := u0.v) hk hordN tyS (by rw [Y.stackType]; exact fits_refV_array _ u0)
  have tkP := Takes.of_laid (v := sen.v) hk hordN tyP (by rw [Y.suppType]; exact fits_refV_object _ sen)
  have tkX := Takes.of_laid (v := .int 1) hk hordN tyX (by rw [htX]; rfl)
  have hskip : SkipFacts T e.platform s (fun u => u) u0 ((npeCell N.toNpeT (preparedCellV T.toThrowableT (freshCell P1.m.cls N.kN) W.heap.size u0 sen) W.cur).withEntry W.cur) := ⟨{ ci198 := ci198, i198 := i198, fBack := fB }, ⟨hk198, hg198, ha198, hsB⟩, hbk, fun _ _ => rfl⟩
  obtain ⟨vm', X3, st, -⟩ := X.throwsNpeColdBareVAt hexec hg hsize T L Z LZ N LN P1 L1 [PR, PE] hLs hlink1 ⟨hlinkR, hlinkE, trivial⟩ hfound hk hinit hordN hctor hsel0 hselF hcellS hknownS hvU hvSen
    hv0 xC xS xP tkC tkS tkP tkX Y.objLocals hskip (fun _ _ hA hW _ hroom _ hrest => L.nativeOff p htr hA hW hroom hrest) (by simpa using hRframes) hRlocals (by simp) hRcells (by rw [hn]; exact hRslots)
  have hlt : W.heap.size < ((W.pushCell (freshCell P1.m.cls N.kN)).setVm vm').heap.size := by
    show W.heap.size < (W.pushCell (freshCell P1.m.cls N.kN)).heap.size
    rw [State.heap_size_pushCell]; omega
  rw [hfsz] at X3
  obtain ⟨g₁, hfrM⟩ := X3.frames_eq
  have hU : ((((W.pushCell (freshCell P1.m.cls N.kN)).setVm vm').setCell W.heap.size (npeBareV T.toThrowableT N.toNpeT (freshCell P1.m.cls N.kN) W.heap.size u0 sen)).setTop g).pushFrame (.throwing W.heap.size) = (((W.pushCell (freshCell P1.m.cls N.kN)).setVm vm').setCell W.heap.size (npeBareV T.toThrowableT N.toNpeT (freshCell P1.m.cls N.kN) W.heap.size u0 sen)).setFrames (.throwing W.heap.size :: .java g :: below) := by
    rw [State.pushFrame, State.frames_setTop _ hfrM, State.setTop_of_frames _ hfrM, State.setFrames_setFrames]
  refine ⟨_, W.heap.size, _, fun target ht => st.trans (by rw [← hU]; exact ht), X3.forget (fun y hy => ?_), heapAt_setCell_self _ hlt, hfound, rfl⟩
  simp only [List.mem_cons, List.not_mem_nil, or_false] at hy
  have hge : s.heap.size ≤ W.heap.size := X.same.2.1
  rcases hy with rfl | rfl | rfl | rfl | rfl <;> exact hge
/-- the words of a machine's NullPointerException, but the four that speak of the heap -/
def vx_atN (n : Nat) : List Cond := (Bundle.npeArmAtoms n).filter vx_no
/-- the words of a machine's throw with a message, but the four that speak of the heap -/
def vx_atM (X : String) (names : List String) : List Cond := (Bundle.messageArmAtoms X names).filter vx_no
section
variable {p : Program} {l : Launch} {e : Env} {R : Room} {s : State} {m : MethodId} {args : Array Value} {below : List Frame} {meth : Method} {c : Code} {H : Heap} {locs : List Loc} {cells slots : Nat}
/-- a frame seen from a rebased start, seen from the first start again -/
theorem vx_back9 {T S : State} {R' : Room} {k n : Nat} (X : Stand p l e R s m args below meth c T locs cells slots) (Y : Stand p l e R' ((T.setVm s.vm).setFrames (.invoking m args :: below)) m args below meth c T [] 0 0) (Z : Stand p l e R' ((T.setVm s.vm).setFrames (.invoking m args :: below)) m args below meth c S [] k n) :
    Stand p l e R s m args below meth c S locs (cells + k) (slots + n) := by
  have hW0 : s.WarmedH ((T.setVm s.vm).setFrames (.invoking m args :: below)).vm := State.WarmedH.refl s
  refine { admits := X.admits, cas := X.cas, clock := X.clock, frames := X.frames, room := X.room, hears := X.hears, method := X.method, code := X.code, here := Z.here, tail := Z.tail, warmed := State.WarmedH.trans hW0 Z.warmed, limits := Z.limits.trans (Y.limits.symm.trans X.limits), bytes := Z.bytes.trans (Y.bytes.symm.trans X.bytes), same := ?_ }
  obtain ⟨e1, e2⟩ := Z.same
  rw [State.setFrames_setFrames] at e1
  have h2 : (T.setVm s.vm).sameButNew (S.setVm s.vm) [] k n := ⟨e1, e2⟩
  have h3 := X.same.trans h2
  rw [List.append_nil] at h3
  exact h3
/-- from the machine's note that E is thrown here with this text -/
def vx_Note (p : Program) (l : Launch) (e : Env) (R : Room) (s : State) (m : MethodId) (args : Array Value) (below : List Frame) (meth : Method) (c : Code) (H : Heap) (locs : List Loc) (cells slots : Nat) (Q : State → Prop) (g : JFrame) (E text : String) : Prop :=
  ∀ T : State, T.heap = H → Stand p l e R s m args below meth c T locs cells slots → ∃ t, Steps p.tables e below ((T.setTop g).pushFrame (.throwNew E (some text) none)) t ∧ Q t
theorem vx_vm {pc : Nat} {ls : Array Slot} {rest : List Value} {Q : State → Prop} (hexec : p.tables.exec = Jvm.exec) (hl : l.stackTraces = false) {cls text : String} {names : List String} {nb : Nat} {A : Nat → Prop}
    (hcls : Bundle.fit cls = true) (hnames : ∀ n ∈ names, Bundle.fit n = true) (hsoe : (cls == "java/lang/StackOverflowError") = false) (hoom : (cls == "java/lang/OutOfMemoryError") = false)
    (hat : ∀ w ∈ vx_atM cls names, w.before args s = true) (hgood : ∀ w ∈ vx_atM cls names, vx_ot w = true)
    (hU : vx_Zq Bundle.tN "UNASSIGNED_STACK" Bundle.steD A s s.heap) (hN : vx_Zq Bundle.tN "SUPPRESSED_SENTINEL" Bundle.listD A s s.heap) (hS : va_S A s.heap H locs) (hsize : ls.size = c.maxLocals)
    (htext : (text == notModelled) = false) (hnb : (stringBytes (stringToUtf16 text)).size ≤ nb) (hnb1 : nb ≤ 1000)
    (hRframes : names.length + 4 < R.frames) (hRlocals : (rest.map fun v => v.category).sum + 10240 ≤ R.locals) (hshort : 13 * names.length + 55 ≤ 10240) (hRcells : cells + 3 ≤ R.cells) (hRslots : slots + (nb + 10) ≤ R.slots) (hlocks : meth.locks = false)
    (k : ∀ (H1 : Heap) (q9 : Addr) (ce : Cell), H.size ≤ H1.size → (∀ q : Nat, q < H.size → H1[q]? = H[q]?) → va_S A s.heap H1 locs → H1[q9]? = some ce → ce.vm = .none → s.vm.findClass cls = some ce.cls → vx_W p l e R s m args below meth c H1 locs (cells + 3) (slots + (nb + 10)) Q (F0 m pc ls rest) q9) :
    vx_Note p l e R s m args below meth c H locs cells slots Q (F0 m pc ls rest) cls text := by
  intro T hT X
  have htr : e.platform.stackTraces = false := (show e.platform.stackTraces = l.stackTraces by rw [X.admits.platform]).trans hl
  have Y := vx_rebase X (R' := { frames := R.frames, locals := R.locals, cells := 3, slots := nb + 10 }) (Nat.le_refl _) (Nat.le_refl _) hRcells hRslots
  have hhp : ((T.setVm s.vm).setFrames (.invoking m args :: below)).heap = H := hT
  have hW0 : s.WarmedH ((T.setVm s.vm).setFrames (.invoking m args :: below)).vm := State.WarmedH.refl s
  have hat' : ∀ w ∈ vx_atM cls names, w.before args ((T.setVm s.vm).setFrames (.invoking m args :: below)) = true := fun w hw => vx_ot_at hW0 rfl (hgood w hw) (hat w hw)
  have hU' : vx_Zq Bundle.tN "UNASSIGNED_STACK" Bundle.steD A ((T.setVm s.vm).setFrames (.invoking m args :: below)) ((T.setVm s.vm).setFrames (.invoking m args :: below)).heap := by rw [hhp]; exact vx_Zq.moved hW0.alike (hU.kept hS.2.1)
  have hN' : vx_Zq Bundle.tN "SUPPRESSED_SENTINEL" Bundle.listD A ((T.setVm s.vm).setFrames (.invoking m args :: below)) ((T.setVm s.vm).setFrames (.invoking m args :: below)).heap := by rw [hhp]; exact vx_Zq.moved hW0.alike (hN.kept hS.2.1)
  obtain ⟨S, q, ce, st, Z, hce, hcl', hv⟩ := vx_vmAt Y hexec htr (cls := cls) (names := names) (text := text) hcls hnames hsoe hoom (vx_own hat' (vx_isRefq hU'.1) (vx_isRefq hN'.1) hU'.2.word hN'.2.word) (fun x hx => nomatch hx) htext
    (by rw [Launch.admits_arrayLengthLimit X.admits]; omega) (by rw [Launch.admits_maxHeapBytes X.admits]; simp only [componentBytes]; omega)
    (g := F0 m pc ls rest) rfl hsize hRframes (by show 2 * 0 + (rest.map fun v => v.category).sum + 10240 ≤ R.locals; omega) hshort (by show 0 + 3 ≤ 3; omega) (by show 0 + (_ + 4 + 6) ≤ nb + 10; omega) hlocks
  obtain ⟨f1, f2⟩ := vx_frame Z.same
  have f1' : H.size ≤ S.heap.size := by rw [← hT]; exact f1
  have f2' : ∀ q : Nat, q < H.size → S.heap[q]? = H[q]? := fun q hq => by
    rw [← hT]
    exact f2 q (by rw [← hT] at hq; exact hq) (fun z hz => nomatch hz)
  have X5 := vx_back9 X Y Z
  have X6 : Stand p l e R s m args below meth c S locs (cells + 3) (slots + (nb + 10)) := { X5 with same := X5.same.mono (by omega) (by omega) }
  obtain ⟨t, a1, b1⟩ := k S.heap q ce f1' f2' ⟨Nat.le_trans hS.1 f1', fun q h1 h2 => (f2' q (Nat.lt_of_lt_of_le h1 hS.1)).trans (hS.2.1 q h1 h2), hS.2.2⟩ hce hv hcl' S rfl X6
  exact ⟨t, st t a1, b1⟩
/-- from the machine's note that NullPointerException is thrown here -/
def vx_NoteN (p : Program) (l : Launch) (e : Env) (R : Room) (s : State) (m : MethodId) (args : Array Value) (below : List Frame) (meth : Method) (c : Code) (H : Heap) (locs : List Loc) (cells slots : Nat) (Q : State → Prop) (g : JFrame) : Prop :=
  ∀ T : State, T.heap = H → Stand p l e R s m args below meth c T locs cells slots → ∃ t, Steps p.tables e below ((T.setTop g).pushFrame (.throwNew "java/lang/NullPointerException" none none)) t ∧ Q t
theorem vx_npe {pc : Nat} {ls : Array Slot} {rest : List Value} {Q : State → Prop} (hexec : p.tables.exec = Jvm.exec) (hl : l.stackTraces = false) {nb : Nat} {A : Nat → Prop}
    (hat : ∀ w ∈ vx_atN nb, w.before args s = true) (hgood : ∀ w ∈ vx_atN nb, vx_ot w = true)
    (hU : vx_Zq Bundle.tN "UNASSIGNED_STACK" Bundle.steD A s s.heap) (hN : vx_Zq Bundle.tN "SUPPRESSED_SENTINEL" Bundle.listD A s s.heap) (hS : va_S A s.heap H locs) (hsize : ls.size = c.maxLocals)
    (hRframes : 7 < R.frames) (hRlocals : (rest.map fun v => v.category).sum + 10240 ≤ R.locals) (hRcells : cells + 1 ≤ R.cells) (hRslots : slots + nb ≤ R.slots) (hlocks : meth.locks = false)
    (k : ∀ (H1 : Heap) (q9 : Addr) (ce : Cell), H.size ≤ H1.size → (∀ q : Nat, q < H.size → H1[q]? = H[q]?) → va_S A s.heap H1 locs → H1[q9]? = some ce → ce.vm = .none → s.vm.findClass "java/lang/NullPointerException" = some ce.cls → vx_W p l e R s m args below meth c H1 locs (cells + 1) (slots + nb) Q (F0 m pc ls rest) q9) :
    vx_NoteN p l e R s m args below meth c H locs cells slots Q (F0 m pc ls rest) := by
  intro T hT X
  have htr : e.platform.stackTraces = false := (show e.platform.stackTraces = l.stackTraces by rw [X.admits.platform]).trans hl
  have Y := vx_rebase X (R' := { frames := R.frames, locals := R.locals, cells := 1, slots := nb }) (Nat.le_refl _) (Nat.le_refl _) hRcells hRslots
  have hhp : ((T.setVm s.vm).setFrames (.invoking m args :: below)).heap = H := hT
  have hW0 : s.WarmedH ((T.setVm s.vm).setFrames (.invoking m args :: below)).vm := State.WarmedH.refl s
  have hat' : ∀ w ∈ vx_atN nb, w.before args ((T.setVm s.vm).setFrames (.invoking m args :: below)) = true := fun w hw => vx_ot_at hW0 rfl (hgood w hw) (hat w hw)
  have hU' : vx_Zq Bundle.tN "UNASSIGNED_STACK" Bundle.steD A ((T.setVm s.vm).setFrames (.invoking m args :: below)) ((T.setVm s.vm).setFrames (.invoking m args :: below)).heap := by rw [hhp]; exact vx_Zq.moved hW0.alike (hU.kept hS.2.1)
  have hN' : vx_Zq Bundle.tN "SUPPRESSED_SENTINEL" Bundle.listD A ((T.setVm s.vm).setFrames (.invoking m args :: below)) ((T.setVm s.vm).setFrames (.invoking m args :: below)).heap := by rw [hhp]; exact vx_Zq.moved hW0.alike (hN.kept hS.2.1)
  obtain ⟨S, q, ce, st, Z, hce, hcl', hv⟩ := vx_npeAt Y hexec htr (n := nb) (vx_own hat' (vx_isRefq hU'.1) (vx_isRefq hN'.1) hU'.2.word hN'.2.word) (fun x hx => nomatch hx)
    (g := F0 m pc ls rest) rfl hsize hRframes (by show 2 * 0 + (rest.map fun v => v.category).sum + 10240 ≤ R.locals; omega) (by show 0 + 1 ≤ 1; omega) (by show 0 + nb ≤ nb; omega) hlocks
  obtain ⟨f1, f2⟩ := vx_frame Z.same
  have f1' : H.size ≤ S.heap.size := by rw [← hT]; exact f1
  have f2' : ∀ q : Nat, q < H.size → S.heap[q]? = H[q]? := fun q hq => by
    rw [← hT]
    exact f2 q (by rw [← hT] at hq; exact hq) (fun z hz => nomatch hz)
  have X5 := vx_back9 X Y Z
  have X6 : Stand p l e R s m args below meth c S locs (cells + 1) (slots + nb) := { X5 with same := X5.same.mono (by omega) (by omega) }
  obtain ⟨t, a1, b1⟩ := k S.heap q ce f1' f2' ⟨Nat.le_trans hS.1 f1', fun q h1 h2 => (f2' q (Nat.lt_of_lt_of_le h1 hS.1)).trans (hS.2.1 q h1 h2), hS.2.2⟩ hce hv hcl' S rfl X6
  exact ⟨t, st t a1, b1⟩
variable {Q : State → Prop} {cc : ByteArray} {pc : Nat} {ls : Array Slot} {rest : List Value}
theorem vx_idivZ (hexec : p.tables.exec = Jvm.exec) (hb : c.code = cc) {a b : Int32} (h0 : b = 0) (d : decode cc pc = .ok (.idiv, 1)) (k : vx_Note p l e R s m args below meth c H locs cells slots Q (F0 m pc ls rest) "java/lang/ArithmeticException" "/ by zero") :
    W p l e R s m args below meth c H locs cells slots Q (F0 m pc ls (.int b :: .int a :: rest)) := by
  intro T hT X
  obtain ⟨t, st, q⟩ := k T hT X
  exact ⟨t, X.idivZero hexec (g := F0 m pc ls (.int b :: .int a :: rest)) rfl (a := a) (rest := rest) (by rw [h0]) (by rw [hb]; exact d) t st, q⟩
theorem vx_iremZ (hexec : p.tables.exec = Jvm.exec) (hb : c.code = cc) {a b : Int32} (h0 : b = 0) (d : decode cc pc = .ok (.irem, 1)) (k : vx_Note p l e R s m args below meth c H locs cells slots Q (F0 m pc ls rest) "java/lang/ArithmeticException" "/ by zero") :
    W p l e R s m args below meth c H locs cells slots Q (F0 m pc ls (.int b :: .int a :: rest)) := by
  intro T hT X
  obtain ⟨t, st, q⟩ := k T hT X
  exact ⟨t, X.iremZero hexec (g := F0 m pc ls (.int b :: .int a :: rest)) rfl (a := a) (rest := rest) (by rw [h0]) (by rw [hb]; exact d) t st, q⟩
theorem vx_ldivZ (hexec : p.tables.exec = Jvm.exec) (hb : c.code = cc) {a b : Int64} (h0 : b = 0) (d : decode cc pc = .ok (.ldiv, 1)) (k : vx_Note p l e R s m args below meth c H locs cells slots Q (F0 m pc ls rest) "java/lang/ArithmeticException" "/ by zero") :
    W p l e R s m args below meth c H locs cells slots Q (F0 m pc ls (.long b :: .long a :: rest)) := by
  intro T hT X
  obtain ⟨t, st, q⟩ := k T hT X
  exact ⟨t, X.ldivZero hexec (g := F0 m pc ls (.long b :: .long a :: rest)) rfl (a := a) (rest := rest) (by rw [h0]) (by rw [hb]; exact d) t st, q⟩
theorem vx_lremZ (hexec : p.tables.exec = Jvm.exec) (hb : c.code = cc) {a b : Int64} (h0 : b = 0) (d : decode cc pc = .ok (.lrem, 1)) (k : vx_Note p l e R s m args below meth c H locs cells slots Q (F0 m pc ls rest) "java/lang/ArithmeticException" "/ by zero") :
    W p l e R s m args below meth c H locs cells slots Q (F0 m pc ls (.long b :: .long a :: rest)) := by
  intro T hT X
  obtain ⟨t, st, q⟩ := k T hT X
  exact ⟨t, X.lremZero hexec (g := F0 m pc ls (.long b :: .long a :: rest)) rfl (a := a) (rest := rest) (by rw [h0]) (by rw [hb]; exact d) t st, q⟩
theorem vx_ialdZ {D : va_G} {cl : List vw_C} {ws : va_W} {tys : List (ClassId × FieldType)} {a : Nat} (hexec : p.tables.exec = Jvm.exec) (hb : c.code = cc) (hK : va_K D cl tys s) (hP : va_P D cl ws H) (q0 t0 : Nat) {cA : ClassId} {n : Nat} {f : Nat → Int32} (ha : ws[q0]? = some (a, .inl (cA, n, .inl f))) (ht : tys[t0]? = some (cA, .int)) {i : Int32} (hout : ¬ vp_in i n) (hdg : decode cc pc = .ok (.iaload, 1))
    (k : ∀ tx : String, tx = (toString "Index " ++ toString i ++ toString " out of bounds for length " ++ toString n : String) → vx_Note p l e R s m args below meth c H locs cells slots Q (F0 m pc ls rest) "java/lang/ArrayIndexOutOfBoundsException" tx) : W p l e R s m args below meth c H locs cells slots Q (F0 m pc ls (.int i :: .ref a :: rest)) := by
  intro T hT X
  obtain ⟨t, st, q⟩ := k _ rfl T hT X
  refine ⟨t, ?_, q⟩
  have h1 := X.ialoadOut hexec (by rw [hT]; exact hP q0 _ ha) ((hK.2 t0 _ ht).1 n (fun j => .int (f j))) (j := i) (by show (i < 0 ∨ (arrV _ _ _).slots.size ≤ _); rw [arrV_size]; exact Classical.byContradiction hout) (g := F0 m pc ls (.int i :: .ref a :: rest)) rfl (rest := rest) rfl (by rw [hb]; exact hdg) t
  simp only [arrV_size] at h1
  exact h1 st
theorem vx_iastZ {D : va_G} {cl : List vw_C} {ws : va_W} {tys : List (ClassId × FieldType)} {a : Nat} (hexec : p.tables.exec = Jvm.exec) (hb : c.code = cc) (hK : va_K D cl tys s) (hP : va_P D cl ws H) (q0 t0 : Nat) {cA : ClassId} {n : Nat} {f : Nat → Int32} (ha : ws[q0]? = some (a, .inl (cA, n, .inl f))) (ht : tys[t0]? = some (cA, .int)) {i : Int32} {x : Int32} (hout : ¬ vp_in i n) (hdg : decode cc pc = .ok (.iastore, 1))
    (k : ∀ tx : String, tx = (toString "Index " ++ toString i ++ toString " out of bounds for length " ++ toString n : String) → vx_Note p l e R s m args below meth c H locs cells slots Q (F0 m pc ls rest) "java/lang/ArrayIndexOutOfBoundsException" tx) : W p l e R s m args below meth c H locs cells slots Q (F0 m pc ls (.int x :: .int i :: .ref a :: rest)) := by
  intro T hT X
  obtain ⟨t, st, q⟩ := k _ rfl T hT X
  refine ⟨t, ?_, q⟩
  have h1 := X.iastoreOut hexec (by rw [hT]; exact hP q0 _ ha) ((hK.2 t0 _ ht).1 n (fun j => .int (f j))) (j := i) (by show (i < 0 ∨ (arrV _ _ _).slots.size ≤ _); rw [arrV_size]; exact Classical.byContradiction hout) (g := F0 m pc ls (.int x :: .int i :: .ref a :: rest)) rfl (rest := rest) rfl (by rw [hb]; exact hdg) t
  simp only [arrV_size] at h1
  exact h1 st
theorem vx_baldZ {D : va_G} {cl : List vw_C} {ws : va_W} {tys : List (ClassId × FieldType)} {a : Nat} (hexec : p.tables.exec = Jvm.exec) (hb : c.code = cc) (hK : va_K D cl tys s) (hP : va_P D cl ws H) (q0 t0 : Nat) {cA : ClassId} {n : Nat} {f : Nat → Int32} (ha : ws[q0]? = some (a, .inl (cA, n, .inl f))) (ht : tys[t0]? = some (cA, .byte)) {i : Int32} (hout : ¬ vp_in i n) (hdg : decode cc pc = .ok (.baload, 1))
    (k : ∀ tx : String, tx = (toString "Index " ++ toString i ++ toString " out of bounds for length " ++ toString n : String) → vx_Note p l e R s m args below meth c H locs cells slots Q (F0 m pc ls rest) "java/lang/ArrayIndexOutOfBoundsException" tx) : W p l e R s m args below meth c H locs cells slots Q (F0 m pc ls (.int i :: .ref a :: rest)) := by
  intro T hT X
  obtain ⟨t, st, q⟩ := k _ rfl T hT X
  refine ⟨t, ?_, q⟩
  have h1 := X.baloadOut hexec (by rw [hT]; exact hP q0 _ ha) ((hK.2 t0 _ ht).1 n (fun j => .int (f j))) (j := i) (by show (i < 0 ∨ (arrV _ _ _).slots.size ≤ _); rw [arrV_size]; exact Classical.byContradiction hout) (g := F0 m pc ls (.int i :: .ref a :: rest)) rfl (rest := rest) rfl (by rw [hb]; exact hdg) t
  simp only [arrV_size] at h1
  exact h1 st
theorem vx_bastZ {D : va_G} {cl : List vw_C} {ws : va_W} {tys : List (ClassId × FieldType)} {a : Nat} (hexec : p.tables.exec = Jvm.exec) (hb : c.code = cc) (hK : va_K D cl tys s) (hP : va_P D cl ws H) (q0 t0 : Nat) {cA : ClassId} {n : Nat} {f : Nat → Int32} (ha : ws[q0]? = some (a, .inl (cA, n, .inl f))) (ht : tys[t0]? = some (cA, .byte)) {i : Int32} {x : Int32} (hout : ¬ vp_in i n) (hdg : decode cc pc = .ok (.bastore, 1))
    (k : ∀ tx : String, tx = (toString "Index " ++ toString i ++ toString " out of bounds for length " ++ toString n : String) → vx_Note p l e R s m args below meth c H locs cells slots Q (F0 m pc ls rest) "java/lang/ArrayIndexOutOfBoundsException" tx) : W p l e R s m args below meth c H locs cells slots Q (F0 m pc ls (.int x :: .int i :: .ref a :: rest)) := by
  intro T hT X
  obtain ⟨t, st, q⟩ := k _ rfl T hT X
  refine ⟨t, ?_, q⟩
  have h1 := X.bastoreOut hexec (by rw [hT]; exact hP q0 _ ha) ((hK.2 t0 _ ht).1 n (fun j => .int (f j))) (j := i) (by show (i < 0 ∨ (arrV _ _ _).slots.size ≤ _); rw [arrV_size]; exact Classical.byContradiction hout) (g := F0 m pc ls (.int x :: .int i :: .ref a :: rest)) rfl (rest := rest) rfl (by rw [hb]; exact hdg) t
  simp only [arrV_size] at h1
  exact h1 st
theorem vx_zaldZ {D : va_G} {cl : List vw_C} {ws : va_W} {tys : List (ClassId × FieldType)} {a : Nat} (hexec : p.tables.exec = Jvm.exec) (hb : c.code = cc) (hK : va_K D cl tys s) (hP : va_P D cl ws H) (q0 t0 : Nat) {cA : ClassId} {n : Nat} {f : Nat → Int32} (ha : ws[q0]? = some (a, .inl (cA, n, .inl f))) (ht : tys[t0]? = some (cA, .boolean)) {i : Int32} (hout : ¬ vp_in i n) (hdg : decode cc pc = .ok (.baload, 1))
    (k : ∀ tx : String, tx = (toString "Index " ++ toString i ++ toString " out of bounds for length " ++ toString n : String) → vx_Note p l e R s m args below meth c H locs cells slots Q (F0 m pc ls rest) "java/lang/ArrayIndexOutOfBoundsException" tx) : W p l e R s m args below meth c H locs cells slots Q (F0 m pc ls (.int i :: .ref a :: rest)) := by
  intro T hT X
  obtain ⟨t, st, q⟩ := k _ rfl T hT X
  refine ⟨t, ?_, q⟩
  have h1 := X.baloadOut hexec (by rw [hT]; exact hP q0 _ ha) ((hK.2 t0 _ ht).1 n (fun j => .int (f j))) (j := i) (by show (i < 0 ∨ (arrV _ _ _).slots.size ≤ _); rw [arrV_size]; exact Classical.byContradiction hout) (g := F0 m pc ls (.int i :: .ref a :: rest)) rfl (rest := rest) rfl (by rw [hb]; exact hdg) t
  simp only [arrV_size] at h1
  exact h1 st
theorem vx_zastZ {D : va_G} {cl : List vw_C} {ws : va_W} {tys : List (ClassId × FieldType)} {a : Nat} (hexec : p.tables.exec = Jvm.exec) (hb : c.code = cc) (hK : va_K D cl tys s) (hP : va_P D cl ws H) (q0 t0 : Nat) {cA : ClassId} {n : Nat} {f : Nat → Int32} (ha : ws[q0]? = some (a, .inl (cA, n, .inl f))) (ht : tys[t0]? = some (cA, .boolean)) {i : Int32} {x : Int32} (hout : ¬ vp_in i n) (hdg : decode cc pc = .ok (.bastore, 1))
    (k : ∀ tx : String, tx = (toString "Index " ++ toString i ++ toString " out of bounds for length " ++ toString n : String) → vx_Note p l e R s m args below meth c H locs cells slots Q (F0 m pc ls rest) "java/lang/ArrayIndexOutOfBoundsException" tx) : W p l e R s m args below meth c H locs cells slots Q (F0 m pc ls (.int x :: .int i :: .ref a :: rest)) := by
  intro T hT X
  obtain ⟨t, st, q⟩ := k _ rfl T hT X
  refine ⟨t, ?_, q⟩
  have h1 := X.bastoreOut hexec (by rw [hT]; exact hP q0 _ ha) ((hK.2 t0 _ ht).1 n (fun j => .int (f j))) (j := i) (by show (i < 0 ∨ (arrV _ _ _).slots.size ≤ _); rw [arrV_size]; exact Classical.byContradiction hout) (g := F0 m pc ls (.int x :: .int i :: .ref a :: rest)) rfl (rest := rest) rfl (by rw [hb]; exact hdg) t
  simp only [arrV_size] at h1
  exact h1 st
theorem vx_caldZ {D : va_G} {cl : List vw_C} {ws : va_W} {tys : List (ClassId × FieldType)} {a : Nat} (hexec : p.tables.exec = Jvm.exec) (hb : c.code = cc) (hK : va_K D cl tys s) (hP : va_P D cl ws H) (q0 t0 : Nat) {cA : ClassId} {n : Nat} {f : Nat → Int32} (ha : ws[q0]? = some (a, .inl (cA, n, .inl f))) (ht : tys[t0]? = some (cA, .char)) {i : Int32} (hout : ¬ vp_in i n) (hdg : decode cc pc = .ok (.caload, 1))
    (k : ∀ tx : String, tx = (toString "Index " ++ toString i ++ toString " out of bounds for length " ++ toString n : String) → vx_Note p l e R s m args below meth c H locs cells slots Q (F0 m pc ls rest) "java/lang/ArrayIndexOutOfBoundsException" tx) : W p l e R s m args below meth c H locs cells slots Q (F0 m pc ls (.int i :: .ref a :: rest)) := by
  intro T hT X
  obtain ⟨t, st, q⟩ := k _ rfl T hT X
  refine ⟨t, ?_, q⟩
  have h1 := X.caloadOut hexec (by rw [hT]; exact hP q0 _ ha) ((hK.2 t0 _ ht).1 n (fun j => .int (f j))) (j := i) (by show (i < 0 ∨ (arrV _ _ _).slots.size ≤ _); rw [arrV_size]; exact Classical.byContradiction hout) (g := F0 m pc ls (.int i :: .ref a :: rest)) rfl (rest := rest) rfl (by rw [hb]; exact hdg) t
  simp only [arrV_size] at h1
  exact h1 st
theorem vx_castZ {D : va_G} {cl : List vw_C} {ws : va_W} {tys : List (ClassId × FieldType)} {a : Nat} (hexec : p.tables.exec = Jvm.exec) (hb : c.code = cc) (hK : va_K D cl tys s) (hP : va_P D cl ws H) (q0 t0 : Nat) {cA : ClassId} {n : Nat} {f : Nat → Int32} (ha : ws[q0]? = some (a, .inl (cA, n, .inl f))) (ht : tys[t0]? = some (cA, .char)) {i : Int32} {x : Int32} (hout : ¬ vp_in i n) (hdg : decode cc pc = .ok (.castore, 1))
    (k : ∀ tx : String, tx = (toString "Index " ++ toString i ++ toString " out of bounds for length " ++ toString n : String) → vx_Note p l e R s m args below meth c H locs cells slots Q (F0 m pc ls rest) "java/lang/ArrayIndexOutOfBoundsException" tx) : W p l e R s m args below meth c H locs cells slots Q (F0 m pc ls (.int x :: .int i :: .ref a :: rest)) := by
  intro T hT X
  obtain ⟨t, st, q⟩ := k _ rfl T hT X
  refine ⟨t, ?_, q⟩
  have h1 := X.castoreOut hexec (by rw [hT]; exact hP q0 _ ha) ((hK.2 t0 _ ht).1 n (fun j => .int (f j))) (j := i) (by show (i < 0 ∨ (arrV _ _ _).slots.size ≤ _); rw [arrV_size]; exact Classical.byContradiction hout) (g := F0 m pc ls (.int x :: .int i :: .ref a :: rest)) rfl (rest := rest) rfl (by rw [hb]; exact hdg) t
  simp only [arrV_size] at h1
  exact h1 st
theorem vx_saldZ {D : va_G} {cl : List vw_C} {ws : va_W} {tys : List (ClassId × FieldType)} {a : Nat} (hexec : p.tables.exec = Jvm.exec) (hb : c.code = cc) (hK : va_K D cl tys s) (hP : va_P D cl ws H) (q0 t0 : Nat) {cA : ClassId} {n : Nat} {f : Nat → Int32} (ha : ws[q0]? = some (a, .inl (cA, n, .inl f))) (ht : tys[t0]? = some (cA, .short)) {i : Int32} (hout : ¬ vp_in i n) (hdg : decode cc pc = .ok (.saload, 1))
    (k : ∀ tx : String, tx = (toString "Index " ++ toString i ++ toString " out of bounds for length " ++ toString n : String) → vx_Note p l e R s m args below meth c H locs cells slots Q (F0 m pc ls rest) "java/lang/ArrayIndexOutOfBoundsException" tx) : W p l e R s m args below meth c H locs cells slots Q (F0 m pc ls (.int i :: .ref a :: rest)) := by
  intro T hT X
  obtain ⟨t, st, q⟩ := k _ rfl T hT X
  refine ⟨t, ?_, q⟩
  have h1 := X.saloadOut hexec (by rw [hT]; exact hP q0 _ ha) ((hK.2 t0 _ ht).1 n (fun j => .int (f j))) (j := i) (by show (i < 0 ∨ (arrV _ _ _).slots.size ≤ _); rw [arrV_size]; exact Classical.byContradiction hout) (g := F0 m pc ls (.int i :: .ref a :: rest)) rfl (rest := rest) rfl (by rw [hb]; exact hdg) t
  simp only [arrV_size] at h1
  exact h1 st
theorem vx_sastZ {D : va_G} {cl : List vw_C} {ws : va_W} {tys : List (ClassId × FieldType)} {a : Nat} (hexec : p.tables.exec = Jvm.exec) (hb : c.code = cc) (hK : va_K D cl tys s) (hP : va_P D cl ws H) (q0 t0 : Nat) {cA : ClassId} {n : Nat} {f : Nat → Int32} (ha : ws[q0]? = some (a, .inl (cA, n, .inl f))) (ht : tys[t0]? = some (cA, .short)) {i : Int32} {x : Int32} (hout : ¬ vp_in i n) (hdg : decode cc pc = .ok (.sastore, 1))
    (k : ∀ tx : String, tx = (toString "Index " ++ toString i ++ toString " out of bounds for length " ++ toString n : String) → vx_Note p l e R s m args below meth c H locs cells slots Q (F0 m pc ls rest) "java/lang/ArrayIndexOutOfBoundsException" tx) : W p l e R s m args below meth c H locs cells slots Q (F0 m pc ls (.int x :: .int i :: .ref a :: rest)) := by
  intro T hT X
  obtain ⟨t, st, q⟩ := k _ rfl T hT X
  refine ⟨t, ?_, q⟩
  have h1 := X.sastoreOut hexec (by rw [hT]; exact hP q0 _ ha) ((hK.2 t0 _ ht).1 n (fun j => .int (f j))) (j := i) (by show (i < 0 ∨ (arrV _ _ _).slots.size ≤ _); rw [arrV_size]; exact Classical.byContradiction hout) (g := F0 m pc ls (.int x :: .int i :: .ref a :: rest)) rfl (rest := rest) rfl (by rw [hb]; exact hdg) t
  simp only [arrV_size] at h1
  exact h1 st
theorem vx_laldZ {D : va_G} {cl : List vw_C} {ws : va_W} {tys : List (ClassId × FieldType)} {a : Nat} (hexec : p.tables.exec = Jvm.exec) (hb : c.code = cc) (hK : va_K D cl tys s) (hP : va_P D cl ws H) (q0 t0 : Nat) {cA : ClassId} {n : Nat} {f : Nat → Int64} (ha : ws[q0]? = some (a, .inl (cA, n, .inr (.inl f)))) (ht : tys[t0]? = some (cA, .long)) {i : Int32} (hout : ¬ vp_in i n) (hdg : decode cc pc = .ok (.laload, 1))
    (k : ∀ tx : String, tx = (toString "Index " ++ toString i ++ toString " out of bounds for length " ++ toString n : String) → vx_Note p l e R s m args below meth c H locs cells slots Q (F0 m pc ls rest) "java/lang/ArrayIndexOutOfBoundsException" tx) : W p l e R s m args below meth c H locs cells slots Q (F0 m pc ls (.int i :: .ref a :: rest)) := by
  intro T hT X
  obtain ⟨t, st, q⟩ := k _ rfl T hT X
  refine ⟨t, ?_, q⟩
  have h1 := X.laloadOut hexec (by rw [hT]; exact hP q0 _ ha) ((hK.2 t0 _ ht).1 n (fun j => .long (f j))) (j := i) (by show (i < 0 ∨ (arrV _ _ _).slots.size ≤ _); rw [arrV_size]; exact Classical.byContradiction hout) (g := F0 m pc ls (.int i :: .ref a :: rest)) rfl (rest := rest) rfl (by rw [hb]; exact hdg) t
  simp only [arrV_size] at h1
  exact h1 st
theorem vx_lastZ {D : va_G} {cl : List vw_C} {ws : va_W} {tys : List (ClassId × FieldType)} {a : Nat} (hexec : p.tables.exec = Jvm.exec) (hb : c.code = cc) (hK : va_K D cl tys s) (hP : va_P D cl ws H) (q0 t0 : Nat) {cA : ClassId} {n : Nat} {f : Nat → Int64} (ha : ws[q0]? = some (a, .inl (cA, n, .inr (.inl f)))) (ht : tys[t0]? = some (cA, .long)) {i : Int32} {x : Int64} (hout : ¬ vp_in i n) (hdg : decode cc pc = .ok (.lastore, 1))
    (k : ∀ tx : String, tx = (toString "Index " ++ toString i ++ toString " out of bounds for length " ++ toString n : String) → vx_Note p l e R s m args below meth c H locs cells slots Q (F0 m pc ls rest) "java/lang/ArrayIndexOutOfBoundsException" tx) : W p l e R s m args below meth c H locs cells slots Q (F0 m pc ls (.long x :: .int i :: .ref a :: rest)) := by
  intro T hT X
  obtain ⟨t, st, q⟩ := k _ rfl T hT X
  refine ⟨t, ?_, q⟩
  have h1 := X.lastoreOut hexec (by rw [hT]; exact hP q0 _ ha) ((hK.2 t0 _ ht).1 n (fun j => .long (f j))) (j := i) (by show (i < 0 ∨ (arrV _ _ _).slots.size ≤ _); rw [arrV_size]; exact Classical.byContradiction hout) (g := F0 m pc ls (.long x :: .int i :: .ref a :: rest)) rfl (rest := rest) rfl (by rw [hb]; exact hdg) t
  simp only [arrV_size] at h1
  exact h1 st
theorem vx_faldZ {D : va_G} {cl : List vw_C} {ws : va_W} {tys : List (ClassId × FieldType)} {a : Nat} (hexec : p.tables.exec = Jvm.exec) (hb : c.code = cc) (hK : va_K D cl tys s) (hP : va_P D cl ws H) (q0 t0 : Nat) {cA : ClassId} {n : Nat} {f : Nat → UInt32} (ha : ws[q0]? = some (a, .inl (cA, n, .inr (.inr (.inl f))))) (ht : tys[t0]? = some (cA, .float)) {i : Int32} (hout : ¬ vp_in i n) (hdg : decode cc pc = .ok (.faload, 1))
    (k : ∀ tx : String, tx = (toString "Index " ++ toString i ++ toString " out of bounds for length " ++ toString n : String) → vx_Note p l e R s m args below meth c H locs cells slots Q (F0 m pc ls rest) "java/lang/ArrayIndexOutOfBoundsException" tx) : W p l e R s m args below meth c H locs cells slots Q (F0 m pc ls (.int i :: .ref a :: rest)) := by
  intro T hT X
  obtain ⟨t, st, q⟩ := k _ rfl T hT X
  refine ⟨t, ?_, q⟩
  have h1 := X.faloadOut hexec (by rw [hT]; exact hP q0 _ ha) ((hK.2 t0 _ ht).1 n (fun j => .float (f j))) (j := i) (by show (i < 0 ∨ (arrV _ _ _).slots.size ≤ _); rw [arrV_size]; exact Classical.byContradiction hout) (g := F0 m pc ls (.int i :: .ref a :: rest)) rfl (rest := rest) rfl (by rw [hb]; exact hdg) t
  simp only [arrV_size] at h1
  exact h1 st
theorem vx_fastZ {D : va_G} {cl : List vw_C} {ws : va_W} {tys : List (ClassId × FieldType)} {a : Nat} (hexec : p.tables.exec = Jvm.exec) (hb : c.code = cc) (hK : va_K D cl tys s) (hP : va_P D cl ws H) (q0 t0 : Nat) {cA : ClassId} {n : Nat} {f : Nat → UInt32} (ha : ws[q0]? = some (a, .inl (cA, n, .inr (.inr (.inl f))))) (ht : tys[t0]? = some (cA, .float)) {i : Int32} {x : UInt32} (hout : ¬ vp_in i n) (hdg : decode cc pc = .ok (.fastore, 1))
    (k : ∀ tx : String, tx = (toString "Index " ++ toString i ++ toString " out of bounds for length " ++ toString n : String) → vx_Note p l e R s m args below meth c H locs cells slots Q (F0 m pc ls rest) "java/lang/ArrayIndexOutOfBoundsException" tx) : W p l e R s m args below meth c H locs cells slots Q (F0 m pc ls (.float x :: .int i :: .ref a :: rest)) := by
  intro T hT X
  obtain ⟨t, st, q⟩ := k _ rfl T hT X
  refine ⟨t, ?_, q⟩
  have h1 := X.fastoreOut hexec (by rw [hT]; exact hP q0 _ ha) ((hK.2 t0 _ ht).1 n (fun j => .float (f j))) (j := i) (by show (i < 0 ∨ (arrV _ _ _).slots.size ≤ _); rw [arrV_size]; exact Classical.byContradiction hout) (g := F0 m pc ls (.float x :: .int i :: .ref a :: rest)) rfl (rest := rest) rfl (by rw [hb]; exact hdg) t
  simp only [arrV_size] at h1
  exact h1 st
theorem vx_daldZ {D : va_G} {cl : List vw_C} {ws : va_W} {tys : List (ClassId × FieldType)} {a : Nat} (hexec : p.tables.exec = Jvm.exec) (hb : c.code = cc) (hK : va_K D cl tys s) (hP : va_P D cl ws H) (q0 t0 : Nat) {cA : ClassId} {n : Nat} {f : Nat → UInt64} (ha : ws[q0]? = some (a, .inl (cA, n, .inr (.inr (.inr (.inl f)))))) (ht : tys[t0]? = some (cA, .double)) {i : Int32} (hout : ¬ vp_in i n) (hdg : decode cc pc = .ok (.daload, 1))
    (k : ∀ tx : String, tx = (toString "Index " ++ toString i ++ toString " out of bounds for length " ++ toString n : String) → vx_Note p l e R s m args below meth c H locs cells slots Q (F0 m pc ls rest) "java/lang/ArrayIndexOutOfBoundsException" tx) : W p l e R s m args below meth c H locs cells slots Q (F0 m pc ls (.int i :: .ref a :: rest)) := by
  intro T hT X
  obtain ⟨t, st, q⟩ := k _ rfl T hT X
  refine ⟨t, ?_, q⟩
  have h1 := X.daloadOut hexec (by rw [hT]; exact hP q0 _ ha) ((hK.2 t0 _ ht).1 n (fun j => .double (f j))) (j := i) (by show (i < 0 ∨ (arrV _ _ _).slots.size ≤ _); rw [arrV_size]; exact Classical.byContradiction hout) (g := F0 m pc ls (.int i :: .ref a :: rest)) rfl (rest := rest) rfl (by rw [hb]; exact hdg) t
  simp only [arrV_size] at h1
  exact h1 st
theorem vx_dastZ {D : va_G} {cl : List vw_C} {ws : va_W} {tys : List (ClassId × FieldType)} {a : Nat} (hexec : p.tables.exec = Jvm.exec) (hb : c.code = cc) (hK : va_K D cl tys s) (hP : va_P D cl ws H) (q0 t0 : Nat) {cA : ClassId} {n : Nat} {f : Nat → UInt64} (ha : ws[q0]? = some (a, .inl (cA, n, .inr (.inr (.inr (.inl f)))))) (ht : tys[t0]? = some (cA, .double)) {i : Int32} {x : UInt64} (hout : ¬ vp_in i n) (hdg : decode cc pc = .ok (.dastore, 1))
    (k : ∀ tx : String, tx = (toString "Index " ++ toString i ++ toString " out of bounds for length " ++ toString n : String) → vx_Note p l e R s m args below meth c H locs cells slots Q (F0 m pc ls rest) "java/lang/ArrayIndexOutOfBoundsException" tx) : W p l e R s m args below meth c H locs cells slots Q (F0 m pc ls (.double x :: .int i :: .ref a :: rest)) := by
  intro T hT X
  obtain ⟨t, st, q⟩ := k _ rfl T hT X
  refine ⟨t, ?_, q⟩
  have h1 := X.dastoreOut hexec (by rw [hT]; exact hP q0 _ ha) ((hK.2 t0 _ ht).1 n (fun j => .double (f j))) (j := i) (by show (i < 0 ∨ (arrV _ _ _).slots.size ≤ _); rw [arrV_size]; exact Classical.byContradiction hout) (g := F0 m pc ls (.double x :: .int i :: .ref a :: rest)) rfl (rest := rest) rfl (by rw [hb]; exact hdg) t
  simp only [arrV_size] at h1
  exact h1 st
theorem vx_arraylengthN (hexec : p.tables.exec = Jvm.exec) (hb : c.code = cc) (hdg : decode cc pc = .ok (.arraylength, 1)) (k : vx_NoteN p l e R s m args below meth c H locs cells slots Q (F0 m pc ls rest)) : W p l e R s m args below meth c H locs cells slots Q (F0 m pc ls (.null :: rest)) := by
  intro T hT X
  obtain ⟨t, st, q⟩ := k T hT X
  exact ⟨t, X.arraylengthNull hexec (g := F0 m pc ls (.null :: rest)) rfl (rest := rest) rfl (by rw [hb]; exact hdg) t st, q⟩
theorem vx_ialoadN (hexec : p.tables.exec = Jvm.exec) (hb : c.code = cc) {i : Int32} (hdg : decode cc pc = .ok (.iaload, 1)) (k : vx_NoteN p l e R s m args below meth c H locs cells slots Q (F0 m pc ls rest)) : W p l e R s m args below meth c H locs cells slots Q (F0 m pc ls (.int i :: .null :: rest)) := by
  intro T hT X
  obtain ⟨t, st, q⟩ := k T hT X
  exact ⟨t, X.ialoadNull hexec (g := F0 m pc ls (.int i :: .null :: rest)) rfl (rest := rest) rfl (by rw [hb]; exact hdg) t st, q⟩
theorem vx_laloadN (hexec : p.tables.exec = Jvm.exec) (hb : c.code = cc) {i : Int32} (hdg : decode cc pc = .ok (.laload, 1)) (k : vx_NoteN p l e R s m args below meth c H locs cells slots Q (F0 m pc ls rest)) : W p l e R s m args below meth c H locs cells slots Q (F0 m pc ls (.int i :: .null :: rest)) := by
  intro T hT X
  obtain ⟨t, st, q⟩ := k T hT X
  exact ⟨t, X.laloadNull hexec (g := F0 m pc ls (.int i :: .null :: rest)) rfl (rest := rest) rfl (by rw [hb]; exact hdg) t st, q⟩
theorem vx_faloadN (hexec : p.tables.exec = Jvm.exec) (hb : c.code = cc) {i : Int32} (hdg : decode cc pc = .ok (.faload, 1)) (k : vx_NoteN p l e R s m args below meth c H locs cells slots Q (F0 m pc ls rest)) : W p l e R s m args below meth c H locs cells slots Q (F0 m pc ls (.int i :: .null :: rest)) := by
  intro T hT X
  obtain ⟨t, st, q⟩ := k T hT X
  exact ⟨t, X.faloadNull hexec (g := F0 m pc ls (.int i :: .null :: rest)) rfl (rest := rest) rfl (by rw [hb]; exact hdg) t st, q⟩
theorem vx_daloadN (hexec : p.tables.exec = Jvm.exec) (hb : c.code = cc) {i : Int32} (hdg : decode cc pc = .ok (.daload, 1)) (k : vx_NoteN p l e R s m args below meth c H locs cells slots Q (F0 m pc ls rest)) : W p l e R s m args below meth c H locs cells slots Q (F0 m pc ls (.int i :: .null :: rest)) := by
  intro T hT X
  obtain ⟨t, st, q⟩ := k T hT X
  exact ⟨t, X.daloadNull hexec (g := F0 m pc ls (.int i :: .null :: rest)) rfl (rest := rest) rfl (by rw [hb]; exact hdg) t st, q⟩
theorem vx_aaloadN (hexec : p.tables.exec = Jvm.exec) (hb : c.code = cc) {i : Int32} (hdg : decode cc pc = .ok (.aaload, 1)) (k : vx_NoteN p l e R s m args below meth c H locs cells slots Q (F0 m pc ls rest)) : W p l e R s m args below meth c H locs cells slots Q (F0 m pc ls (.int i :: .null :: rest)) := by
  intro T hT X
  obtain ⟨t, st, q⟩ := k T hT X
  exact ⟨t, X.aaloadNull hexec (g := F0 m pc ls (.int i :: .null :: rest)) rfl (rest := rest) rfl (by rw [hb]; exact hdg) t st, q⟩
theorem vx_baloadN (hexec : p.tables.exec = Jvm.exec) (hb : c.code = cc) {i : Int32} (hdg : decode cc pc = .ok (.baload, 1)) (k : vx_NoteN p l e R s m args below meth c H locs cells slots Q (F0 m pc ls rest)) : W p l e R s m args below meth c H locs cells slots Q (F0 m pc ls (.int i :: .null :: rest)) := by
  intro T hT X
  obtain ⟨t, st, q⟩ := k T hT X
  exact ⟨t, X.baloadNull hexec (g := F0 m pc ls (.int i :: .null :: rest)) rfl (rest := rest) rfl (by rw [hb]; exact hdg) t st, q⟩
theorem vx_caloadN (hexec : p.tables.exec = Jvm.exec) (hb : c.code = cc) {i : Int32} (hdg : decode cc pc = .ok (.caload, 1)) (k : vx_NoteN p l e R s m args below meth c H locs cells slots Q (F0 m pc ls rest)) : W p l e R s m args below meth c H locs cells slots Q (F0 m pc ls (.int i :: .null :: rest)) := by
  intro T hT X
  obtain ⟨t, st, q⟩ := k T hT X
  exact ⟨t, X.caloadNull hexec (g := F0 m pc ls (.int i :: .null :: rest)) rfl (rest := rest) rfl (by rw [hb]; exact hdg) t st, q⟩
theorem vx_saloadN (hexec : p.tables.exec = Jvm.exec) (hb : c.code = cc) {i : Int32} (hdg : decode cc pc = .ok (.saload, 1)) (k : vx_NoteN p l e R s m args below meth c H locs cells slots Q (F0 m pc ls rest)) : W p l e R s m args below meth c H locs cells slots Q (F0 m pc ls (.int i :: .null :: rest)) := by
  intro T hT X
  obtain ⟨t, st, q⟩ := k T hT X
  exact ⟨t, X.saloadNull hexec (g := F0 m pc ls (.int i :: .null :: rest)) rfl (rest := rest) rfl (by rw [hb]; exact hdg) t st, q⟩
theorem vx_iastoreN (hexec : p.tables.exec = Jvm.exec) (hb : c.code = cc) {x : Int32} {i : Int32} (hdg : decode cc pc = .ok (.iastore, 1)) (k : vx_NoteN p l e R s m args below meth c H locs cells slots Q (F0 m pc ls rest)) : W p l e R s m args below meth c H locs cells slots Q (F0 m pc ls (.int x :: .int i :: .null :: rest)) := by
  intro T hT X
  obtain ⟨t, st, q⟩ := k T hT X
  exact ⟨t, X.iastoreNull hexec (g := F0 m pc ls (.int x :: .int i :: .null :: rest)) rfl (rest := rest) rfl (by rw [hb]; exact hdg) t st, q⟩
theorem vx_lastoreN (hexec : p.tables.exec = Jvm.exec) (hb : c.code = cc) {x : Int64} {i : Int32} (hdg : decode cc pc = .ok (.lastore, 1)) (k : vx_NoteN p l e R s m args below meth c H locs cells slots Q (F0 m pc ls rest)) : W p l e R s m args below meth c H locs cells slots Q (F0 m pc ls (.long x :: .int i :: .null :: rest)) := by
  intro T hT X
  obtain ⟨t, st, q⟩ := k T hT X
  exact ⟨t, X.lastoreNull hexec (g := F0 m pc ls (.long x :: .int i :: .null :: rest)) rfl (rest := rest) rfl (by rw [hb]; exact hdg) t st, q⟩
theorem vx_fastoreN (hexec : p.tables.exec = Jvm.exec) (hb : c.code = cc) {x : UInt32} {i : Int32} (hdg : decode cc pc = .ok (.fastore, 1)) (k : vx_NoteN p l e R s m args below meth c H locs cells slots Q (F0 m pc ls rest)) : W p l e R s m args below meth c H locs cells slots Q (F0 m pc ls (.float x :: .int i :: .null :: rest)) := by
  intro T hT X
  obtain ⟨t, st, q⟩ := k T hT X
  exact ⟨t, X.fastoreNull hexec (g := F0 m pc ls (.float x :: .int i :: .null :: rest)) rfl (rest := rest) rfl (by rw [hb]; exact hdg) t st, q⟩
theorem vx_dastoreN (hexec : p.tables.exec = Jvm.exec) (hb : c.code = cc) {x : UInt64} {i : Int32} (hdg : decode cc pc = .ok (.dastore, 1)) (k : vx_NoteN p l e R s m args below meth c H locs cells slots Q (F0 m pc ls rest)) : W p l e R s m args below meth c H locs cells slots Q (F0 m pc ls (.double x :: .int i :: .null :: rest)) := by
  intro T hT X
  obtain ⟨t, st, q⟩ := k T hT X
  exact ⟨t, X.dastoreNull hexec (g := F0 m pc ls (.double x :: .int i :: .null :: rest)) rfl (rest := rest) rfl (by rw [hb]; exact hdg) t st, q⟩
theorem vx_bastoreN (hexec : p.tables.exec = Jvm.exec) (hb : c.code = cc) {x : Int32} {i : Int32} (hdg : decode cc pc = .ok (.bastore, 1)) (k : vx_NoteN p l e R s m args below meth c H locs cells slots Q (F0 m pc ls rest)) : W p l e R s m args below meth c H locs cells slots Q (F0 m pc ls (.int x :: .int i :: .null :: rest)) := by
  intro T hT X
  obtain ⟨t, st, q⟩ := k T hT X
  exact ⟨t, X.bastoreNull hexec (g := F0 m pc ls (.int x :: .int i :: .null :: rest)) rfl (rest := rest) rfl (by rw [hb]; exact hdg) t st, q⟩
theorem vx_castoreN (hexec : p.tables.exec = Jvm.exec) (hb : c.code = cc) {x : Int32} {i : Int32} (hdg : decode cc pc = .ok (.castore, 1)) (k : vx_NoteN p l e R s m args below meth c H locs cells slots Q (F0 m pc ls rest)) : W p l e R s m args below meth c H locs cells slots Q (F0 m pc ls (.int x :: .int i :: .null :: rest)) := by
  intro T hT X
  obtain ⟨t, st, q⟩ := k T hT X
  exact ⟨t, X.castoreNull hexec (g := F0 m pc ls (.int x :: .int i :: .null :: rest)) rfl (rest := rest) rfl (by rw [hb]; exact hdg) t st, q⟩
theorem vx_sastoreN (hexec : p.tables.exec = Jvm.exec) (hb : c.code = cc) {x : Int32} {i : Int32} (hdg : decode cc pc = .ok (.sastore, 1)) (k : vx_NoteN p l e R s m args below meth c H locs cells slots Q (F0 m pc ls rest)) : W p l e R s m args below meth c H locs cells slots Q (F0 m pc ls (.int x :: .int i :: .null :: rest)) := by
  intro T hT X
  obtain ⟨t, st, q⟩ := k T hT X
  exact ⟨t, X.sastoreNull hexec (g := F0 m pc ls (.int x :: .int i :: .null :: rest)) rfl (rest := rest) rfl (by rw [hb]; exact hdg) t st, q⟩
theorem vx_invokeN {own C : String} {index maxL : Nat} {y : MethodName} {bytes : ByteArray} {ret : Option FieldType} (hexec : p.tables.exec = Jvm.exec) (hb : c.code = cc) (hown : s.vm.findClass own = some m.cls) (hlink : (Cond.methodLink own index y).before args s = true) (hinst : (Cond.instanceMethod y).before args s = true) (hcode : (Cond.code y bytes maxL ret).before args s = true) (hsel : (Cond.selects C y y).before args s = true)
    (hx : y.cls ≠ "java/lang/invoke/MethodHandle" ∧ y.cls ≠ "java/lang/invoke/VarHandle") {As : List Value} (hlen : (parseMethodDescriptor y.desc).map (fun d => d.parameters.length) = some As.length) (hdg : decode cc pc = .ok (.invokevirtual index, 3))
    (k : vx_NoteN p l e R s m args below meth c H locs cells slots Q (F0 m pc ls rest)) {st0 : List Value} (hst : st0 = As.reverse ++ .null :: rest) : W p l e R s m args below meth c H locs cells slots Q (F0 m pc ls st0) := by
  intro T hT X
  obtain ⟨r0, r, hn, hrm, hstR, hsigR⟩ := va_Decl.of hinst hcode
  obtain ⟨c2, r2, m2, q1, q2, q3, q4, kP, hkP, hkPi⟩ := Cond.selects_spec hsel
  cases hn.symm.trans q3
  have hl9 : As.length = r.sig.parameters.length := by
    rw [hsigR] at hlen
    exact (Option.some.inj hlen).symm
  obtain ⟨vm', X1, st1⟩ := X.invokevirtualNull hexec hown hlink hn hrm hstR hkP hkPi hx (g := F0 m pc ls st0) rfl (argsL := As) (rest := rest) hl9 hst (by rw [hb]; exact hdg)
  obtain ⟨t, st, q⟩ := k (T.setVm vm') hT X1
  exact ⟨t, st1 t st, q⟩
theorem vx_newarrayZ {atype : ArrayType} (hexec : p.tables.exec = Jvm.exec) (hb : c.code = cc) {n : Int32} (h0 : n < 0) (hdg : decode cc pc = .ok (.newarray atype, 2)) (k : ∀ tx : String, tx = toString n → vx_Note p l e R s m args below meth c H locs cells slots Q (F0 m pc ls rest) "java/lang/NegativeArraySizeException" tx) : W p l e R s m args below meth c H locs cells slots Q (F0 m pc ls (.int n :: rest)) := by
  intro T hT X
  obtain ⟨t, st, q⟩ := k _ rfl T hT X
  exact ⟨t, X.newarrayNegative hexec (g := F0 m pc ls (.int n :: rest)) rfl h0 (rest := rest) rfl (by rw [hb]; exact hdg) t st, q⟩
end
end VXM
/-! ===== END ===== -/
end
section
def RX0 : String := "SlopeOperator$Area"
def TX0 : u_T := fun k => match k with
  | 0 => ("SlopeOperator$Area", "lifts", "[LSlopeOperator$Lift;", true)
  | 1 => ("SlopeOperator$Area", "pistes", "[LSlopeOperator$Piste;", true)
  | 2 => ("SlopeOperator$Area", "guests", "[LSlopeOperator$Guest;", true)
  | 3 => ("SlopeOperator$Area", "liftCount", "I", false)
  | 4 => ("SlopeOperator$Area", "pisteCount", "I", false)
  | 5 => ("SlopeOperator$Area", "guestCount", "I", false)
  | 6 => ("SlopeOperator$Area", "wind", "I", false)
  | 7 => ("SlopeOperator$Area", "tick", "I", false)
  | _ => ("SlopeOperator$Area", "day", "I", false)
def tyX0 : Nat → FieldType := fun k => match k with
  | 0 => .array (.object "SlopeOperator$Lift")
  | 1 => .array (.object "SlopeOperator$Piste")
  | 2 => .array (.object "SlopeOperator$Guest")
  | 3 => .int
  | 4 => .int
  | 5 => .int
  | 6 => .int
  | 7 => .int
  | _ => .int
theorem nmX0 : ∀ a, a < 9 → ∀ b, b < 9 → a ≠ b → (TX0 a).2.1 ≠ (TX0 b).2.1 := by decide +kernel
theorem tyX0_ok : ∀ k, k < 9 → parseFieldDescriptor (TX0 k).2.2.1 = some (tyX0 k) := by decide +kernel
abbrev cX0_init : ByteArray := prog_2_method_1_code
def yX0_init : MethodName := ⟨RX0, "<init>", "()V"⟩
abbrev cX0_becomeEmpty : ByteArray := prog_2_method_2_code
def yX0_becomeEmpty : MethodName := ⟨RX0, "becomeEmpty", "()V"⟩
abbrev cX0_copyFrom : ByteArray := prog_2_method_3_code
def yX0_copyFrom : MethodName := ⟨RX0, "copyFrom", "(LSlopeOperator$Area;)V"⟩
abbrev cX0_liftAt : ByteArray := prog_2_method_4_code
def yX0_liftAt : MethodName := ⟨RX0, "liftAt", "(I)LSlopeOperator$Lift;"⟩
abbrev cX0_pisteAt : ByteArray := prog_2_method_5_code
def yX0_pisteAt : MethodName := ⟨RX0, "pisteAt", "(I)LSlopeOperator$Piste;"⟩
abbrev cX0_guestAt : ByteArray := prog_2_method_6_code
def yX0_guestAt : MethodName := ⟨RX0, "guestAt", "(I)LSlopeOperator$Guest;"⟩
abbrev cX0_speedOf : ByteArray := prog_2_method_7_code
def yX0_speedOf : MethodName := ⟨RX0, "speedOf", "(LSlopeOperator$Lift;)I"⟩
abbrev cX0_isHeld : ByteArray := prog_2_method_8_code
def yX0_isHeld : MethodName := ⟨RX0, "isHeld", "(LSlopeOperator$Lift;)Z"⟩
abbrev cX0_isOpenedFor : ByteArray := prog_2_method_9_code
def yX0_isOpenedFor : MethodName := ⟨RX0, "isOpenedFor", "(LSlopeOperator$Guest;LSlopeOperator$Lift;)Z"⟩
abbrev cX0_isWayFor : ByteArray := prog_2_method_10_code
def yX0_isWayFor : MethodName := ⟨RX0, "isWayFor", "(LSlopeOperator$Guest;LSlopeOperator$Lift;)Z"⟩
abbrev cX0_isWayFor_ : ByteArray := prog_2_method_11_code
def yX0_isWayFor_ : MethodName := ⟨RX0, "isWayFor", "(LSlopeOperator$Guest;LSlopeOperator$Piste;)Z"⟩
abbrev cX0_heldLifts : ByteArray := prog_2_method_12_code
def yX0_heldLifts : MethodName := ⟨RX0, "heldLifts", "()I"⟩
abbrev cX0_liftsOpenedFor : ByteArray := prog_2_method_13_code
def yX0_liftsOpenedFor : MethodName := ⟨RX0, "liftsOpenedFor", "(LSlopeOperator$Guest;)I"⟩
abbrev cX0_openPistes : ByteArray := prog_2_method_14_code
def yX0_openPistes : MethodName := ⟨RX0, "openPistes", "()I"⟩
abbrev cX0_guestsIn : ByteArray := prog_2_method_15_code
def yX0_guestsIn : MethodName := ⟨RX0, "guestsIn", "(I)I"⟩
abbrev cX0_guestsWith : ByteArray := prog_2_method_16_code
def yX0_guestsWith : MethodName := ⟨RX0, "guestsWith", "(II)I"⟩
abbrev cX0_guestInQueue : ByteArray := prog_2_method_17_code
def yX0_guestInQueue : MethodName := ⟨RX0, "guestInQueue", "(II)I"⟩
abbrev cX0_welcome : ByteArray := prog_2_method_18_code
def yX0_welcome : MethodName := ⟨RX0, "welcome", "(IIIII)I"⟩
abbrev cX0_queueRefusal : ByteArray := prog_2_method_19_code
def yX0_queueRefusal : MethodName := ⟨RX0, "queueRefusal", "(LSlopeOperator$Guest;LSlopeOperator$Lift;I)I"⟩
abbrev cX0_skiRefusal : ByteArray := prog_2_method_20_code
def yX0_skiRefusal : MethodName := ⟨RX0, "skiRefusal", "(LSlopeOperator$Guest;LSlopeOperator$Piste;)I"⟩
abbrev cX0_joinQueue : ByteArray := prog_2_method_21_code
def yX0_joinQueue : MethodName := ⟨RX0, "joinQueue", "(LSlopeOperator$Guest;I)I"⟩
abbrev cX0_leaveQueue : ByteArray := prog_2_method_22_code
def yX0_leaveQueue : MethodName := ⟨RX0, "leaveQueue", "(LSlopeOperator$Guest;)V"⟩
abbrev cX0_startPiste : ByteArray := prog_2_method_23_code
def yX0_startPiste : MethodName := ⟨RX0, "startPiste", "(LSlopeOperator$Guest;LSlopeOperator$Piste;I)I"⟩
abbrev cX0_passTicks : ByteArray := prog_2_method_24_code
def yX0_passTicks : MethodName := ⟨RX0, "passTicks", "(I)I"⟩
abbrev cX0_moveRiders : ByteArray := prog_2_method_25_code
def yX0_moveRiders : MethodName := ⟨RX0, "moveRiders", "()I"⟩
abbrev cX0_moveSkiers : ByteArray := prog_2_method_26_code
def yX0_moveSkiers : MethodName := ⟨RX0, "moveSkiers", "()I"⟩
abbrev cX0_turnLifts : ByteArray := prog_2_method_27_code
def yX0_turnLifts : MethodName := ⟨RX0, "turnLifts", "()V"⟩
abbrev cX0_boardCabin : ByteArray := prog_2_method_28_code
def yX0_boardCabin : MethodName := ⟨RX0, "boardCabin", "(LSlopeOperator$Lift;I)V"⟩
abbrev cX0_groomPistes : ByteArray := prog_2_method_29_code
def yX0_groomPistes : MethodName := ⟨RX0, "groomPistes", "()V"⟩
abbrev cX0_closeWornPistes : ByteArray := prog_2_method_30_code
def yX0_closeWornPistes : MethodName := ⟨RX0, "closeWornPistes", "()V"⟩
abbrev cX0_closeDay : ByteArray := prog_2_method_31_code
def yX0_closeDay : MethodName := ⟨RX0, "closeDay", "()I"⟩
abbrev cX0_ticksToStation : ByteArray := prog_2_method_32_code
def yX0_ticksToStation : MethodName := ⟨RX0, "ticksToStation", "(LSlopeOperator$Guest;)I"⟩
abbrev cX0_ticksOnLift : ByteArray := prog_2_method_33_code
def yX0_ticksOnLift : MethodName := ⟨RX0, "ticksOnLift", "(LSlopeOperator$Lift;I)I"⟩
abbrev cX0_ticksFromQueue : ByteArray := prog_2_method_34_code
def yX0_ticksFromQueue : MethodName := ⟨RX0, "ticksFromQueue", "(LSlopeOperator$Lift;I)I"⟩
abbrev cX0_accountsGap : ByteArray := prog_2_method_35_code
def yX0_accountsGap : MethodName := ⟨RX0, "accountsGap", "()I"⟩
abbrev cX0_liftWithMostRiders : ByteArray := prog_2_method_36_code
def yX0_liftWithMostRiders : MethodName := ⟨RX0, "liftWithMostRiders", "()I"⟩
def RX1 : String := "SlopeOperator$Guest"
def TX1 : u_T := fun k => match k with
  | 0 => ("SlopeOperator$Guest", "skill", "I", false)
  | 1 => ("SlopeOperator$Guest", "zones", "I", false)
  | 2 => ("SlopeOperator$Guest", "first", "I", false)
  | 3 => ("SlopeOperator$Guest", "last", "I", false)
  | 4 => ("SlopeOperator$Guest", "state", "I", false)
  | 5 => ("SlopeOperator$Guest", "where", "I", false)
  | 6 => ("SlopeOperator$Guest", "rest", "I", false)
  | 7 => ("SlopeOperator$Guest", "place", "I", false)
  | 8 => ("SlopeOperator$Guest", "rides", "I", false)
  | 9 => ("SlopeOperator$Guest", "runs", "I", false)
  | _ => ("SlopeOperator$Guest", "refusals", "I", false)
def tyX1 : Nat → FieldType := fun k => match k with
  | 0 => .int
  | 1 => .int
  | 2 => .int
  | 3 => .int
  | 4 => .int
  | 5 => .int
  | 6 => .int
  | 7 => .int
  | 8 => .int
  | 9 => .int
  | _ => .int
theorem nmX1 : ∀ a, a < 11 → ∀ b, b < 11 → a ≠ b → (TX1 a).2.1 ≠ (TX1 b).2.1 := by decide +kernel
theorem tyX1_ok : ∀ k, k < 11 → parseFieldDescriptor (TX1 k).2.2.1 = some (tyX1 k) := by decide +kernel
abbrev cX1_init : ByteArray := prog_3_method_1_code
def yX1_init : MethodName := ⟨RX1, "<init>", "()V"⟩
abbrev cX1_begin : ByteArray := prog_3_method_2_code
def yX1_begin : MethodName := ⟨RX1, "begin", "(IIIII)V"⟩
abbrev cX1_copyFrom : ByteArray := prog_3_method_3_code
def yX1_copyFrom : MethodName := ⟨RX1, "copyFrom", "(LSlopeOperator$Guest;)V"⟩
abbrev cX1_standAt : ByteArray := prog_3_method_4_code
def yX1_standAt : MethodName := ⟨RX1, "standAt", "(I)V"⟩
abbrev cX1_goAway : ByteArray := prog_3_method_5_code
def yX1_goAway : MethodName := ⟨RX1, "goAway", "()V"⟩
abbrev cX1_become : ByteArray := prog_3_method_6_code
def yX1_become : MethodName := ⟨RX1, "become", "(IIII)V"⟩
abbrev cX1_is : ByteArray := prog_3_method_7_code
def yX1_is : MethodName := ⟨RX1, "is", "(II)Z"⟩
def RX2 : String := "SlopeOperator$History"
def TX2 : u_T := fun k => match k with
  | 0 => ("SlopeOperator$History", "rows", "[LSlopeOperator$Area;", true)
  | 1 => ("SlopeOperator$History", "next", "I", false)
  | _ => ("SlopeOperator$History", "size", "I", false)
def tyX2 : Nat → FieldType := fun k => match k with
  | 0 => .array (.object "SlopeOperator$Area")
  | 1 => .int
  | _ => .int
theorem nmX2 : ∀ a, a < 3 → ∀ b, b < 3 → a ≠ b → (TX2 a).2.1 ≠ (TX2 b).2.1 := by decide +kernel
theorem tyX2_ok : ∀ k, k < 3 → parseFieldDescriptor (TX2 k).2.2.1 = some (tyX2 k) := by decide +kernel
abbrev cX2_init : ByteArray := prog_4_method_1_code
def yX2_init : MethodName := ⟨RX2, "<init>", "()V"⟩
abbrev cX2_forgetAll : ByteArray := prog_4_method_2_code
def yX2_forgetAll : MethodName := ⟨RX2, "forgetAll", "()V"⟩
abbrev cX2_remember : ByteArray := prog_4_method_3_code
def yX2_remember : MethodName := ⟨RX2, "remember", "(LSlopeOperator$Area;)V"⟩
abbrev cX2_takeBack : ByteArray := prog_4_method_4_code
def yX2_takeBack : MethodName := ⟨RX2, "takeBack", "(LSlopeOperator$Area;)V"⟩
def RX3 : String := "SlopeOperator$Input"
def TX3 : u_T := fun k => match k with
  | 0 => ("SlopeOperator$Input", "text", "[C", true)
  | 1 => ("SlopeOperator$Input", "length", "I", false)
  | 2 => ("SlopeOperator$Input", "cursor", "I", false)
  | 3 => ("SlopeOperator$Input", "entries", "I", false)
  | 4 => ("SlopeOperator$Input", "kind", "I", false)
  | 5 => ("SlopeOperator$Input", "number", "I", false)
  | _ => ("SlopeOperator$Input", "target", "I", false)
def tyX3 : Nat → FieldType := fun k => match k with
  | 0 => .array .char
  | 1 => .int
  | 2 => .int
  | 3 => .int
  | 4 => .int
  | 5 => .int
  | _ => .int
theorem nmX3 : ∀ a, a < 7 → ∀ b, b < 7 → a ≠ b → (TX3 a).2.1 ≠ (TX3 b).2.1 := by decide +kernel
theorem tyX3_ok : ∀ k, k < 7 → parseFieldDescriptor (TX3 k).2.2.1 = some (tyX3 k) := by decide +kernel
abbrev cX3_init : ByteArray := prog_5_method_1_code
def yX3_init : MethodName := ⟨RX3, "<init>", "()V"⟩
abbrev cX3_becomeEmpty : ByteArray := prog_5_method_2_code
def yX3_becomeEmpty : MethodName := ⟨RX3, "becomeEmpty", "()V"⟩
abbrev cX3_put : ByteArray := prog_5_method_3_code
def yX3_put : MethodName := ⟨RX3, "put", "(C)I"⟩
abbrev cX3_isText : ByteArray := prog_5_method_4_code
def yX3_isText : MethodName := ⟨RX3, "isText", "()Z"⟩
abbrev cX3_takeEntry : ByteArray := prog_5_method_5_code
def yX3_takeEntry : MethodName := ⟨RX3, "takeEntry", "()Z"⟩
abbrev cX3_isHere : ByteArray := prog_5_method_6_code
def yX3_isHere : MethodName := ⟨RX3, "isHere", "(CC)Z"⟩
abbrev cX3_takeSign : ByteArray := prog_5_method_7_code
def yX3_takeSign : MethodName := ⟨RX3, "takeSign", "(C)Z"⟩
abbrev cX3_takeDigit : ByteArray := prog_5_method_8_code
def yX3_takeDigit : MethodName := ⟨RX3, "takeDigit", "(CC)I"⟩
abbrev cX3_takeNumber : ByteArray := prog_5_method_9_code
def yX3_takeNumber : MethodName := ⟨RX3, "takeNumber", "(CC)Z"⟩
abbrev cX3_takeTarget : ByteArray := prog_5_method_10_code
def yX3_takeTarget : MethodName := ⟨RX3, "takeTarget", "(CC)Z"⟩
abbrev cX3_takeGuest : ByteArray := prog_5_method_11_code
def yX3_takeGuest : MethodName := ⟨RX3, "takeGuest", "()Z"⟩
def RX4 : String := "SlopeOperator$Lift"
def TX4 : u_T := fun k => match k with
  | 0 => ("SlopeOperator$Lift", "lower", "I", false)
  | 1 => ("SlopeOperator$Lift", "upper", "I", false)
  | 2 => ("SlopeOperator$Lift", "zone", "I", false)
  | 3 => ("SlopeOperator$Lift", "interval", "I", false)
  | 4 => ("SlopeOperator$Lift", "capacity", "I", false)
  | 5 => ("SlopeOperator$Lift", "ride", "I", false)
  | 6 => ("SlopeOperator$Lift", "exposure", "I", false)
  | 7 => ("SlopeOperator$Lift", "clock", "I", false)
  | 8 => ("SlopeOperator$Lift", "riders", "I", false)
  | _ => ("SlopeOperator$Lift", "cabins", "I", false)
def tyX4 : Nat → FieldType := fun k => match k with
  | 0 => .int
  | 1 => .int
  | 2 => .int
  | 3 => .int
  | 4 => .int
  | 5 => .int
  | 6 => .int
  | 7 => .int
  | 8 => .int
  | _ => .int
theorem nmX4 : ∀ a, a < 10 → ∀ b, b < 10 → a ≠ b → (TX4 a).2.1 ≠ (TX4 b).2.1 := by decide +kernel
theorem tyX4_ok : ∀ k, k < 10 → parseFieldDescriptor (TX4 k).2.2.1 = some (tyX4 k) := by decide +kernel
abbrev cX4_init : ByteArray := prog_6_method_1_code
def yX4_init : MethodName := ⟨RX4, "<init>", "()V"⟩
abbrev cX4_begin : ByteArray := prog_6_method_2_code
def yX4_begin : MethodName := ⟨RX4, "begin", "(IIIIII)V"⟩
abbrev cX4_copyFrom : ByteArray := prog_6_method_3_code
def yX4_copyFrom : MethodName := ⟨RX4, "copyFrom", "(LSlopeOperator$Lift;)V"⟩
abbrev cX4_stepsToCabin : ByteArray := prog_6_method_4_code
def yX4_stepsToCabin : MethodName := ⟨RX4, "stepsToCabin", "(I)I"⟩
abbrev cX4_restOfRide : ByteArray := prog_6_method_5_code
def yX4_restOfRide : MethodName := ⟨RX4, "restOfRide", "()I"⟩
def RX5 : String := "SlopeOperator$Piste"
def TX5 : u_T := fun k => match k with
  | 0 => ("SlopeOperator$Piste", "from", "I", false)
  | 1 => ("SlopeOperator$Piste", "to", "I", false)
  | 2 => ("SlopeOperator$Piste", "difficulty", "I", false)
  | 3 => ("SlopeOperator$Piste", "length", "I", false)
  | 4 => ("SlopeOperator$Piste", "state", "I", false)
  | 5 => ("SlopeOperator$Piste", "wear", "I", false)
  | 6 => ("SlopeOperator$Piste", "rest", "I", false)
  | _ => ("SlopeOperator$Piste", "begun", "I", false)
def tyX5 : Nat → FieldType := fun k => match k with
  | 0 => .int
  | 1 => .int
  | 2 => .int
  | 3 => .int
  | 4 => .int
  | 5 => .int
  | 6 => .int
  | _ => .int
theorem nmX5 : ∀ a, a < 8 → ∀ b, b < 8 → a ≠ b → (TX5 a).2.1 ≠ (TX5 b).2.1 := by decide +kernel
theorem tyX5_ok : ∀ k, k < 8 → parseFieldDescriptor (TX5 k).2.2.1 = some (tyX5 k) := by decide +kernel
abbrev cX5_init : ByteArray := prog_7_method_1_code
def yX5_init : MethodName := ⟨RX5, "<init>", "()V"⟩
abbrev cX5_begin : ByteArray := prog_7_method_2_code
def yX5_begin : MethodName := ⟨RX5, "begin", "(IIII)V"⟩
abbrev cX5_copyFrom : ByteArray := prog_7_method_3_code
def yX5_copyFrom : MethodName := ⟨RX5, "copyFrom", "(LSlopeOperator$Piste;)V"⟩
abbrev cX5_becomeFresh : ByteArray := prog_7_method_4_code
def yX5_becomeFresh : MethodName := ⟨RX5, "becomeFresh", "()V"⟩
abbrev cX5_isTooDifficultFor : ByteArray := prog_7_method_5_code
def yX5_isTooDifficultFor : MethodName := ⟨RX5, "isTooDifficultFor", "(LSlopeOperator$Guest;)Z"⟩
abbrev cX5_restFor : ByteArray := prog_7_method_6_code
def yX5_restFor : MethodName := ⟨RX5, "restFor", "(LSlopeOperator$Guest;)I"⟩
def RX6 : String := "SlopeOperator$Ways"
def TX6 : u_T := fun k => match k with
  | _ => ("SlopeOperator$Ways", "durations", "[I", true)
def tyX6 : Nat → FieldType := fun k => match k with
  | _ => .array .int
theorem nmX6 : ∀ a, a < 1 → ∀ b, b < 1 → a ≠ b → (TX6 a).2.1 ≠ (TX6 b).2.1 := by decide +kernel
theorem tyX6_ok : ∀ k, k < 1 → parseFieldDescriptor (TX6 k).2.2.1 = some (tyX6 k) := by decide +kernel
abbrev cX6_init : ByteArray := prog_8_method_1_code
def yX6_init : MethodName := ⟨RX6, "<init>", "()V"⟩
abbrev cX6_durationFrom : ByteArray := prog_8_method_2_code
def yX6_durationFrom : MethodName := ⟨RX6, "durationFrom", "(I)I"⟩
abbrev cX6_measure : ByteArray := prog_8_method_3_code
def yX6_measure : MethodName := ⟨RX6, "measure", "(LSlopeOperator$Area;LSlopeOperator$Guest;I)V"⟩
abbrev cX6_shorten : ByteArray := prog_8_method_4_code
def yX6_shorten : MethodName := ⟨RX6, "shorten", "(LSlopeOperator$Area;LSlopeOperator$Guest;)Z"⟩
abbrev cX6_shortenFrom : ByteArray := prog_8_method_5_code
def yX6_shortenFrom : MethodName := ⟨RX6, "shortenFrom", "(II)Z"⟩
abbrev cX6_bestPartFrom : ByteArray := prog_8_method_6_code
def yX6_bestPartFrom : MethodName := ⟨RX6, "bestPartFrom", "(LSlopeOperator$Area;LSlopeOperator$Guest;I)I"⟩
abbrev cX6_stationsWithoutWay : ByteArray := prog_8_method_7_code
def yX6_stationsWithoutWay : MethodName := ⟨RX6, "stationsWithoutWay", "()I"⟩
abbrev cX6_stationsFrom : ByteArray := prog_8_method_8_code
def yX6_stationsFrom : MethodName := ⟨RX6, "stationsFrom", "(LSlopeOperator$Area;LSlopeOperator$Guest;I)I"⟩
abbrev cX6_spread : ByteArray := prog_8_method_9_code
def yX6_spread : MethodName := ⟨RX6, "spread", "(LSlopeOperator$Area;LSlopeOperator$Guest;I)I"⟩
def RX7 : String := "SlopeOperator"
def TX7 : u_T := fun k => match k with
  | 0 => ("SlopeOperator", "now", "LSlopeOperator$Area;", true)
  | 1 => ("SlopeOperator", "before", "LSlopeOperator$Area;", true)
  | 2 => ("SlopeOperator", "saved", "LSlopeOperator$Area;", true)
  | 3 => ("SlopeOperator", "history", "LSlopeOperator$History;", true)
  | 4 => ("SlopeOperator", "input", "LSlopeOperator$Input;", true)
  | 5 => ("SlopeOperator", "ways", "LSlopeOperator$Ways;", true)
  | 6 => ("SlopeOperator", "isSaved", "Z", false)
  | 7 => ("SlopeOperator", "keptReason", "I", false)
  | _ => ("SlopeOperator", "keptError", "I", false)
def tyX7 : Nat → FieldType := fun k => match k with
  | 0 => .object "SlopeOperator$Area"
  | 1 => .object "SlopeOperator$Area"
  | 2 => .object "SlopeOperator$Area"
  | 3 => .object "SlopeOperator$History"
  | 4 => .object "SlopeOperator$Input"
  | 5 => .object "SlopeOperator$Ways"
  | 6 => .boolean
  | 7 => .int
  | _ => .int
theorem nmX7 : ∀ a, a < 9 → ∀ b, b < 9 → a ≠ b → (TX7 a).2.1 ≠ (TX7 b).2.1 := by decide +kernel
theorem tyX7_ok : ∀ k, k < 9 → parseFieldDescriptor (TX7 k).2.2.1 = some (tyX7 k) := by decide +kernel
abbrev cX7_init : ByteArray := prog_1_method_1_code
def yX7_init : MethodName := ⟨RX7, "<init>", "()V"⟩
abbrev cX7_clear : ByteArray := prog_1_method_2_code
def yX7_clear : MethodName := ⟨RX7, "clear", "()I"⟩
abbrev cX7_addLift : ByteArray := prog_1_method_3_code
def yX7_addLift : MethodName := ⟨RX7, "addLift", "(IIIIII)I"⟩
abbrev cX7_addPiste : ByteArray := prog_1_method_4_code
def yX7_addPiste : MethodName := ⟨RX7, "addPiste", "(IIII)I"⟩
abbrev cX7_setWind : ByteArray := prog_1_method_5_code
def yX7_setWind : MethodName := ⟨RX7, "setWind", "(I)I"⟩
abbrev cX7_lift : ByteArray := prog_1_method_6_code
def yX7_lift : MethodName := ⟨RX7, "lift", "(II)I"⟩
abbrev cX7_piste : ByteArray := prog_1_method_7_code
def yX7_piste : MethodName := ⟨RX7, "piste", "(II)I"⟩
abbrev cX7_open : ByteArray := prog_1_method_8_code
def yX7_open : MethodName := ⟨RX7, "open", "(IZ)I"⟩
abbrev cX7_groom : ByteArray := prog_1_method_9_code
def yX7_groom : MethodName := ⟨RX7, "groom", "(I)I"⟩
abbrev cX7_count : ByteArray := prog_1_method_10_code
def yX7_count : MethodName := ⟨RX7, "count", "(I)I"⟩
abbrev cX7_addGuest : ByteArray := prog_1_method_11_code
def yX7_addGuest : MethodName := ⟨RX7, "addGuest", "(IIIII)I"⟩
abbrev cX7_guest : ByteArray := prog_1_method_12_code
def yX7_guest : MethodName := ⟨RX7, "guest", "(II)I"⟩
abbrev cX7_queue : ByteArray := prog_1_method_13_code
def yX7_queue : MethodName := ⟨RX7, "queue", "(II)I"⟩
abbrev cX7_ski : ByteArray := prog_1_method_14_code
def yX7_ski : MethodName := ⟨RX7, "ski", "(II)I"⟩
abbrev cX7_leave : ByteArray := prog_1_method_15_code
def yX7_leave : MethodName := ⟨RX7, "leave", "(I)I"⟩
abbrev cX7_whyNotQueue : ByteArray := prog_1_method_16_code
def yX7_whyNotQueue : MethodName := ⟨RX7, "whyNotQueue", "(II)I"⟩
abbrev cX7_whyNotSki : ByteArray := prog_1_method_17_code
def yX7_whyNotSki : MethodName := ⟨RX7, "whyNotSki", "(II)I"⟩
abbrev cX7_reason : ByteArray := prog_1_method_18_code
def yX7_reason : MethodName := ⟨RX7, "reason", "()I"⟩
abbrev cX7_opened : ByteArray := prog_1_method_19_code
def yX7_opened : MethodName := ⟨RX7, "opened", "(I)I"⟩
abbrev cX7_queued : ByteArray := prog_1_method_20_code
def yX7_queued : MethodName := ⟨RX7, "queued", "(II)I"⟩
abbrev cX7_advance : ByteArray := prog_1_method_21_code
def yX7_advance : MethodName := ⟨RX7, "advance", "(I)I"⟩
abbrev cX7_endDay : ByteArray := prog_1_method_22_code
def yX7_endDay : MethodName := ⟨RX7, "endDay", "()I"⟩
abbrev cX7_arrival : ByteArray := prog_1_method_23_code
def yX7_arrival : MethodName := ⟨RX7, "arrival", "(I)I"⟩
abbrev cX7_nextCabin : ByteArray := prog_1_method_24_code
def yX7_nextCabin : MethodName := ⟨RX7, "nextCabin", "(I)I"⟩
abbrev cX7_duration : ByteArray := prog_1_method_25_code
def yX7_duration : MethodName := ⟨RX7, "duration", "(III)I"⟩
abbrev cX7_firstPart : ByteArray := prog_1_method_26_code
def yX7_firstPart : MethodName := ⟨RX7, "firstPart", "(III)I"⟩
abbrev cX7_reachable : ByteArray := prog_1_method_27_code
def yX7_reachable : MethodName := ⟨RX7, "reachable", "(II)I"⟩
abbrev cX7_stranded : ByteArray := prog_1_method_28_code
def yX7_stranded : MethodName := ⟨RX7, "stranded", "(II)I"⟩
abbrev cX7_liftAccount : ByteArray := prog_1_method_29_code
def yX7_liftAccount : MethodName := ⟨RX7, "liftAccount", "(II)I"⟩
abbrev cX7_guestAccount : ByteArray := prog_1_method_30_code
def yX7_guestAccount : MethodName := ⟨RX7, "guestAccount", "(II)I"⟩
abbrev cX7_pisteAccount : ByteArray := prog_1_method_31_code
def yX7_pisteAccount : MethodName := ⟨RX7, "pisteAccount", "(I)I"⟩
abbrev cX7_audit : ByteArray := prog_1_method_32_code
def yX7_audit : MethodName := ⟨RX7, "audit", "()I"⟩
abbrev cX7_busiest : ByteArray := prog_1_method_33_code
def yX7_busiest : MethodName := ⟨RX7, "busiest", "()I"⟩
abbrev cX7_load : ByteArray := prog_1_method_34_code
def yX7_load : MethodName := ⟨RX7, "load", "(I)D"⟩
abbrev cX7_append : ByteArray := prog_1_method_35_code
def yX7_append : MethodName := ⟨RX7, "append", "(C)I"⟩
abbrev cX7_read : ByteArray := prog_1_method_36_code
def yX7_read : MethodName := ⟨RX7, "read", "()I"⟩
abbrev cX7_errorPosition : ByteArray := prog_1_method_37_code
def yX7_errorPosition : MethodName := ⟨RX7, "errorPosition", "()I"⟩
abbrev cX7_undo : ByteArray := prog_1_method_38_code
def yX7_undo : MethodName := ⟨RX7, "undo", "()I"⟩
abbrev cX7_save : ByteArray := prog_1_method_39_code
def yX7_save : MethodName := ⟨RX7, "save", "()I"⟩
abbrev cX7_restore : ByteArray := prog_1_method_40_code
def yX7_restore : MethodName := ⟨RX7, "restore", "()I"⟩
abbrev cX7_isBetween : ByteArray := prog_1_method_41_code
def yX7_isBetween : MethodName := ⟨RX7, "isBetween", "(III)Z"⟩
abbrev cX7_isStation : ByteArray := prog_1_method_42_code
def yX7_isStation : MethodName := ⟨RX7, "isStation", "(I)Z"⟩
abbrev cX7_ticksFor : ByteArray := prog_1_method_43_code
def yX7_ticksFor : MethodName := ⟨RX7, "ticksFor", "(II)I"⟩
abbrev cX7_keepRefusal : ByteArray := prog_1_method_44_code
def yX7_keepRefusal : MethodName := ⟨RX7, "keepRefusal", "(LSlopeOperator$Guest;I)V"⟩
abbrev cX7_doEntries : ByteArray := prog_1_method_45_code
def yX7_doEntries : MethodName := ⟨RX7, "doEntries", "(I)I"⟩
abbrev cX7_doEntry : ByteArray := prog_1_method_46_code
def yX7_doEntry : MethodName := ⟨RX7, "doEntry", "(III)I"⟩
abbrev cX7_addGuestByText : ByteArray := prog_1_method_47_code
def yX7_addGuestByText : MethodName := ⟨RX7, "addGuestByText", "(II)I"⟩
abbrev cX7_queueByText : ByteArray := prog_1_method_48_code
def yX7_queueByText : MethodName := ⟨RX7, "queueByText", "(II)I"⟩
abbrev cX7_skiByText : ByteArray := prog_1_method_49_code
def yX7_skiByText : MethodName := ⟨RX7, "skiByText", "(II)I"⟩
def RX8 : String := "SlopeOperatorModel"
def TX8 : u_T := fun k => match k with
  | 0 => ("SlopeOperatorModel", "m", "[I", true)
  | 1 => ("SlopeOperatorModel", "saved", "[I", true)
  | 2 => ("SlopeOperatorModel", "isSaved", "Z", false)
  | 3 => ("SlopeOperatorModel", "past", "[I", true)
  | 4 => ("SlopeOperatorModel", "changes", "I", false)
  | 5 => ("SlopeOperatorModel", "reason", "I", false)
  | 6 => ("SlopeOperatorModel", "thrown", "I", false)
  | 7 => ("SlopeOperatorModel", "come", "I", false)
  | 8 => ("SlopeOperatorModel", "aside", "[I", true)
  | 9 => ("SlopeOperatorModel", "due", "[I", true)
  | 10 => ("SlopeOperatorModel", "fed", "I", false)
  | 11 => ("SlopeOperatorModel", "input", "[I", true)
  | 12 => ("SlopeOperatorModel", "at0", "I", false)
  | 13 => ("SlopeOperatorModel", "isBad", "Z", false)
  | 14 => ("SlopeOperatorModel", "isError", "Z", false)
  | 15 => ("SlopeOperatorModel", "error", "I", false)
  | 16 => ("SlopeOperatorModel", "entries", "I", false)
  | 17 => ("SlopeOperatorModel", "entrySort", "[I", true)
  | 18 => ("SlopeOperatorModel", "entryA", "[I", true)
  | _ => ("SlopeOperatorModel", "entryB", "[I", true)
def tyX8 : Nat → FieldType := fun k => match k with
  | 0 => .array .int
  | 1 => .array .int
  | 2 => .boolean
  | 3 => .array .int
  | 4 => .int
  | 5 => .int
  | 6 => .int
  | 7 => .int
  | 8 => .array .int
  | 9 => .array .int
  | 10 => .int
  | 11 => .array .int
  | 12 => .int
  | 13 => .boolean
  | 14 => .boolean
  | 15 => .int
  | 16 => .int
  | 17 => .array .int
  | 18 => .array .int
  | _ => .array .int
theorem nmX8 : ∀ a, a < 20 → ∀ b, b < 20 → a ≠ b → (TX8 a).2.1 ≠ (TX8 b).2.1 := by decide +kernel
theorem tyX8_ok : ∀ k, k < 20 → parseFieldDescriptor (TX8 k).2.2.1 = some (tyX8 k) := by decide +kernel
abbrev cX8_init : ByteArray := prog_10_method_1_code
def yX8_init : MethodName := ⟨RX8, "<init>", "()V"⟩
abbrev cX8_thrown : ByteArray := prog_10_method_2_code
def yX8_thrown : MethodName := ⟨RX8, "thrown", "()I"⟩
abbrev cX8_in : ByteArray := prog_10_method_3_code
def yX8_in : MethodName := ⟨RX8, "in", "(III)Z"⟩
abbrev cX8_refuse : ByteArray := prog_10_method_4_code
def yX8_refuse : MethodName := ⟨RX8, "refuse", "(I)I"⟩
abbrev cX8_keep : ByteArray := prog_10_method_5_code
def yX8_keep : MethodName := ⟨RX8, "keep", "()V"⟩
abbrev cX8_lift0 : ByteArray := prog_10_method_6_code
def yX8_lift0 : MethodName := ⟨RX8, "lift0", "(I)I"⟩
abbrev cX8_piste0 : ByteArray := prog_10_method_7_code
def yX8_piste0 : MethodName := ⟨RX8, "piste0", "(I)I"⟩
abbrev cX8_guest0 : ByteArray := prog_10_method_8_code
def yX8_guest0 : MethodName := ⟨RX8, "guest0", "(I)I"⟩
abbrev cX8_isLift : ByteArray := prog_10_method_9_code
def yX8_isLift : MethodName := ⟨RX8, "isLift", "(I)Z"⟩
abbrev cX8_isPiste : ByteArray := prog_10_method_10_code
def yX8_isPiste : MethodName := ⟨RX8, "isPiste", "(I)Z"⟩
abbrev cX8_isGuest : ByteArray := prog_10_method_11_code
def yX8_isGuest : MethodName := ⟨RX8, "isGuest", "(I)Z"⟩
abbrev cX8_isStation : ByteArray := prog_10_method_12_code
def yX8_isStation : MethodName := ⟨RX8, "isStation", "(I)Z"⟩
abbrev cX8_stateOf : ByteArray := prog_10_method_13_code
def yX8_stateOf : MethodName := ⟨RX8, "stateOf", "(I)I"⟩
abbrev cX8_stepOf : ByteArray := prog_10_method_14_code
def yX8_stepOf : MethodName := ⟨RX8, "stepOf", "(I)I"⟩
abbrev cX8_clear : ByteArray := prog_10_method_15_code
def yX8_clear : MethodName := ⟨RX8, "clear", "()I"⟩
abbrev cX8_addLift : ByteArray := prog_10_method_16_code
def yX8_addLift : MethodName := ⟨RX8, "addLift", "(IIIIII)I"⟩
abbrev cX8_addPiste : ByteArray := prog_10_method_17_code
def yX8_addPiste : MethodName := ⟨RX8, "addPiste", "(IIII)I"⟩
abbrev cX8_setWind : ByteArray := prog_10_method_18_code
def yX8_setWind : MethodName := ⟨RX8, "setWind", "(I)I"⟩
abbrev cX8_guestsWho : ByteArray := prog_10_method_19_code
def yX8_guestsWho : MethodName := ⟨RX8, "guestsWho", "(II)I"⟩
abbrev cX8_lift : ByteArray := prog_10_method_20_code
def yX8_lift : MethodName := ⟨RX8, "lift", "(II)I"⟩
abbrev cX8_piste : ByteArray := prog_10_method_21_code
def yX8_piste : MethodName := ⟨RX8, "piste", "(II)I"⟩
abbrev cX8_open : ByteArray := prog_10_method_22_code
def yX8_open : MethodName := ⟨RX8, "open", "(IZ)I"⟩
abbrev cX8_groom : ByteArray := prog_10_method_23_code
def yX8_groom : MethodName := ⟨RX8, "groom", "(I)I"⟩
abbrev cX8_openPistes : ByteArray := prog_10_method_24_code
def yX8_openPistes : MethodName := ⟨RX8, "openPistes", "()I"⟩
abbrev cX8_count : ByteArray := prog_10_method_25_code
def yX8_count : MethodName := ⟨RX8, "count", "(I)I"⟩
abbrev cX8_arrives : ByteArray := prog_10_method_26_code
def yX8_arrives : MethodName := ⟨RX8, "arrives", "(IIIII)V"⟩
abbrev cX8_addGuest : ByteArray := prog_10_method_27_code
def yX8_addGuest : MethodName := ⟨RX8, "addGuest", "(IIIII)I"⟩
abbrev cX8_placeOf : ByteArray := prog_10_method_28_code
def yX8_placeOf : MethodName := ⟨RX8, "placeOf", "(I)I"⟩
abbrev cX8_guest : ByteArray := prog_10_method_29_code
def yX8_guest : MethodName := ⟨RX8, "guest", "(II)I"⟩
abbrev cX8_isOpenTo : ByteArray := prog_10_method_30_code
def yX8_isOpenTo : MethodName := ⟨RX8, "isOpenTo", "(II)Z"⟩
abbrev cX8_whyNoLift : ByteArray := prog_10_method_31_code
def yX8_whyNoLift : MethodName := ⟨RX8, "whyNoLift", "(II)I"⟩
abbrev cX8_whyNoPiste : ByteArray := prog_10_method_32_code
def yX8_whyNoPiste : MethodName := ⟨RX8, "whyNoPiste", "(II)I"⟩
abbrev cX8_standIn : ByteArray := prog_10_method_33_code
def yX8_standIn : MethodName := ⟨RX8, "standIn", "(II)I"⟩
abbrev cX8_skiTime : ByteArray := prog_10_method_34_code
def yX8_skiTime : MethodName := ⟨RX8, "skiTime", "(II)I"⟩
abbrev cX8_goDown : ByteArray := prog_10_method_35_code
def yX8_goDown : MethodName := ⟨RX8, "goDown", "(II)I"⟩
abbrev cX8_refuses : ByteArray := prog_10_method_36_code
def yX8_refuses : MethodName := ⟨RX8, "refuses", "(II)I"⟩
abbrev cX8_queue : ByteArray := prog_10_method_37_code
def yX8_queue : MethodName := ⟨RX8, "queue", "(II)I"⟩
abbrev cX8_ski : ByteArray := prog_10_method_38_code
def yX8_ski : MethodName := ⟨RX8, "ski", "(II)I"⟩
abbrev cX8_drops : ByteArray := prog_10_method_39_code
def yX8_drops : MethodName := ⟨RX8, "drops", "(III)V"⟩
abbrev cX8_leave : ByteArray := prog_10_method_40_code
def yX8_leave : MethodName := ⟨RX8, "leave", "(I)I"⟩
abbrev cX8_whyNotQueue : ByteArray := prog_10_method_41_code
def yX8_whyNotQueue : MethodName := ⟨RX8, "whyNotQueue", "(II)I"⟩
abbrev cX8_whyNotSki : ByteArray := prog_10_method_42_code
def yX8_whyNotSki : MethodName := ⟨RX8, "whyNotSki", "(II)I"⟩
abbrev cX8_reason : ByteArray := prog_10_method_43_code
def yX8_reason : MethodName := ⟨RX8, "reason", "()I"⟩
abbrev cX8_opened : ByteArray := prog_10_method_44_code
def yX8_opened : MethodName := ⟨RX8, "opened", "(I)I"⟩
abbrev cX8_queued : ByteArray := prog_10_method_45_code
def yX8_queued : MethodName := ⟨RX8, "queued", "(II)I"⟩
abbrev cX8_comesTo : ByteArray := prog_10_method_46_code
def yX8_comesTo : MethodName := ⟨RX8, "comesTo", "(II)V"⟩
abbrev cX8_cabin : ByteArray := prog_10_method_47_code
def yX8_cabin : MethodName := ⟨RX8, "cabin", "(I)V"⟩
abbrev cX8_tick : ByteArray := prog_10_method_48_code
def yX8_tick : MethodName := ⟨RX8, "tick", "()V"⟩
abbrev cX8_ticks : ByteArray := prog_10_method_49_code
def yX8_ticks : MethodName := ⟨RX8, "ticks", "(I)I"⟩
abbrev cX8_advance : ByteArray := prog_10_method_50_code
def yX8_advance : MethodName := ⟨RX8, "advance", "(I)I"⟩
abbrev cX8_endDay : ByteArray := prog_10_method_51_code
def yX8_endDay : MethodName := ⟨RX8, "endDay", "()I"⟩
abbrev cX8_layAside : ByteArray := prog_10_method_52_code
def yX8_layAside : MethodName := ⟨RX8, "layAside", "()V"⟩
abbrev cX8_takeBack : ByteArray := prog_10_method_53_code
def yX8_takeBack : MethodName := ⟨RX8, "takeBack", "()V"⟩
abbrev cX8_arrival : ByteArray := prog_10_method_54_code
def yX8_arrival : MethodName := ⟨RX8, "arrival", "(I)I"⟩
abbrev cX8_nextCabin : ByteArray := prog_10_method_55_code
def yX8_nextCabin : MethodName := ⟨RX8, "nextCabin", "(I)I"⟩
abbrev cX8_isWayLift : ByteArray := prog_10_method_56_code
def yX8_isWayLift : MethodName := ⟨RX8, "isWayLift", "(II)Z"⟩
abbrev cX8_isWayPiste : ByteArray := prog_10_method_57_code
def yX8_isWayPiste : MethodName := ⟨RX8, "isWayPiste", "(II)Z"⟩
abbrev cX8_layWays : ByteArray := prog_10_method_58_code
def yX8_layWays : MethodName := ⟨RX8, "layWays", "(II)V"⟩
abbrev cX8_lacks : ByteArray := prog_10_method_59_code
def yX8_lacks : MethodName := ⟨RX8, "lacks", "(III)I"⟩
abbrev cX8_duration : ByteArray := prog_10_method_60_code
def yX8_duration : MethodName := ⟨RX8, "duration", "(III)I"⟩
abbrev cX8_firstPart : ByteArray := prog_10_method_61_code
def yX8_firstPart : MethodName := ⟨RX8, "firstPart", "(III)I"⟩
abbrev cX8_reachable : ByteArray := prog_10_method_62_code
def yX8_reachable : MethodName := ⟨RX8, "reachable", "(II)I"⟩
abbrev cX8_stranded : ByteArray := prog_10_method_63_code
def yX8_stranded : MethodName := ⟨RX8, "stranded", "(II)I"⟩
abbrev cX8_liftAccount : ByteArray := prog_10_method_64_code
def yX8_liftAccount : MethodName := ⟨RX8, "liftAccount", "(II)I"⟩
abbrev cX8_guestAccount : ByteArray := prog_10_method_65_code
def yX8_guestAccount : MethodName := ⟨RX8, "guestAccount", "(II)I"⟩
abbrev cX8_pisteAccount : ByteArray := prog_10_method_66_code
def yX8_pisteAccount : MethodName := ⟨RX8, "pisteAccount", "(I)I"⟩
abbrev cX8_audit : ByteArray := prog_10_method_67_code
def yX8_audit : MethodName := ⟨RX8, "audit", "()I"⟩
abbrev cX8_busiest : ByteArray := prog_10_method_68_code
def yX8_busiest : MethodName := ⟨RX8, "busiest", "()I"⟩
abbrev cX8_load : ByteArray := prog_10_method_69_code
def yX8_load : MethodName := ⟨RX8, "load", "(I)D"⟩
abbrev cX8_append : ByteArray := prog_10_method_70_code
def yX8_append : MethodName := ⟨RX8, "append", "(C)I"⟩
abbrev cX8_here : ByteArray := prog_10_method_71_code
def yX8_here : MethodName := ⟨RX8, "here", "()I"⟩
abbrev cX8_digit : ByteArray := prog_10_method_72_code
def yX8_digit : MethodName := ⟨RX8, "digit", "(II)I"⟩
abbrev cX8_take : ByteArray := prog_10_method_73_code
def yX8_take : MethodName := ⟨RX8, "take", "(I)V"⟩
abbrev cX8_guestNumber : ByteArray := prog_10_method_74_code
def yX8_guestNumber : MethodName := ⟨RX8, "guestNumber", "()I"⟩
abbrev cX8_entry : ByteArray := prog_10_method_75_code
def yX8_entry : MethodName := ⟨RX8, "entry", "()V"⟩
abbrev cX8_isText : ByteArray := prog_10_method_76_code
def yX8_isText : MethodName := ⟨RX8, "isText", "()Z"⟩
abbrev cX8_does : ByteArray := prog_10_method_77_code
def yX8_does : MethodName := ⟨RX8, "does", "(I)Z"⟩
abbrev cX8_read : ByteArray := prog_10_method_78_code
def yX8_read : MethodName := ⟨RX8, "read", "()I"⟩
abbrev cX8_errorPosition : ByteArray := prog_10_method_79_code
def yX8_errorPosition : MethodName := ⟨RX8, "errorPosition", "()I"⟩
abbrev cX8_undo : ByteArray := prog_10_method_80_code
def yX8_undo : MethodName := ⟨RX8, "undo", "()I"⟩
abbrev cX8_save : ByteArray := prog_10_method_81_code
def yX8_save : MethodName := ⟨RX8, "save", "()I"⟩
abbrev cX8_restore : ByteArray := prog_10_method_82_code
def yX8_restore : MethodName := ⟨RX8, "restore", "()I"⟩
def RJx145de : String := "java/io/Serializable"
def TJx145de : u_T := fun k => match k with
  | _ => ("", "", "", false)
def tyJx145de : Nat → FieldType := fun k => match k with
  | _ => .int
theorem nmJx145de : ∀ a, a < 0 → ∀ b, b < 0 → a ≠ b → (TJx145de a).2.1 ≠ (TJx145de b).2.1 := by decide +kernel
theorem tyJx145de_ok : ∀ k, k < 0 → parseFieldDescriptor (TJx145de k).2.2.1 = some (tyJx145de k) := by decide +kernel
def RJx00060 : String := "java/lang/ArrayIndexOutOfBoundsException"
def TJx00060 : u_T := fun k => match k with
  | 0 => ("java/lang/Throwable", "backtrace", "Ljava/lang/Object;", false)
  | 1 => ("java/lang/Throwable", "detailMessage", "Ljava/lang/String;", false)
  | 2 => ("java/lang/Throwable", "cause", "Ljava/lang/Throwable;", false)
  | 3 => ("java/lang/Throwable", "stackTrace", "[Ljava/lang/StackTraceElement;", false)
  | 4 => ("java/lang/Throwable", "depth", "I", false)
  | _ => ("java/lang/Throwable", "suppressedExceptions", "Ljava/util/List;", false)
def tyJx00060 : Nat → FieldType := fun k => match k with
  | 0 => .object "java/lang/Object"
  | 1 => .object "java/lang/String"
  | 2 => .object "java/lang/Throwable"
  | 3 => .array (.object "java/lang/StackTraceElement")
  | 4 => .int
  | _ => .object "java/util/List"
theorem nmJx00060 : ∀ a, a < 6 → ∀ b, b < 6 → a ≠ b → (TJx00060 a).2.1 ≠ (TJx00060 b).2.1 := by decide +kernel
theorem tyJx00060_ok : ∀ k, k < 6 → parseFieldDescriptor (TJx00060 k).2.2.1 = some (tyJx00060 k) := by decide +kernel
abbrev cJx00060_init_a7421 : ByteArray := prog_13_method_2_code
def yJx00060_init_a7421 : MethodName := ⟨RJx00060, "<init>", "(Ljava/lang/String;)V"⟩
def RJ9 : String := "java/lang/Math"
def TJ9 : u_T := fun k => match k with
  | _ => ("", "", "", false)
def tyJ9 : Nat → FieldType := fun k => match k with
  | _ => .int
theorem nmJ9 : ∀ a, a < 0 → ∀ b, b < 0 → a ≠ b → (TJ9 a).2.1 ≠ (TJ9 b).2.1 := by decide +kernel
theorem tyJ9_ok : ∀ k, k < 0 → parseFieldDescriptor (TJ9 k).2.2.1 = some (tyJ9 k) := by decide +kernel
abbrev cJ9_floorMod_7cf53 : ByteArray := prog_18_method_50_code
def yJ9_floorMod_7cf53 : MethodName := ⟨RJ9, "floorMod", "(II)I"⟩
abbrev cJ9_abs_0f7a4 : ByteArray := prog_18_method_59_code
def yJ9_abs_0f7a4 : MethodName := ⟨RJ9, "abs", "(I)I"⟩
abbrev cJ9_min_7cf53 : ByteArray := prog_18_method_69_code
def yJ9_min_7cf53 : MethodName := ⟨RJ9, "min", "(II)I"⟩
def RJ0 : String := "java/lang/String"
def TJ0 : u_T := fun k => match k with
  | 0 => ("java/lang/String", "value", "[B", true)
  | _ => ("java/lang/String", "coder", "B", true)
def tyJ0 : Nat → FieldType := fun k => match k with
  | 0 => .array .byte
  | _ => .byte
theorem nmJ0 : ∀ a, a < 2 → ∀ b, b < 2 → a ≠ b → (TJ0 a).2.1 ≠ (TJ0 b).2.1 := by decide +kernel
theorem tyJ0_ok : ∀ k, k < 2 → parseFieldDescriptor (TJ0 k).2.2.1 = some (tyJ0 k) := by decide +kernel
def RL : String := "SlopeOperatorLaw"
abbrev cL_addLift : ByteArray := method_3_code
def yL_addLift : MethodName := ⟨RL, "addLift", "(LSlopeOperator;IIIIII[J)I"⟩
abbrev cL_addPiste : ByteArray := method_4_code
def yL_addPiste : MethodName := ⟨RL, "addPiste", "(LSlopeOperator;IIII[J)I"⟩
abbrev cL_setWind : ByteArray := method_5_code
def yL_setWind : MethodName := ⟨RL, "setWind", "(LSlopeOperator;I[J)I"⟩
abbrev cL_lift : ByteArray := method_6_code
def yL_lift : MethodName := ⟨RL, "lift", "(LSlopeOperator;II[J)I"⟩
abbrev cL_piste : ByteArray := method_7_code
def yL_piste : MethodName := ⟨RL, "piste", "(LSlopeOperator;II[J)I"⟩
abbrev cL_open : ByteArray := method_8_code
def yL_open : MethodName := ⟨RL, "open", "(LSlopeOperator;IZ[J)I"⟩
abbrev cL_groom : ByteArray := method_9_code
def yL_groom : MethodName := ⟨RL, "groom", "(LSlopeOperator;I[J)I"⟩
abbrev cL_count : ByteArray := method_10_code
def yL_count : MethodName := ⟨RL, "count", "(LSlopeOperator;I[J)I"⟩
abbrev cL_addGuest : ByteArray := method_11_code
def yL_addGuest : MethodName := ⟨RL, "addGuest", "(LSlopeOperator;IIIII[J)I"⟩
abbrev cL_guest : ByteArray := method_12_code
def yL_guest : MethodName := ⟨RL, "guest", "(LSlopeOperator;II[J)I"⟩
abbrev cL_queue : ByteArray := method_13_code
def yL_queue : MethodName := ⟨RL, "queue", "(LSlopeOperator;II[J)I"⟩
abbrev cL_ski : ByteArray := method_14_code
def yL_ski : MethodName := ⟨RL, "ski", "(LSlopeOperator;II[J)I"⟩
abbrev cL_leave : ByteArray := method_15_code
def yL_leave : MethodName := ⟨RL, "leave", "(LSlopeOperator;I[J)I"⟩
abbrev cL_whyNotQueue : ByteArray := method_16_code
def yL_whyNotQueue : MethodName := ⟨RL, "whyNotQueue", "(LSlopeOperator;II[J)I"⟩
abbrev cL_whyNotSki : ByteArray := method_17_code
def yL_whyNotSki : MethodName := ⟨RL, "whyNotSki", "(LSlopeOperator;II[J)I"⟩
abbrev cL_reason : ByteArray := method_18_code
def yL_reason : MethodName := ⟨RL, "reason", "(LSlopeOperator;[J)I"⟩
abbrev cL_opened : ByteArray := method_19_code
def yL_opened : MethodName := ⟨RL, "opened", "(LSlopeOperator;I[J)I"⟩
abbrev cL_queued : ByteArray := method_20_code
def yL_queued : MethodName := ⟨RL, "queued", "(LSlopeOperator;II[J)I"⟩
abbrev cL_advance : ByteArray := method_21_code
def yL_advance : MethodName := ⟨RL, "advance", "(LSlopeOperator;I[J)I"⟩
abbrev cL_endDay : ByteArray := method_22_code
def yL_endDay : MethodName := ⟨RL, "endDay", "(LSlopeOperator;[J)I"⟩
abbrev cL_arrival : ByteArray := method_23_code
def yL_arrival : MethodName := ⟨RL, "arrival", "(LSlopeOperator;I[J)I"⟩
abbrev cL_nextCabin : ByteArray := method_24_code
def yL_nextCabin : MethodName := ⟨RL, "nextCabin", "(LSlopeOperator;I[J)I"⟩
abbrev cL_duration : ByteArray := method_25_code
def yL_duration : MethodName := ⟨RL, "duration", "(LSlopeOperator;III[J)I"⟩
abbrev cL_firstPart : ByteArray := method_26_code
def yL_firstPart : MethodName := ⟨RL, "firstPart", "(LSlopeOperator;III[J)I"⟩
abbrev cL_reachable : ByteArray := method_27_code
def yL_reachable : MethodName := ⟨RL, "reachable", "(LSlopeOperator;II[J)I"⟩
abbrev cL_stranded : ByteArray := method_28_code
def yL_stranded : MethodName := ⟨RL, "stranded", "(LSlopeOperator;II[J)I"⟩
abbrev cL_liftAccount : ByteArray := method_29_code
def yL_liftAccount : MethodName := ⟨RL, "liftAccount", "(LSlopeOperator;II[J)I"⟩
abbrev cL_guestAccount : ByteArray := method_30_code
def yL_guestAccount : MethodName := ⟨RL, "guestAccount", "(LSlopeOperator;II[J)I"⟩
abbrev cL_pisteAccount : ByteArray := method_31_code
def yL_pisteAccount : MethodName := ⟨RL, "pisteAccount", "(LSlopeOperator;I[J)I"⟩
abbrev cL_busiest : ByteArray := method_32_code
def yL_busiest : MethodName := ⟨RL, "busiest", "(LSlopeOperator;[J)I"⟩
abbrev cL_load : ByteArray := method_33_code
def yL_load : MethodName := ⟨RL, "load", "(LSlopeOperator;I[D)I"⟩
abbrev cL_append : ByteArray := method_34_code
def yL_append : MethodName := ⟨RL, "append", "(LSlopeOperator;C[J)I"⟩
abbrev cL_read : ByteArray := method_35_code
def yL_read : MethodName := ⟨RL, "read", "(LSlopeOperator;[J)I"⟩
abbrev cL_errorPosition : ByteArray := method_36_code
def yL_errorPosition : MethodName := ⟨RL, "errorPosition", "(LSlopeOperator;[J)I"⟩
abbrev cL_undo : ByteArray := method_37_code
def yL_undo : MethodName := ⟨RL, "undo", "(LSlopeOperator;[J)I"⟩
abbrev cL_restore : ByteArray := method_38_code
def yL_restore : MethodName := ⟨RL, "restore", "(LSlopeOperator;[J)I"⟩
abbrev cL_law : ByteArray := code
def yL_law : MethodName := ⟨RL, "law", "([I)Z"⟩
abbrev vwCl : List vw_C := [(RJ0, TJ0, 2), (RJx00060, TJx00060, 6), (RX0, TX0, 9), (RX1, TX1, 11), (RX2, TX2, 3), (RX3, TX3, 7), (RX4, TX4, 10), (RX5, TX5, 8), (RX6, TX6, 1), (RX7, TX7, 9), (RX8, TX8, 20)]
end
section
/-! ===== THE STORE: the ints of both systems by kind of object, area, place and slot; where each object lies ===== -/
abbrev St : Type := Nat → Nat → Nat → Nat → Int32
def up (μ : St) (k b i s : Nat) (x : Int32) : St := fun k' b' i' s' => if k' = k ∧ b' = b ∧ i' = i ∧ s' = s then x else μ k' b' i' s'
theorem up_self (μ : St) (k b i s : Nat) (x : Int32) : up μ k b i s x k b i s = x := by simp [up]
theorem up_k {μ : St} {k b i s : Nat} {x : Int32} {k' b' i' s' : Nat} (h : k' ≠ k) : up μ k b i s x k' b' i' s' = μ k' b' i' s' := by simp [up, h]
theorem up_b {μ : St} {k b i s : Nat} {x : Int32} {k' b' i' s' : Nat} (h : b' ≠ b) : up μ k b i s x k' b' i' s' = μ k' b' i' s' := by simp [up, h]
theorem up_i {μ : St} {k b i s : Nat} {x : Int32} {k' b' i' s' : Nat} (h : i' ≠ i) : up μ k b i s x k' b' i' s' = μ k' b' i' s' := by simp [up, h]
theorem up_sl {μ : St} {k b i s : Nat} {x : Int32} {k' b' i' s' : Nat} (h : s' ≠ s) : up μ k b i s x k' b' i' s' = μ k' b' i' s' := by simp [up, h]
def zab (b : Nat) : Nat := if b < 3 then 1 + 36 * b else 3 + 36 * b
/-- where an object lies behind the law's start: kind (2 Area, 3 Guest, 4 History, 5 Input, 6 Lift, 7 Piste, 8 Ways, 9 the class, 10 the reference; 20 to 23 rows of lifts, pistes, guests, areas; 24 text; 25 durations; 26 to 34 the reference's rows; 35, 36 the law's), area, place -/
def zof (k b i : Nat) : Nat := match k with
  | 2 => zab b
  | 20 => zab b + 1
  | 6 => zab b + 2 + i
  | 21 => zab b + 8
  | 7 => zab b + 9 + i
  | 22 => zab b + 19
  | 3 => zab b + 20 + i
  | 9 => 0
  | 4 => 109
  | 23 => 110
  | 5 => 399
  | 24 => 400
  | 8 => 401
  | 25 => 402
  | 10 => 403
  | k => 378 + k
def zokb (k b i : Nat) : Bool := (decide (k < 37) && decide (b < 11) && decide (i < 16)) && (match k with
  | 2 => i == 0
  | 20 => i == 0
  | 21 => i == 0
  | 22 => i == 0
  | 3 => true
  | 6 => decide (i < 6)
  | 7 => decide (i < 10)
  | k => b == 0 && i == 0 && ((k == 4 || k == 5 || k == 8 || k == 9 || k == 10) || decide (23 ≤ k)))
def zok (k b i : Nat) : Prop := zokb k b i = true
def zarea (b r : Nat) : Nat × Nat × Nat := if r = 0 then (2, b, 0) else if r = 1 then (20, b, 0) else if r < 8 then (6, b, r - 2) else if r = 8 then (21, b, 0) else if r < 19 then (7, b, r - 9) else if r = 19 then (22, b, 0) else (3, b, r - 20)
def zdec (n : Nat) : Nat × Nat × Nat := if n = 0 then (9, 0, 0) else if n < 109 then zarea ((n - 1) / 36) ((n - 1) % 36) else if n = 109 then (4, 0, 0) else if n = 110 then (23, 0, 0) else if n < 399 then zarea ((n - 3) / 36) ((n - 3) % 36) else if n = 399 then (5, 0, 0) else if n = 400 then (24, 0, 0) else if n = 401 then (8, 0, 0) else if n = 402 then (25, 0, 0) else if n = 403 then (10, 0, 0) else (n - 378, 0, 0)
theorem zdec_cmp : ((List.range 37).all fun k => (List.range 11).all fun b => (List.range 16).all fun i => !zokb k b i || decide (zdec (zof k b i) = (k, b, i))) = true := by decide +kernel
theorem zdec_all (k : Nat) (hk : k < 37) (b : Nat) (hb : b < 11) (i : Nat) (hi : i < 16) (h : zokb k b i = true) : zdec (zof k b i) = (k, b, i) := by
  have h1 := List.all_eq_true.mp zdec_cmp k (List.mem_range.mpr hk)
  have h2 := List.all_eq_true.mp h1 b (List.mem_range.mpr hb)
  have h3 := List.all_eq_true.mp h2 i (List.mem_range.mpr hi)
  rw [h] at h3
  simpa using h3
theorem zok_lt {k b i : Nat} (h : zok k b i) : k < 37 ∧ b < 11 ∧ i < 16 := by
  unfold zok zokb at h
  simp only [Bool.and_eq_true, decide_eq_true_eq] at h
  exact ⟨h.1.1.1, h.1.1.2, h.1.2⟩
theorem zdec_of {k b i : Nat} (h : zok k b i) : zdec (zof k b i) = (k, b, i) := by
  obtain ⟨h1, h2, h3⟩ := zok_lt h
  exact zdec_all k h1 b h2 i h3 h
theorem zof_inj {k b i k' b' i' : Nat} (h : zok k b i) (h' : zok k' b' i') (e : zof k b i = zof k' b' i') : k = k' ∧ b = b' ∧ i = i' := by
  have h1 := zdec_of h
  rw [e, zdec_of h'] at h1
  simp only [Prod.mk.injEq] at h1
  exact ⟨h1.1.symm, h1.2.1.symm, h1.2.2.symm⟩
theorem zok_2 {b : Nat} (hb : b < 11) : zok 2 b 0 := by simp [zok, zokb, hb]
theorem zok_20 {b : Nat} (hb : b < 11) : zok 20 b 0 := by simp [zok, zokb, hb]
theorem zok_21 {b : Nat} (hb : b < 11) : zok 21 b 0 := by simp [zok, zokb, hb]
theorem zok_22 {b : Nat} (hb : b < 11) : zok 22 b 0 := by simp [zok, zokb, hb]
theorem zok_3 {b i : Nat} (hb : b < 11) (hi : i < 16) : zok 3 b i := by simp [zok, zokb, hb, hi]
theorem zok_6 {b i : Nat} (hb : b < 11) (hi : i < 6) : zok 6 b i := by simp [zok, zokb, hb, hi]; omega
theorem zok_7 {b i : Nat} (hb : b < 11) (hi : i < 10) : zok 7 b i := by simp [zok, zokb, hb, hi]; omega
/-- the address of an object -/
def zad (B k b i : Nat) : Nat := B + zof k b i
theorem zad_inj {B k b i k' b' i' : Nat} (h : zok k b i) (h' : zok k' b' i') (e : zad B k b i = zad B k' b' i') : k = k' ∧ b = b' ∧ i = i' := zof_inj h h' (by unfold zad at e; omega)
theorem zad_ge (B k b i : Nat) : B ≤ zad B k b i := Nat.le_add_right _ _
/-- what a slot holds: a reference that never changes, or the store's int -/
def zvl (B : Nat) (μ : St) (k b i s : Nat) : Value := match k with
  | 2 => (match s with | 0 => .ref (zad B 20 b 0) | 1 => .ref (zad B 21 b 0) | 2 => .ref (zad B 22 b 0) | s => .int (μ 2 b i s))
  | 4 => (match s with | 0 => .ref (zad B 23 0 0) | s => .int (μ 4 b i s))
  | 5 => (match s with | 0 => .ref (zad B 24 0 0) | s => .int (μ 5 b i s))
  | 8 => .ref (zad B 25 0 0)
  | 9 => (match s with | 0 => .ref (zad B 2 0 0) | 1 => .ref (zad B 2 1 0) | 2 => .ref (zad B 2 2 0) | 3 => .ref (zad B 4 0 0) | 4 => .ref (zad B 5 0 0) | 5 => .ref (zad B 8 0 0) | s => .int (μ 9 b i s))
  | 10 => (match s with | 0 => .ref (zad B 26 0 0) | 1 => .ref (zad B 27 0 0) | 3 => .ref (zad B 28 0 0) | 8 => .ref (zad B 29 0 0) | 9 => .ref (zad B 30 0 0) | 11 => .ref (zad B 31 0 0) | 17 => .ref (zad B 32 0 0) | 18 => .ref (zad B 33 0 0) | 19 => .ref (zad B 34 0 0) | s => .int (μ 10 b i s))
  | 20 => .ref (zad B 6 b s)
  | 21 => .ref (zad B 7 b s)
  | 22 => .ref (zad B 3 b s)
  | 23 => .ref (zad B 2 (s + 3) 0)
  | 35 => .long (μ 35 b i s).toInt64
  | 36 => .double (FP.ddiv (FP.i2d (μ 36 0 0 0)) (FP.i2d (μ 36 0 0 1)))
  | k => .int (μ k b i s)
/-- the length of a row -/
def zln (k : Nat) : Nat := match k with
  | 20 => 6 | 21 => 10 | 22 => 16 | 23 => 8 | 24 => 60 | 25 => 8
  | 26 => 372 | 27 => 372 | 28 => 2976 | 29 => 372 | 30 => 8 | 31 => 60 | 32 => 60 | 33 => 60 | 34 => 60
  | _ => 1
/-- the type of a row's places -/
def zty (k : Nat) : FieldType := match k with
  | 20 => .object "SlopeOperator$Lift" | 21 => .object "SlopeOperator$Piste" | 22 => .object "SlopeOperator$Guest" | 23 => .object "SlopeOperator$Area"
  | 24 => .char | 35 => .long | 36 => .double | _ => .int
/-- constants of a launch: where the world begins; classes and slots; the rows' classes -/
abbrev Gl : Type := Nat × va_G × (Nat → ClassId)
def zat (G : Gl) (μ : St) (k b i : Nat) (H : Heap) : Prop := if k < 20 then ∃ r : vw_C, vwCl[k]? = some r ∧ t_OB (zad G.1 k b i) (G.2.1.1 k) r.2.2 (G.2.1.2 k) H (zvl G.1 μ k b i) else H[zad G.1 k b i]? = some (arrV (G.2.2 k) (zln k) (zvl G.1 μ k b i))
/-- the heap holds both systems with the store's ints -/
def Wd (G : Gl) (μ : St) (H : Heap) : Prop := ∀ k b i, zok k b i → zat G μ k b i H
theorem zat.kept {G : Gl} {μ : St} {k b i : Nat} {H H1 : Heap} (h : zat G μ k b i H) (hq : H1[zad G.1 k b i]? = H[zad G.1 k b i]?) : zat G μ k b i H1 := by
  unfold zat at h ⊢
  by_cases hk : k < 20
  · rw [if_pos hk] at h ⊢
    obtain ⟨r, h1, h2⟩ := h
    exact ⟨r, h1, h2.kept hq⟩
  · rw [if_neg hk] at h ⊢
    rw [hq]
    exact h
theorem zat.lt {G : Gl} {μ : St} {k b i : Nat} {H : Heap} (h : zat G μ k b i H) : zad G.1 k b i < H.size := by
  unfold zat at h
  by_cases hk : k < 20
  · rw [if_pos hk] at h
    obtain ⟨r, h1, cell, h2, -⟩ := h
    exact (Array.getElem?_eq_some_iff.mp h2).1
  · rw [if_neg hk] at h
    exact (Array.getElem?_eq_some_iff.mp h).1
theorem Wd.kept {G : Gl} {μ : St} {H H1 : Heap} (h : Wd G μ H) (hq : ∀ q : Nat, q < H.size → H1[q]? = H[q]?) : Wd G μ H1 := fun k b i ho => (h k b i ho).kept (hq _ (h k b i ho).lt)
/-- a slot other than the written one reads as before -/
theorem zvl_up_ne {B : Nat} {μ : St} {k b i s : Nat} {x : Int32} {k' b' i' s' : Nat} (h : ¬ (k' = k ∧ b' = b ∧ i' = i)) (h36 : k ≠ 36) : zvl B (up μ k b i s x) k' b' i' s' = zvl B μ k' b' i' s' := by
  have e : ∀ s'', up μ k b i s x k' b' i' s'' = μ k' b' i' s'' := fun s'' => by
    unfold up
    rw [if_neg (fun z => h ⟨z.1, z.2.1, z.2.2.1⟩)]
  have e36 : ∀ j, up μ k b i s x 36 0 0 j = μ 36 0 0 j := fun j => up_k (fun z => h36 z.symm)
  unfold zvl
  split <;> (try split) <;> simp_all
theorem zvl_up_s {B : Nat} {μ : St} {k b i s : Nat} {x : Int32} {s' : Nat} (h : s' ≠ s) (h36 : k ≠ 36) : zvl B (up μ k b i s x) k b i s' = zvl B μ k b i s' := by
  have e : up μ k b i s x k b i s' = μ k b i s' := up_sl h
  have e36 : ∀ j, up μ k b i s x 36 0 0 j = μ 36 0 0 j := fun j => up_k (fun z => h36 z.symm)
  unfold zvl
  split <;> (try split) <;> simp_all
end
section
/-! ===== THE JUDGEMENT V: the machine at a place of a method, over the store ===== -/
/-- the tables' words that any method may be handed -/
def GW : List Cond := lw_tbl.filter goodWord
theorem GW_tbl {w : Cond} (h : w ∈ GW) : w ∈ lw_tbl := (List.mem_filter.mp h).1
theorem GW_good {w : Cond} (h : w ∈ GW) : goodWord w = true := (List.mem_filter.mp h).2
theorem GW_of {w : Cond} (i : Nat) (h : tables_1[i]? = some w) (hg : goodWord w = true) : w ∈ GW := List.mem_filter.mpr ⟨List.mem_append_right _ (List.mem_of_getElem? h), hg⟩
theorem GW_sel {w : Cond} (i : Nat) (h : (k2_sels lw_privs)[i]? = some w) (hg : goodWord w = true) : w ∈ GW := List.mem_filter.mpr ⟨List.mem_append_left _ (List.mem_of_getElem? h), hg⟩
/-- a method: name, code, locals, answer, room, handlers -/
abbrev MD : Type := MethodName × ByteArray × Nat × Option FieldType × Room × List (Nat × Nat × Nat × Nat)
/-- words that the tables alone decide, moved by their own laws -/
def zNw : Cond → Bool
  | .castable .. => true
  | .methodLinkNest .. => true
  | .declares .. => true
  | _ => false
theorem zNw_moved {w : Cond} {s U : State} (hW : s.WarmedH U.vm) (hw : zNw w = true) (h : va_Nw w s) : va_Nw w U := by
  cases w <;> first | exact va_Nw.warmC hW h | exact va_Nw.warmM hW h | exact va_Nw.warmD hW h | cases hw
theorem zNw_same {w : Cond} {s U : State} (hv : s.vm = U.vm) (hw : zNw w = true) (h : va_Nw w s) : va_Nw w U := by
  cases w <;> first | exact va_Nw.same rfl hv h | cases hw
/-- classes of exceptions that a handler passes over -/
def zNc : List (String × String) := [("java/lang/IllegalArgumentException", "java/lang/IndexOutOfBoundsException"), ("java/lang/IllegalStateException", "java/lang/IndexOutOfBoundsException"), ("java/lang/IllegalStateException", "java/lang/IllegalArgumentException"), ("java/lang/UnsupportedOperationException", "java/lang/IndexOutOfBoundsException"), ("java/util/NoSuchElementException", "java/lang/IndexOutOfBoundsException"), ("java/lang/ArithmeticException", "java/lang/IndexOutOfBoundsException")]
/-- what holds of the machine at every state of the run, but for the ints -/
def kst (G : Gl) (U : State) : Prop := va_K G.2.1 vwCl [] U ∧ (∀ k, 20 ≤ k → k < 37 → ArrOfT U (G.2.2 k) (zty k)) ∧ G.1 ≤ U.heap.size ∧ vx_Zq Bundle.tN "UNASSIGNED_STACK" Bundle.steD (fun q => G.1 ≤ q) U U.heap ∧ vx_Zq Bundle.tN "SUPPRESSED_SENTINEL" Bundle.listD (fun q => G.1 ≤ q) U U.heap ∧ (∀ own k tx, Cond.stringRef own k tx ∈ lw_tbl → ∃ a, vk_R own k tx a U) ∧ (∀ w ∈ lw_tbl, zNw w = true → va_Nw w U) ∧ ∀ q ∈ zNc, va_Nc q.1 q.2 U
theorem kst.at {G : Gl} {s U : State} {H : Heap} {locs : List Loc} (h : kst G s) (hW : s.WarmedH U.vm) (hU : U.heap = H) (hS : va_S (fun q => G.1 ≤ q) s.heap H locs) : kst G U := by
  obtain ⟨h1, h2, h3, h4, h5, h6, h7, h8⟩ := h
  subst hU
  refine ⟨va_K.moved hW.alike h1, fun k a b => arrOfT_moved hW.alike (h2 k a b), Nat.le_trans h3 hS.1, (vx_Zq.moved hW.alike h4).kept (fun a x y => hS.2.1 a x y), (vx_Zq.moved hW.alike h5).kept (fun a x y => hS.2.1 a x y), fun own k tx hm => ?_, fun w hw hn => zNw_moved hW hn (h7 w hw hn), fun q hq => (h8 q hq).moved hW.alike⟩
  obtain ⟨a, ha⟩ := h6 own k tx hm
  exact ⟨a, ha.warm hW⟩
theorem kst.calling {G : Gl} {U : State} {g : JFrame} {mk : MethodId} {a : Array Value} (h : kst G U) : kst G (U.calling g mk a) := by
  obtain ⟨h1, h2, h3, h4, h5, h6, h7, h8⟩ := h
  refine ⟨va_K.moved (u := U) (Vm.Alike.refl U.vm) h1, fun k x y => arrOfT_moved (u := U) (Vm.Alike.refl U.vm) (h2 k x y), h3, vx_Zq.moved (u := U) (Vm.Alike.refl U.vm) h4, vx_Zq.moved (u := U) (Vm.Alike.refl U.vm) h5, fun own k tx hm => ?_, fun w hw hn => zNw_same (s := U) rfl hn (h7 w hw hn), fun q hq => va_Nc.moved (u := U) (Vm.Alike.refl U.vm) (h8 q hq)⟩
  obtain ⟨x, hx⟩ := h6 own k tx hm
  exact ⟨x, vk_R.same (u := U) rfl hx⟩
def Cx (G : Gl) (Y : MD) (p : Program) (l : Launch) (s : State) (m : MethodId) (args : Array Value) (meth : Method) (c : Code) : Prop :=
  p.tables.exec = Jvm.exec ∧ c.code = Y.2.1 ∧ meth.sig.returnType = Y.2.2.2.1 ∧ c.maxLocals = Y.2.2.1 ∧ s.vm.findClass Y.1.cls = some m.cls ∧ meth.locks = false ∧ (∀ w ∈ GW, w.before args s = true) ∧ kst G s ∧ l.stackTraces = false ∧ c.exceptionTable.toList = tableOf Y.2.2.2.2.2
def V (G : Gl) (Y : MD) (R : Room) (Qf : List Frame → Array Value → State → State → Prop) (pc : Nat) (L : List (Nat × Value)) (st : List Value) (μ : St) (cells slots : Nat) : Prop :=
  ∀ (p : Program) (l : Launch) (e : Env) (s : State) (m : MethodId) (args : Array Value) (below : List Frame) (meth : Method) (c : Code), Cx G Y p l s m args meth c → ∀ (H : Heap) (locs : List Loc) (ls : Array Slot), Wd G μ H → va_S (fun q => G.1 ≤ q) s.heap H locs → lv_has ls Y.2.2.1 L → W p l e R s m args below meth c H locs cells slots (Qf below args s) (F0 m pc ls st)
def lget : List (Nat × Value) → Nat → Option Value
  | [], _ => none
  | (j, v) :: t, k => match Nat.beq j k with
    | true => some v
    | false => lget t k
theorem lget_mem {L : List (Nat × Value)} {k : Nat} {v : Value} (h : lget L k = some v) : (k, v) ∈ L := by
  induction L with
  | nil => cases h
  | cons q t ih =>
    obtain ⟨j, w⟩ := q
    unfold lget at h
    split at h
    next e =>
      have e1 : j = k := Nat.eq_of_beq_eq_true e
      cases h
      rw [e1]
      exact List.mem_cons_self
    next e => exact List.mem_cons_of_mem _ (ih h)
theorem lv_lget {ls : Array Slot} {nL : Nat} {L : List (Nat × Value)} (h : lv_has ls nL L) {k : Nat} {v : Value} (hk : lget L k = some v) : ls[k]? = some (.val v) := h.2.2 (k, v) (lget_mem hk)
def lins : List (Nat × Value) → Nat → Value → List (Nat × Value)
  | [], k, v => [(k, v)]
  | (j, x) :: t, k, v => match Nat.blt j k with
    | true => (j, x) :: lins t k v
    | false => (k, v) :: (j, x) :: t
theorem lins_mem {L : List (Nat × Value)} {k : Nat} {v : Value} {q : Nat × Value} (h : q ∈ lins L k v) : q ∈ (k, v) :: L := by
  induction L with
  | nil => exact h
  | cons x t ih =>
    obtain ⟨j, y⟩ := x
    unfold lins at h
    split at h
    next e =>
      rcases List.mem_cons.mp h with h1 | h1
      · rw [h1]
        exact List.mem_cons_of_mem _ List.mem_cons_self
      · rcases List.mem_cons.mp (ih h1) with h2 | h2
        · rw [h2]
          exact List.mem_cons_self
        · exact List.mem_cons_of_mem _ (List.mem_cons_of_mem _ h2)
    next e => exact h
/-- the locals behind a store: in the order of their numbers -/
def lset (L : List (Nat × Value)) (k : Nat) (v : Value) : List (Nat × Value) := lins (L.filter (fun q => !(q.1 == k) && !(q.1 + 1 == k && q.2.category == 2))) k v
theorem lv_lset {ls : Array Slot} {nL : Nat} {L : List (Nat × Value)} {k : Nat} {v : Value} (h : lv_has ls nL ((k, v) :: L.filter (fun q => !(q.1 == k) && !(q.1 + 1 == k && q.2.category == 2)))) : lv_has ls nL (lset L k v) := ⟨h.1, h.2.1, fun q hq => h.2.2 q (lins_mem hq)⟩
def lsetD (L : List (Nat × Value)) (k : Nat) (v : Value) : List (Nat × Value) := lins (L.filter (fun q => !(q.1 == k) && (!(q.1 == k + 1) && !(q.1 + 1 == k && q.2.category == 2)))) k v
theorem lv_lsetD {ls : Array Slot} {nL : Nat} {L : List (Nat × Value)} {k : Nat} {v : Value} (h : lv_has ls nL ((k, v) :: L.filter (fun q => !(q.1 == k) && (!(q.1 == k + 1) && !(q.1 + 1 == k && q.2.category == 2))))) : lv_has ls nL (lsetD L k v) := ⟨h.1, h.2.1, fun q hq => h.2.2 q (lins_mem hq)⟩
theorem lv_less {ls : Array Slot} {nL : Nat} {L L' : List (Nat × Value)} (h : lv_has ls nL L) (hL : ∀ q ∈ L', q ∈ L) : lv_has ls nL L' := ⟨h.1, h.2.1, fun q hq => h.2.2 q (hL q hq)⟩
section VRows
variable {G : Gl} {Y : MD} {R : Room} {Qf : List Frame → Array Value → State → State → Prop} {pc n : Nat} {L L' : List (Nat × Value)} {st : List Value} {μ : St} {cells slots : Nat}
theorem v_iconst {q : Int} {x : Int32} (hd : decode Y.2.1 pc = .ok (.iconst q, 1)) (hn : pc + 1 = n) (hx : Int32.ofInt q = x) (kk : V G Y R Qf n L (.int x :: st) μ cells slots) : V G Y R Qf pc L (st) μ cells slots := by
  subst hn; intro p l e s m args below meth c C H locs ls hW hS hl
  exact lv_iconst C.1 C.2.1 hd hx (kk p l e s m args below meth c C H locs ls hW hS hl)
theorem v_bipush {q : Int} {x : Int32} (hd : decode Y.2.1 pc = .ok (.bipush q, 2)) (hn : pc + 2 = n) (hx : (Int8.ofInt q).toInt32 = x) (kk : V G Y R Qf n L (.int x :: st) μ cells slots) : V G Y R Qf pc L (st) μ cells slots := by
  subst hn; intro p l e s m args below meth c C H locs ls hW hS hl
  exact lv_bipush C.1 C.2.1 hd hx (kk p l e s m args below meth c C H locs ls hW hS hl)
theorem v_sipush {q : Int} {x : Int32} (hd : decode Y.2.1 pc = .ok (.sipush q, 3)) (hn : pc + 3 = n) (hx : (Int16.ofInt q).toInt32 = x) (kk : V G Y R Qf n L (.int x :: st) μ cells slots) : V G Y R Qf pc L (st) μ cells slots := by
  subst hn; intro p l e s m args below meth c C H locs ls hW hS hl
  exact lv_sipush C.1 C.2.1 hd hx (kk p l e s m args below meth c C H locs ls hW hS hl)
theorem v_iload_n {k : Fin 4} {x : Int32} (hd : decode Y.2.1 pc = .ok (.iload_n k, 1)) (hn : pc + 1 = n) (hg : lget L k = some (.int x)) (kk : V G Y R Qf n L (.int x :: st) μ cells slots) : V G Y R Qf pc L (st) μ cells slots := by
  subst hn; intro p l e s m args below meth c C H locs ls hW hS hl
  exact lv_iload_n C.1 C.2.1 hd rfl (lv_lget hl hg) (kk p l e s m args below meth c C H locs ls hW hS hl)
theorem v_iload {k : Nat} {x : Int32} (hd : decode Y.2.1 pc = .ok (.iload k, 2)) (hn : pc + 2 = n) (hg : lget L k = some (.int x)) (kk : V G Y R Qf n L (.int x :: st) μ cells slots) : V G Y R Qf pc L (st) μ cells slots := by
  subst hn; intro p l e s m args below meth c C H locs ls hW hS hl
  exact lv_iload C.1 C.2.1 hd (lv_lget hl hg) (kk p l e s m args below meth c C H locs ls hW hS hl)
theorem v_aload_n {k : Fin 4} {x : Nat} (hd : decode Y.2.1 pc = .ok (.aload_n k, 1)) (hn : pc + 1 = n) (hg : lget L k = some (.ref x)) (kk : V G Y R Qf n L (.ref x :: st) μ cells slots) : V G Y R Qf pc L (st) μ cells slots := by
  subst hn; intro p l e s m args below meth c C H locs ls hW hS hl
  exact lv_aload_n C.1 C.2.1 hd rfl (lv_lget hl hg) (kk p l e s m args below meth c C H locs ls hW hS hl)
theorem v_aload {k : Nat} {x : Nat} (hd : decode Y.2.1 pc = .ok (.aload k, 2)) (hn : pc + 2 = n) (hg : lget L k = some (.ref x)) (kk : V G Y R Qf n L (.ref x :: st) μ cells slots) : V G Y R Qf pc L (st) μ cells slots := by
  subst hn; intro p l e s m args below meth c C H locs ls hW hS hl
  exact lv_aload C.1 C.2.1 hd (lv_lget hl hg) (kk p l e s m args below meth c C H locs ls hW hS hl)
theorem v_aload_nN {k : Fin 4} (hd : decode Y.2.1 pc = .ok (.aload_n k, 1)) (hn : pc + 1 = n) (hg : lget L k = some .null) (kk : V G Y R Qf n L (.null :: st) μ cells slots) : V G Y R Qf pc L (st) μ cells slots := by
  subst hn; intro p l e s m args below meth c C H locs ls hW hS hl
  exact lv_aload_nN C.1 C.2.1 hd rfl (lv_lget hl hg) (kk p l e s m args below meth c C H locs ls hW hS hl)
theorem v_aloadN {k : Nat} (hd : decode Y.2.1 pc = .ok (.aload k, 2)) (hn : pc + 2 = n) (hg : lget L k = some .null) (kk : V G Y R Qf n L (.null :: st) μ cells slots) : V G Y R Qf pc L (st) μ cells slots := by
  subst hn; intro p l e s m args below meth c C H locs ls hW hS hl
  exact lv_aloadN C.1 C.2.1 hd (lv_lget hl hg) (kk p l e s m args below meth c C H locs ls hW hS hl)
theorem v_dload {k : Nat} {x : UInt64} (hd : decode Y.2.1 pc = .ok (.dload k, 2)) (hn : pc + 2 = n) (hg : lget L k = some (.double x)) (kk : V G Y R Qf n L (.double x :: st) μ cells slots) : V G Y R Qf pc L (st) μ cells slots := by
  subst hn; intro p l e s m args below meth c C H locs ls hW hS hl
  exact lv_dload C.1 C.2.1 hd (lv_lget hl hg) (kk p l e s m args below meth c C H locs ls hW hS hl)
theorem v_null (hd : decode Y.2.1 pc = .ok (.aconst_null, 1)) (hn : pc + 1 = n) (kk : V G Y R Qf n L (.null :: st) μ cells slots) : V G Y R Qf pc L (st) μ cells slots := by
  subst hn; intro p l e s m args below meth c C H locs ls hW hS hl
  exact lv_null C.1 C.2.1 hd (kk p l e s m args below meth c C H locs ls hW hS hl)
theorem v_istore_n {k : Fin 4} {x : Int32} (hd : decode Y.2.1 pc = .ok (.istore_n k, 1)) (hn : pc + 1 = n) (hk : k < Y.2.2.1) (hL : lset L k (.int x) = L') (kk : V G Y R Qf n L' (st) μ cells slots) : V G Y R Qf pc L (.int x :: st) μ cells slots := by
  subst hn; subst hL; intro p l e s m args below meth c C H locs ls hW hS hl
  exact lv_istore_n C.1 C.2.1 hd rfl hl hk rfl (fun ls hl => kk p l e s m args below meth c C H locs ls hW hS (lv_lset hl))
theorem v_istore {k : Nat} {x : Int32} (hd : decode Y.2.1 pc = .ok (.istore k, 2)) (hn : pc + 2 = n) (hk : k < Y.2.2.1) (hL : lset L k (.int x) = L') (kk : V G Y R Qf n L' (st) μ cells slots) : V G Y R Qf pc L (.int x :: st) μ cells slots := by
  subst hn; subst hL; intro p l e s m args below meth c C H locs ls hW hS hl
  exact lv_istore C.1 C.2.1 hd hl hk rfl (fun ls hl => kk p l e s m args below meth c C H locs ls hW hS (lv_lset hl))
theorem v_astore_n {k : Fin 4} {x : Nat} (hd : decode Y.2.1 pc = .ok (.astore_n k, 1)) (hn : pc + 1 = n) (hk : k < Y.2.2.1) (hL : lset L k (.ref x) = L') (kk : V G Y R Qf n L' (st) μ cells slots) : V G Y R Qf pc L (.ref x :: st) μ cells slots := by
  subst hn; subst hL; intro p l e s m args below meth c C H locs ls hW hS hl
  exact lv_astore_n C.1 C.2.1 hd rfl hl hk rfl (fun ls hl => kk p l e s m args below meth c C H locs ls hW hS (lv_lset hl))
theorem v_astore {k : Nat} {x : Nat} (hd : decode Y.2.1 pc = .ok (.astore k, 2)) (hn : pc + 2 = n) (hk : k < Y.2.2.1) (hL : lset L k (.ref x) = L') (kk : V G Y R Qf n L' (st) μ cells slots) : V G Y R Qf pc L (.ref x :: st) μ cells slots := by
  subst hn; subst hL; intro p l e s m args below meth c C H locs ls hW hS hl
  exact lv_astore C.1 C.2.1 hd hl hk rfl (fun ls hl => kk p l e s m args below meth c C H locs ls hW hS (lv_lset hl))
theorem v_astore_nN {k : Fin 4} (hd : decode Y.2.1 pc = .ok (.astore_n k, 1)) (hn : pc + 1 = n) (hk : k < Y.2.2.1) (hL : lset L k (.null) = L') (kk : V G Y R Qf n L' (st) μ cells slots) : V G Y R Qf pc L (.null :: st) μ cells slots := by
  subst hn; subst hL; intro p l e s m args below meth c C H locs ls hW hS hl
  exact lv_astore_nN C.1 C.2.1 hd rfl hl hk rfl (fun ls hl => kk p l e s m args below meth c C H locs ls hW hS (lv_lset hl))
theorem v_astoreN {k : Nat} (hd : decode Y.2.1 pc = .ok (.astore k, 2)) (hn : pc + 2 = n) (hk : k < Y.2.2.1) (hL : lset L k (.null) = L') (kk : V G Y R Qf n L' (st) μ cells slots) : V G Y R Qf pc L (.null :: st) μ cells slots := by
  subst hn; subst hL; intro p l e s m args below meth c C H locs ls hW hS hl
  exact lv_astoreN C.1 C.2.1 hd hl hk rfl (fun ls hl => kk p l e s m args below meth c C H locs ls hW hS (lv_lset hl))
theorem v_dstore {k : Nat} {x : UInt64} (hd : decode Y.2.1 pc = .ok (.dstore k, 2)) (hn : pc + 2 = n) (hk : k + 1 < Y.2.2.1) (hL : lsetD L k (.double x) = L') (kk : V G Y R Qf n L' (st) μ cells slots) : V G Y R Qf pc L (.double x :: st) μ cells slots := by
  subst hn; subst hL; intro p l e s m args below meth c C H locs ls hW hS hl
  exact lv_dstore C.1 C.2.1 hd hl hk rfl (fun ls hl => kk p l e s m args below meth c C H locs ls hW hS (lv_lsetD hl))
theorem v_iinc {k : Nat} {q : Int} {x y : Int32} (hd : decode Y.2.1 pc = .ok (.iinc k q, 3)) (hn : pc + 3 = n) (hg : lget L k = some (.int x)) (hy : x + Int32.ofInt q = y) (hk : k < Y.2.2.1) (hL : lset L k (.int y) = L') (kk : V G Y R Qf n L' (st) μ cells slots) : V G Y R Qf pc L (st) μ cells slots := by
  subst hn; subst hL; intro p l e s m args below meth c C H locs ls hW hS hl
  obtain ⟨j, hj⟩ := List.getElem?_of_mem (lget_mem hg)
  exact lv_iinc C.1 C.2.1 hd hl hj hy hk rfl (fun ls hl => kk p l e s m args below meth c C H locs ls hW hS (lv_lset hl))
theorem v_iadd {x y : Int32} (hd : decode Y.2.1 pc = .ok (.iadd, 1)) (hn : pc + 1 = n) (kk : V G Y R Qf n L (.int (x + y) :: st) μ cells slots) : V G Y R Qf pc L (.int y :: .int x :: st) μ cells slots := by
  subst hn; intro p l e s m args below meth c C H locs ls hW hS hl
  exact lv_iadd C.1 C.2.1 hd (kk p l e s m args below meth c C H locs ls hW hS hl)
theorem v_isub {x y : Int32} (hd : decode Y.2.1 pc = .ok (.isub, 1)) (hn : pc + 1 = n) (kk : V G Y R Qf n L (.int (x - y) :: st) μ cells slots) : V G Y R Qf pc L (.int y :: .int x :: st) μ cells slots := by
  subst hn; intro p l e s m args below meth c C H locs ls hW hS hl
  exact lv_isub C.1 C.2.1 hd (kk p l e s m args below meth c C H locs ls hW hS hl)
theorem v_imul {x y : Int32} (hd : decode Y.2.1 pc = .ok (.imul, 1)) (hn : pc + 1 = n) (kk : V G Y R Qf n L (.int (x * y) :: st) μ cells slots) : V G Y R Qf pc L (.int y :: .int x :: st) μ cells slots := by
  subst hn; intro p l e s m args below meth c C H locs ls hW hS hl
  exact lv_imul C.1 C.2.1 hd (kk p l e s m args below meth c C H locs ls hW hS hl)
theorem v_iand {x y : Int32} (hd : decode Y.2.1 pc = .ok (.iand, 1)) (hn : pc + 1 = n) (kk : V G Y R Qf n L (.int (x &&& y) :: st) μ cells slots) : V G Y R Qf pc L (.int y :: .int x :: st) μ cells slots := by
  subst hn; intro p l e s m args below meth c C H locs ls hW hS hl
  exact lv_iand C.1 C.2.1 hd (kk p l e s m args below meth c C H locs ls hW hS hl)
theorem v_ior {x y : Int32} (hd : decode Y.2.1 pc = .ok (.ior, 1)) (hn : pc + 1 = n) (kk : V G Y R Qf n L (.int (x ||| y) :: st) μ cells slots) : V G Y R Qf pc L (.int y :: .int x :: st) μ cells slots := by
  subst hn; intro p l e s m args below meth c C H locs ls hW hS hl
  exact lv_ior C.1 C.2.1 hd (kk p l e s m args below meth c C H locs ls hW hS hl)
theorem v_ixor {x y : Int32} (hd : decode Y.2.1 pc = .ok (.ixor, 1)) (hn : pc + 1 = n) (kk : V G Y R Qf n L (.int (x ^^^ y) :: st) μ cells slots) : V G Y R Qf pc L (.int y :: .int x :: st) μ cells slots := by
  subst hn; intro p l e s m args below meth c C H locs ls hW hS hl
  exact lv_ixor C.1 C.2.1 hd (kk p l e s m args below meth c C H locs ls hW hS hl)
theorem v_ishl {x y : Int32} (hd : decode Y.2.1 pc = .ok (.ishl, 1)) (hn : pc + 1 = n) (kk : V G Y R Qf n L (.int (x <<< (y &&& 31)) :: st) μ cells slots) : V G Y R Qf pc L (.int y :: .int x :: st) μ cells slots := by
  subst hn; intro p l e s m args below meth c C H locs ls hW hS hl
  exact lv_ishl C.1 C.2.1 hd (kk p l e s m args below meth c C H locs ls hW hS hl)
theorem v_ishr {x y : Int32} (hd : decode Y.2.1 pc = .ok (.ishr, 1)) (hn : pc + 1 = n) (kk : V G Y R Qf n L (.int (x >>> (y &&& 31)) :: st) μ cells slots) : V G Y R Qf pc L (.int y :: .int x :: st) μ cells slots := by
  subst hn; intro p l e s m args below meth c C H locs ls hW hS hl
  exact lv_ishr C.1 C.2.1 hd (kk p l e s m args below meth c C H locs ls hW hS hl)
theorem v_idiv {x y : Int32} (hd : decode Y.2.1 pc = .ok (.idiv, 1)) (hn : pc + 1 = n) (hne : ¬ y = 0) (kk : V G Y R Qf n L (.int (x / y) :: st) μ cells slots) : V G Y R Qf pc L (.int y :: .int x :: st) μ cells slots := by
  subst hn; intro p l e s m args below meth c C H locs ls hW hS hl
  exact lv_idiv C.1 C.2.1 hd hne (kk p l e s m args below meth c C H locs ls hW hS hl)
theorem v_irem {x y : Int32} (hd : decode Y.2.1 pc = .ok (.irem, 1)) (hn : pc + 1 = n) (hne : ¬ y = 0) (kk : V G Y R Qf n L (.int (x - x / y * y) :: st) μ cells slots) : V G Y R Qf pc L (.int y :: .int x :: st) μ cells slots := by
  subst hn; intro p l e s m args below meth c C H locs ls hW hS hl
  exact lv_irem C.1 C.2.1 hd hne (kk p l e s m args below meth c C H locs ls hW hS hl)
theorem v_ineg {x : Int32} (hd : decode Y.2.1 pc = .ok (.ineg, 1)) (hn : pc + 1 = n) (kk : V G Y R Qf n L (.int (-x) :: st) μ cells slots) : V G Y R Qf pc L (.int x :: st) μ cells slots := by
  subst hn; intro p l e s m args below meth c C H locs ls hW hS hl
  exact lv_ineg C.1 C.2.1 hd (kk p l e s m args below meth c C H locs ls hW hS hl)
theorem v_i2l {x : Int32} (hd : decode Y.2.1 pc = .ok (.i2l, 1)) (hn : pc + 1 = n) (kk : V G Y R Qf n L (.long x.toInt64 :: st) μ cells slots) : V G Y R Qf pc L (.int x :: st) μ cells slots := by
  subst hn; intro p l e s m args below meth c C H locs ls hW hS hl
  exact lv_i2l C.1 C.2.1 hd rfl (kk p l e s m args below meth c C H locs ls hW hS hl)
theorem v_i2d {x : Int32} (hd : decode Y.2.1 pc = .ok (.i2d, 1)) (hn : pc + 1 = n) (kk : V G Y R Qf n L (.double (FP.i2d x) :: st) μ cells slots) : V G Y R Qf pc L (.int x :: st) μ cells slots := by
  subst hn; intro p l e s m args below meth c C H locs ls hW hS hl
  exact lv_i2d C.1 C.2.1 hd (kk p l e s m args below meth c C H locs ls hW hS hl)
theorem v_i2c {x : Int32} (hd : decode Y.2.1 pc = .ok (.i2c, 1)) (hn : pc + 1 = n) (kk : V G Y R Qf n L (.int (x.toUInt32 % 65536).toInt32 :: st) μ cells slots) : V G Y R Qf pc L (.int x :: st) μ cells slots := by
  subst hn; intro p l e s m args below meth c C H locs ls hW hS hl
  exact lv_i2c C.1 C.2.1 hd rfl (kk p l e s m args below meth c C H locs ls hW hS hl)
theorem v_ddiv {x y : UInt64} (hd : decode Y.2.1 pc = .ok (.ddiv, 1)) (hn : pc + 1 = n) (hne : vf_n64 (FP.ddiv x y)) (kk : V G Y R Qf n L (.double (FP.ddiv x y) :: st) μ cells slots) : V G Y R Qf pc L (.double y :: .double x :: st) μ cells slots := by
  subst hn; intro p l e s m args below meth c C H locs ls hW hS hl
  exact lv_ddiv C.1 C.2.1 hd hne (kk p l e s m args below meth c C H locs ls hW hS hl)
theorem v_dcmp {x y : UInt64} {op : CmpOp} (hd : decode Y.2.1 pc = .ok (.dcmp op, 1)) (hn : pc + 1 = n) (kk : V G Y R Qf n L (.int (Op.cmpValue (FP.dcmp x y) op) :: st) μ cells slots) : V G Y R Qf pc L (.double y :: .double x :: st) μ cells slots := by
  subst hn; intro p l e s m args below meth c C H locs ls hW hS hl
  exact lv_dcmp C.1 C.2.1 hd (kk p l e s m args below meth c C H locs ls hW hS hl)
theorem v_dconst0 (hd : decode Y.2.1 pc = .ok (.dconst 0, 1)) (hn : pc + 1 = n) (kk : V G Y R Qf n L (.double FP.dconst0 :: st) μ cells slots) : V G Y R Qf pc L (st) μ cells slots := by
  subst hn; intro p l e s m args below meth c C H locs ls hW hS hl
  exact lv_dconst0 C.1 C.2.1 hd (kk p l e s m args below meth c C H locs ls hW hS hl)
theorem v_lcmp {x y : Int64} (hd : decode Y.2.1 pc = .ok (.lcmp, 1)) (hn : pc + 1 = n) (kk : V G Y R Qf n L (.int (lg_cmp x y) :: st) μ cells slots) : V G Y R Qf pc L (.long y :: .long x :: st) μ cells slots := by
  subst hn; intro p l e s m args below meth c C H locs ls hW hS hl
  exact W.lcmp C.1 C.2.1 hd (kk p l e s m args below meth c C H locs ls hW hS hl)
theorem v_dup {x : Value} (hd : decode Y.2.1 pc = .ok (.dup, 1)) (hn : pc + 1 = n) (h1 : x.category = 1) (kk : V G Y R Qf n L (x :: x :: st) μ cells slots) : V G Y R Qf pc L (x :: st) μ cells slots := by
  subst hn; intro p l e s m args below meth c C H locs ls hW hS hl
  exact lv_dup C.1 C.2.1 hd h1 (kk p l e s m args below meth c C H locs ls hW hS hl)
theorem v_dup2 {x y : Value} (hd : decode Y.2.1 pc = .ok (.dup2, 1)) (hn : pc + 1 = n) (h1 : x.category = 1) (h2 : y.category = 1) (kk : V G Y R Qf n L (x :: y :: x :: y :: st) μ cells slots) : V G Y R Qf pc L (x :: y :: st) μ cells slots := by
  subst hn; intro p l e s m args below meth c C H locs ls hW hS hl
  exact lv_dup2_11 C.1 C.2.1 hd h1 h2 (kk p l e s m args below meth c C H locs ls hW hS hl)
theorem v_pop {x : Value} (hd : decode Y.2.1 pc = .ok (.pop, 1)) (hn : pc + 1 = n) (h1 : x.category = 1) (kk : V G Y R Qf n L (st) μ cells slots) : V G Y R Qf pc L (x :: st) μ cells slots := by
  subst hn; intro p l e s m args below meth c C H locs ls hW hS hl
  exact lv_pop C.1 C.2.1 hd h1 (kk p l e s m args below meth c C H locs ls hW hS hl)
theorem v_goto {off : Int} (hd : decode Y.2.1 pc = .ok (.goto off, 3)) (ht : (pc : Int) + off = (n : Int)) (kk : V G Y R Qf n L (st) μ cells slots) : V G Y R Qf pc L (st) μ cells slots := by
  intro p l e s m args below meth c C H locs ls hW hS hl
  exact lv_goto C.1 C.2.1 hd ht (kk p l e s m args below meth c C H locs ls hW hS hl)
theorem v_icmp_ge {x y : Int32} {off : Int} {t : Nat} (hd : decode Y.2.1 pc = .ok (.if_icmp .ge off, 3)) (hn : pc + 3 = n) (ht : (pc : Int) + off = (t : Int)) (kt : y ≤ x → V G Y R Qf t L (st) μ cells slots) (kf : ¬ y ≤ x → V G Y R Qf n L (st) μ cells slots) : V G Y R Qf pc L (.int y :: .int x :: st) μ cells slots := by
  subst hn; intro p l e s m args below meth c C H locs ls hW hS hl
  exact lv_icmp_ge C.1 C.2.1 hd ht (fun h => kt h p l e s m args below meth c C H locs ls hW hS hl) (fun h => kf h p l e s m args below meth c C H locs ls hW hS hl)
theorem v_icmp_lt {x y : Int32} {off : Int} {t : Nat} (hd : decode Y.2.1 pc = .ok (.if_icmp .lt off, 3)) (hn : pc + 3 = n) (ht : (pc : Int) + off = (t : Int)) (kt : x < y → V G Y R Qf t L (st) μ cells slots) (kf : ¬ x < y → V G Y R Qf n L (st) μ cells slots) : V G Y R Qf pc L (.int y :: .int x :: st) μ cells slots := by
  subst hn; intro p l e s m args below meth c C H locs ls hW hS hl
  exact lv_icmp_lt C.1 C.2.1 hd ht (fun h => kt h p l e s m args below meth c C H locs ls hW hS hl) (fun h => kf h p l e s m args below meth c C H locs ls hW hS hl)
theorem v_icmp_le {x y : Int32} {off : Int} {t : Nat} (hd : decode Y.2.1 pc = .ok (.if_icmp .le off, 3)) (hn : pc + 3 = n) (ht : (pc : Int) + off = (t : Int)) (kt : x ≤ y → V G Y R Qf t L (st) μ cells slots) (kf : ¬ x ≤ y → V G Y R Qf n L (st) μ cells slots) : V G Y R Qf pc L (.int y :: .int x :: st) μ cells slots := by
  subst hn; intro p l e s m args below meth c C H locs ls hW hS hl
  exact lv_icmp_le C.1 C.2.1 hd ht (fun h => kt h p l e s m args below meth c C H locs ls hW hS hl) (fun h => kf h p l e s m args below meth c C H locs ls hW hS hl)
theorem v_icmp_gt {x y : Int32} {off : Int} {t : Nat} (hd : decode Y.2.1 pc = .ok (.if_icmp .gt off, 3)) (hn : pc + 3 = n) (ht : (pc : Int) + off = (t : Int)) (kt : y < x → V G Y R Qf t L (st) μ cells slots) (kf : ¬ y < x → V G Y R Qf n L (st) μ cells slots) : V G Y R Qf pc L (.int y :: .int x :: st) μ cells slots := by
  subst hn; intro p l e s m args below meth c C H locs ls hW hS hl
  exact lv_icmp_gt C.1 C.2.1 hd ht (fun h => kt h p l e s m args below meth c C H locs ls hW hS hl) (fun h => kf h p l e s m args below meth c C H locs ls hW hS hl)
theorem v_icmp_eq {x y : Int32} {off : Int} {t : Nat} (hd : decode Y.2.1 pc = .ok (.if_icmp .eq off, 3)) (hn : pc + 3 = n) (ht : (pc : Int) + off = (t : Int)) (kt : x = y → V G Y R Qf t L (st) μ cells slots) (kf : ¬ x = y → V G Y R Qf n L (st) μ cells slots) : V G Y R Qf pc L (.int y :: .int x :: st) μ cells slots := by
  subst hn; intro p l e s m args below meth c C H locs ls hW hS hl
  exact lv_icmp_eq C.1 C.2.1 hd ht (fun h => kt h p l e s m args below meth c C H locs ls hW hS hl) (fun h => kf h p l e s m args below meth c C H locs ls hW hS hl)
theorem v_icmp_ne {x y : Int32} {off : Int} {t : Nat} (hd : decode Y.2.1 pc = .ok (.if_icmp .ne off, 3)) (hn : pc + 3 = n) (ht : (pc : Int) + off = (t : Int)) (kt : ¬ x = y → V G Y R Qf t L (st) μ cells slots) (kf : x = y → V G Y R Qf n L (st) μ cells slots) : V G Y R Qf pc L (.int y :: .int x :: st) μ cells slots := by
  subst hn; intro p l e s m args below meth c C H locs ls hW hS hl
  exact lv_icmp_ne C.1 C.2.1 hd ht (fun h => kt h p l e s m args below meth c C H locs ls hW hS hl) (fun h => kf h p l e s m args below meth c C H locs ls hW hS hl)
theorem v_if_ge {x : Int32} {off : Int} {t : Nat} (hd : decode Y.2.1 pc = .ok (.ifCond .ge off, 3)) (hn : pc + 3 = n) (ht : (pc : Int) + off = (t : Int)) (kt : 0 ≤ x → V G Y R Qf t L (st) μ cells slots) (kf : ¬ 0 ≤ x → V G Y R Qf n L (st) μ cells slots) : V G Y R Qf pc L (.int x :: st) μ cells slots := by
  subst hn; intro p l e s m args below meth c C H locs ls hW hS hl
  exact lv_if_ge C.1 C.2.1 hd ht (fun h => kt h p l e s m args below meth c C H locs ls hW hS hl) (fun h => kf h p l e s m args below meth c C H locs ls hW hS hl)
theorem v_if_lt {x : Int32} {off : Int} {t : Nat} (hd : decode Y.2.1 pc = .ok (.ifCond .lt off, 3)) (hn : pc + 3 = n) (ht : (pc : Int) + off = (t : Int)) (kt : x < 0 → V G Y R Qf t L (st) μ cells slots) (kf : ¬ x < 0 → V G Y R Qf n L (st) μ cells slots) : V G Y R Qf pc L (.int x :: st) μ cells slots := by
  subst hn; intro p l e s m args below meth c C H locs ls hW hS hl
  exact lv_if_lt C.1 C.2.1 hd ht (fun h => kt h p l e s m args below meth c C H locs ls hW hS hl) (fun h => kf h p l e s m args below meth c C H locs ls hW hS hl)
theorem v_if_le {x : Int32} {off : Int} {t : Nat} (hd : decode Y.2.1 pc = .ok (.ifCond .le off, 3)) (hn : pc + 3 = n) (ht : (pc : Int) + off = (t : Int)) (kt : x ≤ 0 → V G Y R Qf t L (st) μ cells slots) (kf : ¬ x ≤ 0 → V G Y R Qf n L (st) μ cells slots) : V G Y R Qf pc L (.int x :: st) μ cells slots := by
  subst hn; intro p l e s m args below meth c C H locs ls hW hS hl
  exact lv_if_le C.1 C.2.1 hd ht (fun h => kt h p l e s m args below meth c C H locs ls hW hS hl) (fun h => kf h p l e s m args below meth c C H locs ls hW hS hl)
theorem v_if_gt {x : Int32} {off : Int} {t : Nat} (hd : decode Y.2.1 pc = .ok (.ifCond .gt off, 3)) (hn : pc + 3 = n) (ht : (pc : Int) + off = (t : Int)) (kt : 0 < x → V G Y R Qf t L (st) μ cells slots) (kf : ¬ 0 < x → V G Y R Qf n L (st) μ cells slots) : V G Y R Qf pc L (.int x :: st) μ cells slots := by
  subst hn; intro p l e s m args below meth c C H locs ls hW hS hl
  exact lv_if_gt C.1 C.2.1 hd ht (fun h => kt h p l e s m args below meth c C H locs ls hW hS hl) (fun h => kf h p l e s m args below meth c C H locs ls hW hS hl)
theorem v_if_eq {x : Int32} {off : Int} {t : Nat} (hd : decode Y.2.1 pc = .ok (.ifCond .eq off, 3)) (hn : pc + 3 = n) (ht : (pc : Int) + off = (t : Int)) (kt : x = 0 → V G Y R Qf t L (st) μ cells slots) (kf : ¬ x = 0 → V G Y R Qf n L (st) μ cells slots) : V G Y R Qf pc L (.int x :: st) μ cells slots := by
  subst hn; intro p l e s m args below meth c C H locs ls hW hS hl
  exact lv_if_eq C.1 C.2.1 hd ht (fun h => kt h p l e s m args below meth c C H locs ls hW hS hl) (fun h => kf h p l e s m args below meth c C H locs ls hW hS hl)
theorem v_if_ne {x : Int32} {off : Int} {t : Nat} (hd : decode Y.2.1 pc = .ok (.ifCond .ne off, 3)) (hn : pc + 3 = n) (ht : (pc : Int) + off = (t : Int)) (kt : ¬ x = 0 → V G Y R Qf t L (st) μ cells slots) (kf : x = 0 → V G Y R Qf n L (st) μ cells slots) : V G Y R Qf pc L (.int x :: st) μ cells slots := by
  subst hn; intro p l e s m args below meth c C H locs ls hW hS hl
  exact lv_if_ne C.1 C.2.1 hd ht (fun h => kt h p l e s m args below meth c C H locs ls hW hS hl) (fun h => kf h p l e s m args below meth c C H locs ls hW hS hl)
theorem v_ifnonnull {x : Nat} {off : Int} (hd : decode Y.2.1 pc = .ok (.ifnonnull off, 3)) (ht : (pc : Int) + off = (n : Int)) (kk : V G Y R Qf n L (st) μ cells slots) : V G Y R Qf pc L (.ref x :: st) μ cells slots := by
  intro p l e s m args below meth c C H locs ls hW hS hl
  exact lv_ifnonnull C.1 C.2.1 hd ht (kk p l e s m args below meth c C H locs ls hW hS hl)
theorem v_ifnonnullN {off : Int} (hd : decode Y.2.1 pc = .ok (.ifnonnull off, 3)) (hn : pc + 3 = n) (kk : V G Y R Qf n L (st) μ cells slots) : V G Y R Qf pc L (.null :: st) μ cells slots := by
  subst hn; intro p l e s m args below meth c C H locs ls hW hS hl
  exact lv_ifnonnullN C.1 C.2.1 hd (kk p l e s m args below meth c C H locs ls hW hS hl)
theorem v_ifnull {x : Nat} {off : Int} (hd : decode Y.2.1 pc = .ok (.ifnull off, 3)) (hn : pc + 3 = n) (kk : V G Y R Qf n L (st) μ cells slots) : V G Y R Qf pc L (.ref x :: st) μ cells slots := by
  subst hn; intro p l e s m args below meth c C H locs ls hW hS hl
  exact lv_ifnull C.1 C.2.1 hd (kk p l e s m args below meth c C H locs ls hW hS hl)
theorem v_ifnullN {off : Int} (hd : decode Y.2.1 pc = .ok (.ifnull off, 3)) (ht : (pc : Int) + off = (n : Int)) (kk : V G Y R Qf n L (st) μ cells slots) : V G Y R Qf pc L (.null :: st) μ cells slots := by
  intro p l e s m args below meth c C H locs ls hW hS hl
  exact lv_ifnullN C.1 C.2.1 hd ht (kk p l e s m args below meth c C H locs ls hW hS hl)
theorem v_ldc {index : Nat} {x : Int32} (hd : decode Y.2.1 pc = .ok (.ldc index, 2)) (hn : pc + 2 = n) (hc : Cond.constant Y.1.cls index x ∈ GW) (kk : V G Y R Qf n L (.int x :: st) μ cells slots) : V G Y R Qf pc L (st) μ cells slots := by
  subst hn; intro p l e s m args below meth c C H locs ls hW hS hl
  exact lv_ldc C.1 C.2.1 C.2.2.2.2.1 (C.2.2.2.2.2.2.1 _ hc) hd (kk p l e s m args below meth c C H locs ls hW hS hl)
theorem v_tableIn {dflt lo hi : Int} {offs : Array Int} {len : Nat} {x : Int32} {off : Int} (hd : decode Y.2.1 pc = .ok (.tableswitch dflt lo hi offs, len)) (h1 : ¬ x.toInt < lo) (h2 : ¬ hi < x.toInt) (ho : offs[(x.toInt - lo).toNat]? = some off) (ht : (pc : Int) + off = (n : Int)) (kk : V G Y R Qf n L (st) μ cells slots) : V G Y R Qf pc L (.int x :: st) μ cells slots := by
  intro p l e s m args below meth c C H locs ls hW hS hl
  exact lv_tableIn C.1 C.2.1 hd h1 h2 ho ht (kk p l e s m args below meth c C H locs ls hW hS hl)
theorem v_tableOut {dflt lo hi : Int} {offs : Array Int} {len : Nat} {x : Int32} (hd : decode Y.2.1 pc = .ok (.tableswitch dflt lo hi offs, len)) (h : x.toInt < lo ∨ hi < x.toInt) (ht : (pc : Int) + dflt = (n : Int)) (kk : V G Y R Qf n L (st) μ cells slots) : V G Y R Qf pc L (.int x :: st) μ cells slots := by
  intro p l e s m args below meth c C H locs ls hW hS hl
  exact lv_tableOut C.1 C.2.1 hd h ht (kk p l e s m args below meth c C H locs ls hW hS hl)
theorem v_lookup {dflt : Int} {ps : Array (Int × Int)} {len : Nat} {x : Int32} {off : Int} (hd : decode Y.2.1 pc = .ok (.lookupswitch dflt ps, len)) (hp : (ps.toList.zip (ps.toList.drop 1)).all (fun (a, next) => a.1 < next.1) = true) (ho : Op.lookupswitch.offset ps.toList dflt x.toInt = off) (ht : (pc : Int) + off = (n : Int)) (kk : V G Y R Qf n L (st) μ cells slots) : V G Y R Qf pc L (.int x :: st) μ cells slots := by
  intro p l e s m args below meth c C H locs ls hW hS hl
  exact lv_lookup C.1 C.2.1 hd hp ho ht (kk p l e s m args below meth c C H locs ls hW hS hl)
/-- a computed number by another of its names -/
theorem v_top {x y : Int32} (hx : x = y) (kk : V G Y R Qf pc L (.int y :: st) μ cells slots) : V G Y R Qf pc L (.int x :: st) μ cells slots := hx ▸ kk
theorem v_wide {a b : Nat} (h1 : cells ≤ a) (h2 : slots ≤ b) (kk : V G Y R Qf pc L st μ a b) : V G Y R Qf pc L (st) μ cells slots := fun p l e s m args below meth c C H locs ls hW hS hl => W.widen h1 h2 (kk p l e s m args below meth c C H locs ls hW hS hl)
theorem v_less (hL : ∀ q ∈ L', q ∈ L) (kk : V G Y R Qf pc L' (st) μ cells slots) : V G Y R Qf pc L (st) μ cells slots := fun p l e s m args below meth c C H locs ls hW hS hl => kk p l e s m args below meth c C H locs ls hW hS (lv_less hl hL)
/-- a field's place in the pool of a class: kind, slot -/
def FL (own : String) (index k s : Nat) : Prop := k < 20 ∧ ∃ (C : String) (T : u_T) (N : Nat) (ty : Nat → FieldType), vwCl[k]? = some (C, T, N) ∧ s < N ∧ (∀ w ∈ u_ws C T N, w ∈ GW) ∧ (∀ j, j < N → parseFieldDescriptor (T j).2.2.1 = some (ty j)) ∧ (∀ a, a < N → ∀ b, b < N → a ≠ b → (T a).2.1 ≠ (T b).2.1) ∧ (T s).1 = C ∧ Cond.fieldLink own index C (T s).2.1 (T s).2.2.1 ∈ GW
def FLw (own : String) (index k s : Nat) (ft : FieldType) : Prop := k < 20 ∧ ∃ (C : String) (T : u_T) (N : Nat) (ty : Nat → FieldType), vwCl[k]? = some (C, T, N) ∧ s < N ∧ (∀ w ∈ u_ws C T N, w ∈ GW) ∧ (∀ j, j < N → parseFieldDescriptor (T j).2.2.1 = some (ty j)) ∧ (∀ a, a < N → ∀ b, b < N → a ≠ b → (T a).2.1 ≠ (T b).2.1) ∧ (T s).1 = C ∧ Cond.fieldLink own index C (T s).2.1 (T s).2.2.1 ∈ GW ∧ (T s).2.2.2 = false ∧ ty s = ft
theorem v_getf {index k b i s : Nat} {v : Value} (hd : decode Y.2.1 pc = .ok (.getfield index, 3)) (hn : pc + 3 = n) (hf : FL Y.1.cls index k s) (ho : zok k b i) (hv : zvl G.1 μ k b i s = v) (kk : V G Y R Qf n L (v :: st) μ cells slots) : V G Y R Qf pc L (.ref (zad G.1 k b i) :: st) μ cells slots := by
  subst hn; intro p l e s_1 m args below meth c C H locs ls hW hS hl
  obtain ⟨hk20, C0, T, N, ty, hc, hs, hin, -, -, hT, hlink⟩ := hf
  have ha := hW k b i ho
  unfold zat at ha
  rw [if_pos hk20] at ha
  obtain ⟨r, h1, cell, q1, q2, q3, q4⟩ := ha
  have hr : r = (C0, T, N) := Option.some.inj (h1.symm.trans hc)
  subst hr
  have C1 := C
  obtain ⟨hx, hb, hrt, hml, hown, hlocks, hts, hK, -⟩ := C
  obtain ⟨hSl, hfc, kC, hkC, hkind⟩ := hK.1.1 k _ hc
  obtain ⟨cf, kf, fi, f, hi, hsl⟩ := hSl s hs
  have hi2 : s_1.fieldFound? C0 (T s).2.1 (T s).2.2.1 = some (cf, kf, fi, f) := by rw [← hT]; exact hi
  refine W.getf hx hb hown (hts _ hlink) hi2 (u_facts hfc hkC (u_lays hts hin hs) hi).1 q1 (by rw [q3]; exact fun h => by cases h) (v := v) ?_ rfl rfl hd (kk p l e s_1 m args below meth c C1 H locs ls hW hS hl)
  rw [hsl, q4 s hs, hv]
theorem Wd.put {H H' : Heap} {k b i s : Nat} {x : Int32} (hW : Wd G μ H) (ho : zok k b i) (h36 : k ≠ 36) (hq : ∀ q, q ≠ zad G.1 k b i → H'[q]? = H[q]?) (h : zat G (up μ k b i s x) k b i H') : Wd G (up μ k b i s x) H' := by
  intro k' b' i' ho'
  by_cases he : k' = k ∧ b' = b ∧ i' = i
  · obtain ⟨rfl, rfl, rfl⟩ := he
    exact h
  · have ha : zad G.1 k' b' i' ≠ zad G.1 k b i := fun z => he (zad_inj ho' ho z)
    have h2 := (hW k' b' i' ho').kept (hq _ ha)
    unfold zat at h2 ⊢
    have e : zvl G.1 (up μ k b i s x) k' b' i' = zvl G.1 μ k' b' i' := funext fun s' => zvl_up_ne he h36
    rw [e]
    exact h2
theorem v_putf {index k b i s : Nat} {x : Int32} {ft : FieldType} (hd : decode Y.2.1 pc = .ok (.putfield index, 3)) (hn : pc + 3 = n) (hf : FLw Y.1.cls index k s ft) (ho : zok k b i) (hv : ∀ μ' : St, zvl G.1 μ' k b i s = .int (μ' k b i s)) (hx : narrow ft (.int x) = .int x) (hx2 : fits ft (.int x) = true) (kk : V G Y R Qf n L st (up μ k b i s x) cells slots) : V G Y R Qf pc L (.int x :: .ref (zad G.1 k b i) :: st) μ cells slots := by
  subst hn; intro p l e s_1 m args below meth c C H locs ls hW hS hl
  obtain ⟨hk20, C0, T, N, ty, hc, hs, hin, hty, hnm, hT, hlink, hfin, hft⟩ := hf
  have ha := hW k b i ho
  unfold zat at ha
  rw [if_pos hk20] at ha
  obtain ⟨r, h1, cell, q1, q2, q3, q4⟩ := ha
  have hr : r = (C0, T, N) := Option.some.inj (h1.symm.trans hc)
  subst hr
  have C1 := C
  obtain ⟨hx0, hb, hrt, hml, hown, hlocks, hts, hK, -⟩ := C
  have hap := va_apart (own := Y.1.cls) hts hin ty hty hnm hK.1 hc
  obtain ⟨hSl, hfc, kC, hkC, hkind⟩ := hK.1.1 k _ hc
  obtain ⟨cf, kf, fi, f, hi, hsl⟩ := hSl s hs
  have hi2 : s_1.fieldFound? C0 (T s).2.1 (T s).2.2.1 = some (cf, kf, fi, f) := by rw [← hT]; exact hi
  have hlay := hts _ (hin _ (u_in_lay hs))
  unfold u_lay at hlay
  rw [if_neg (by rw [hfin]; decide)] at hlay
  have hst := (u_facts hfc hkC (u_lays hts hin hs) hi).1
  have h6 := u_store hfc hkC hkind hlay hi (by rw [hty s hs, hft]) hx hx2
  refine W.putK hx0 hb (f := f) ⟨hown, hts _ hlink, ⟨_, _, _, hi2⟩, hst⟩ (by rw [q2]; exact h6) q1 q3 (by rw [hsl]; exact k2_hasslot (q4 s hs)) rfl rfl hd fun H' e1 e2 e3 => ?_
  rw [hsl] at e1 ⊢
  refine kk p l e s_1 m args below meth c C1 H' _ ls (hW.put ho (by omega) e3 ?_) (hS.put e2 e3 (zad_ge _ _ _ _)) hl
  unfold zat
  rw [if_pos hk20]
  refine ⟨_, hc, t_OB.to (V := updV (zvl G.1 μ k b i) s (.int x)) ⟨_, e1, q2, q3, t_set q4 hap hs (.int x)⟩ (fun j hj => ?_)⟩
  by_cases hjs : j = s
  · subst hjs
    rw [hv, up_self]
    simp [updV]
  · rw [zvl_up_s hjs (by omega)]
    simp [updV, hjs]
theorem zln_le (k : Nat) : zln k ≤ 3000 := by
  unfold zln
  split <;> omega
theorem v_iald {k b i j : Nat} {x : Int32} {v : Value} (hd : decode Y.2.1 pc = .ok (.iaload, 1)) (hn : pc + 1 = n) (ho : zok k b i) (hk : 20 ≤ k) (hty : zty k = .int) (hx : x = nI j) (hj : j < zln k) (hv : zvl G.1 μ k b i j = v) (kk : V G Y R Qf n L (v :: st) μ cells slots) : V G Y R Qf pc L (.int x :: .ref (zad G.1 k b i) :: st) μ cells slots := by
  subst hn; subst hx; intro p l e s m args below meth c C H locs ls hW hS hl
  have ha := hW k b i ho
  unfold zat at ha
  rw [if_neg (by omega)] at ha
  have hj31 : j < 2 ^ 31 := by have := zln_le k; omega
  have hin : ¬ (nI j < 0 ∨ (arrV (G.2.2 k) (zln k) (zvl G.1 μ k b i)).slots.size ≤ (nI j).toNatClampNeg) := by
    rw [arrV_size, nI_clamp hj31]
    exact fun h => h.elim (nI_pos hj31) (fun h => by omega)
  have hA : ArrOfT s (G.2.2 k) (zty k) := C.2.2.2.2.2.2.2.1.2.1 k hk (zok_lt ho).1
  exact W.iald (v := v) C.1 C.2.1 ha (hty ▸ hA _ _) (fun q => by cases q) hin (by rw [nI_clamp hj31, arrV_read _ _ hj, hv]) rfl rfl hd (kk p l e s m args below meth c C H locs ls hW hS hl)
theorem v_cald {k b i j : Nat} {x : Int32} {v : Value} (hd : decode Y.2.1 pc = .ok (.caload, 1)) (hn : pc + 1 = n) (ho : zok k b i) (hk : 20 ≤ k) (hty : zty k = .char) (hx : x = nI j) (hj : j < zln k) (hv : zvl G.1 μ k b i j = v) (kk : V G Y R Qf n L (v :: st) μ cells slots) : V G Y R Qf pc L (.int x :: .ref (zad G.1 k b i) :: st) μ cells slots := by
  subst hn; subst hx; intro p l e s m args below meth c C H locs ls hW hS hl
  have ha := hW k b i ho
  unfold zat at ha
  rw [if_neg (by omega)] at ha
  have hj31 : j < 2 ^ 31 := by have := zln_le k; omega
  have hin : ¬ (nI j < 0 ∨ (arrV (G.2.2 k) (zln k) (zvl G.1 μ k b i)).slots.size ≤ (nI j).toNatClampNeg) := by
    rw [arrV_size, nI_clamp hj31]
    exact fun h => h.elim (nI_pos hj31) (fun h => by omega)
  have hA : ArrOfT s (G.2.2 k) (zty k) := C.2.2.2.2.2.2.2.1.2.1 k hk (zok_lt ho).1
  exact W.cald (v := v) C.1 C.2.1 ha (hty ▸ hA _ _) (fun q => by cases q) hin (by rw [nI_clamp hj31, arrV_read _ _ hj, hv]) rfl rfl hd (kk p l e s m args below meth c C H locs ls hW hS hl)
theorem v_aald {k b i j : Nat} {x : Int32} {v : Value} (hd : decode Y.2.1 pc = .ok (.aaload, 1)) (hn : pc + 1 = n) (ho : zok k b i) (hk : 20 ≤ k) (hty : (zty k).isReference = true) (hx : x = nI j) (hj : j < zln k) (hv : zvl G.1 μ k b i j = v) (kk : V G Y R Qf n L (v :: st) μ cells slots) : V G Y R Qf pc L (.int x :: .ref (zad G.1 k b i) :: st) μ cells slots := by
  subst hn; subst hx; intro p l e s m args below meth c C H locs ls hW hS hl
  have ha := hW k b i ho
  unfold zat at ha
  rw [if_neg (by omega)] at ha
  have hj31 : j < 2 ^ 31 := by have := zln_le k; omega
  have hin : ¬ (nI j < 0 ∨ (arrV (G.2.2 k) (zln k) (zvl G.1 μ k b i)).slots.size ≤ (nI j).toNatClampNeg) := by
    rw [arrV_size, nI_clamp hj31]
    exact fun h => h.elim (nI_pos hj31) (fun h => by omega)
  have hA : ArrOfT s (G.2.2 k) (zty k) := C.2.2.2.2.2.2.2.1.2.1 k hk (zok_lt ho).1
  exact W.aald (v := v) C.1 C.2.1 ha (hA _ _) hty (fun q => by cases q) hin (by rw [nI_clamp hj31, arrV_read _ _ hj, hv]) rfl rfl hd (kk p l e s m args below meth c C H locs ls hW hS hl)
theorem v_lald {k b i j : Nat} {x : Int32} {v : Value} (hd : decode Y.2.1 pc = .ok (.laload, 1)) (hn : pc + 1 = n) (ho : zok k b i) (hk : 20 ≤ k) (hty : zty k = .long) (hx : x = nI j) (hj : j < zln k) (hv : zvl G.1 μ k b i j = v) (kk : V G Y R Qf n L (v :: st) μ cells slots) : V G Y R Qf pc L (.int x :: .ref (zad G.1 k b i) :: st) μ cells slots := by
  subst hn; subst hx; intro p l e s m args below meth c C H locs ls hW hS hl
  have ha := hW k b i ho
  unfold zat at ha
  rw [if_neg (by omega)] at ha
  have hj31 : j < 2 ^ 31 := by have := zln_le k; omega
  have hin : ¬ (nI j < 0 ∨ (arrV (G.2.2 k) (zln k) (zvl G.1 μ k b i)).slots.size ≤ (nI j).toNatClampNeg) := by
    rw [arrV_size, nI_clamp hj31]
    exact fun h => h.elim (nI_pos hj31) (fun h => by omega)
  have hA : ArrOfT s (G.2.2 k) (zty k) := C.2.2.2.2.2.2.2.1.2.1 k hk (zok_lt ho).1
  exact W.lald (v := v) C.1 C.2.1 ha (hty ▸ hA _ _) (fun q => by cases q) hin (by rw [nI_clamp hj31, arrV_read _ _ hj, hv]) rfl rfl hd (kk p l e s m args below meth c C H locs ls hW hS hl)
theorem v_dald {k b i j : Nat} {x : Int32} {v : Value} (hd : decode Y.2.1 pc = .ok (.daload, 1)) (hn : pc + 1 = n) (ho : zok k b i) (hk : 20 ≤ k) (hty : zty k = .double) (hx : x = nI j) (hj : j < zln k) (hv : zvl G.1 μ k b i j = v) (kk : V G Y R Qf n L (v :: st) μ cells slots) : V G Y R Qf pc L (.int x :: .ref (zad G.1 k b i) :: st) μ cells slots := by
  subst hn; subst hx; intro p l e s m args below meth c C H locs ls hW hS hl
  have ha := hW k b i ho
  unfold zat at ha
  rw [if_neg (by omega)] at ha
  have hj31 : j < 2 ^ 31 := by have := zln_le k; omega
  have hin : ¬ (nI j < 0 ∨ (arrV (G.2.2 k) (zln k) (zvl G.1 μ k b i)).slots.size ≤ (nI j).toNatClampNeg) := by
    rw [arrV_size, nI_clamp hj31]
    exact fun h => h.elim (nI_pos hj31) (fun h => by omega)
  have hA : ArrOfT s (G.2.2 k) (zty k) := C.2.2.2.2.2.2.2.1.2.1 k hk (zok_lt ho).1
  exact W.dald (v := v) C.1 C.2.1 ha (hty ▸ hA _ _) (fun q => by cases q) hin (by rw [nI_clamp hj31, arrV_read _ _ hj, hv]) rfl rfl hd (kk p l e s m args below meth c C H locs ls hW hS hl)
theorem v_iast {k b i j : Nat} {x : Int32} {y : Int32} (hd : decode Y.2.1 pc = .ok (.iastore, 1)) (hn : pc + 1 = n) (ho : zok k b i) (hk : 20 ≤ k) (h36 : k ≠ 36) (hty : zty k = .int) (hx : x = nI j) (hj : j < zln k) (hv : ∀ μ' : St, zvl G.1 μ' k b i j = .int (μ' k b i j)) (kk : V G Y R Qf n L st (up μ k b i j y) cells slots) : V G Y R Qf pc L (.int y :: .int x :: .ref (zad G.1 k b i) :: st) μ cells slots := by
  subst hn; subst hx; intro p l e s m args below meth c C H locs ls hW hS hl
  have ha := hW k b i ho
  unfold zat at ha
  rw [if_neg (by omega)] at ha
  have hj31 : j < 2 ^ 31 := by have := zln_le k; omega
  have hin : ¬ (nI j < 0 ∨ (arrV (G.2.2 k) (zln k) (zvl G.1 μ k b i)).slots.size ≤ (nI j).toNatClampNeg) := by
    rw [arrV_size, nI_clamp hj31]
    exact fun h => h.elim (nI_pos hj31) (fun h => by omega)
  have hA : ArrOfT s (G.2.2 k) (zty k) := C.2.2.2.2.2.2.2.1.2.1 k hk (zok_lt ho).1
  refine W.iast C.1 C.2.1 ha (hty ▸ hA _ _) (fun q => by cases q) hin rfl rfl hd fun H' e1 e2 e3 => ?_
  skip
  refine kk p l e s m args below meth c C H' _ ls (hW.put ho h36 e3 ?_) (hS.put e2 e3 (zad_ge _ _ _ _)) hl
  unfold zat
  rw [if_neg (by omega), e1, nI_clamp hj31, arrV_store]
  congr 2
  funext q
  by_cases hq : q = j
  · subst hq
    rw [hv, up_self]
    simp [updV]
  · rw [zvl_up_s hq h36]
    simp [updV, hq]
theorem v_cast {k b i j : Nat} {x : Int32} {y : Int32} (hd : decode Y.2.1 pc = .ok (.castore, 1)) (hn : pc + 1 = n) (ho : zok k b i) (hk : 20 ≤ k) (h36 : k ≠ 36) (hty : zty k = .char) (hx : x = nI j) (hj : j < zln k) (hv : ∀ μ' : St, zvl G.1 μ' k b i j = .int (μ' k b i j)) (hna : narrow .char (.int y) = .int y) (kk : V G Y R Qf n L st (up μ k b i j y) cells slots) : V G Y R Qf pc L (.int y :: .int x :: .ref (zad G.1 k b i) :: st) μ cells slots := by
  subst hn; subst hx; intro p l e s m args below meth c C H locs ls hW hS hl
  have ha := hW k b i ho
  unfold zat at ha
  rw [if_neg (by omega)] at ha
  have hj31 : j < 2 ^ 31 := by have := zln_le k; omega
  have hin : ¬ (nI j < 0 ∨ (arrV (G.2.2 k) (zln k) (zvl G.1 μ k b i)).slots.size ≤ (nI j).toNatClampNeg) := by
    rw [arrV_size, nI_clamp hj31]
    exact fun h => h.elim (nI_pos hj31) (fun h => by omega)
  have hA : ArrOfT s (G.2.2 k) (zty k) := C.2.2.2.2.2.2.2.1.2.1 k hk (zok_lt ho).1
  refine W.cast C.1 C.2.1 ha (hty ▸ hA _ _) (fun q => by cases q) hin rfl rfl hd fun H' e1 e2 e3 => ?_
  rw [hna] at e1
  refine kk p l e s m args below meth c C H' _ ls (hW.put ho h36 e3 ?_) (hS.put e2 e3 (zad_ge _ _ _ _)) hl
  unfold zat
  rw [if_neg (by omega), e1, nI_clamp hj31, arrV_store]
  congr 2
  funext q
  by_cases hq : q = j
  · subst hq
    rw [hv, up_self]
    simp [updV]
  · rw [zvl_up_s hq h36]
    simp [updV, hq]
theorem v_last {k b i j : Nat} {x : Int32} {y : Int32} (hd : decode Y.2.1 pc = .ok (.lastore, 1)) (hn : pc + 1 = n) (ho : zok k b i) (hk : 20 ≤ k) (h36 : k ≠ 36) (hty : zty k = .long) (hx : x = nI j) (hj : j < zln k) (hv : ∀ μ' : St, zvl G.1 μ' k b i j = .long ((μ' k b i j)).toInt64) (kk : V G Y R Qf n L st (up μ k b i j y) cells slots) : V G Y R Qf pc L (.long y.toInt64 :: .int x :: .ref (zad G.1 k b i) :: st) μ cells slots := by
  subst hn; subst hx; intro p l e s m args below meth c C H locs ls hW hS hl
  have ha := hW k b i ho
  unfold zat at ha
  rw [if_neg (by omega)] at ha
  have hj31 : j < 2 ^ 31 := by have := zln_le k; omega
  have hin : ¬ (nI j < 0 ∨ (arrV (G.2.2 k) (zln k) (zvl G.1 μ k b i)).slots.size ≤ (nI j).toNatClampNeg) := by
    rw [arrV_size, nI_clamp hj31]
    exact fun h => h.elim (nI_pos hj31) (fun h => by omega)
  have hA : ArrOfT s (G.2.2 k) (zty k) := C.2.2.2.2.2.2.2.1.2.1 k hk (zok_lt ho).1
  refine W.last C.1 C.2.1 ha (hty ▸ hA _ _) (fun q => by cases q) hin rfl rfl hd fun H' e1 e2 e3 => ?_
  skip
  refine kk p l e s m args below meth c C H' _ ls (hW.put ho h36 e3 ?_) (hS.put e2 e3 (zad_ge _ _ _ _)) hl
  unfold zat
  rw [if_neg (by omega), e1, nI_clamp hj31, arrV_store]
  congr 2
  funext q
  by_cases hq : q = j
  · subst hq
    rw [hv, up_self]
    simp [updV]
  · rw [zvl_up_s hq h36]
    simp [updV, hq]
end VRows
end
section
/-! ===== CONTRACTS OVER THE STORE: a method's start and ends, calls, throws, handlers ===== -/
def QcP (G : Gl) (P : Option Value → St → Prop) : Array Value → State → Outcome → State → Prop := fun _ st oc t => (∃ v μ', oc = .returned v ∧ P v μ' ∧ Wd G μ' t.heap) ∧ va_F (fun q => G.1 ≤ q) st t
def XcP (G : Gl) (X : String → St → Prop) : String → State → State → Prop := fun E st t => (∃ μ', X E μ' ∧ Wd G μ' t.heap) ∧ va_F (fun q => G.1 ≤ q) st t
/-- what a method owes at its end -/
def QM (G : Gl) (Y : MD) (P : Option Value → St → Prop) (X : String → St → Prop) : List Frame → Array Value → State → State → Prop := fun below args s => vx_MQ below (QcP G P) (XcP G X) args s Y.2.2.2.2.1.cells Y.2.2.2.2.1.slots (fun q => G.1 ≤ q)
def wsC (Y : MD) : List Cond := Cond.code Y.1 Y.2.1 Y.2.2.1 Y.2.2.2.1 :: GW
def wsH (Y : MD) : List Cond := Cond.codeWith Y.1 Y.2.1 Y.2.2.1 Y.2.2.2.1 Y.2.2.2.2.2 :: GW
/-- THE CONTRACT of a method at given arguments and store: it returns with P, or throws with X -/
def Con (G : Gl) (Y : MD) (av : List Value) (μ : St) (P : Option Value → St → Prop) (X : String → St → Prop) : Prop := ∀ l : Launch, l.stackTraces = false → vx_Met l Y.1 (wsC Y) Y.2.2.2.2.1 (va_Pc av (fun U => Wd G μ U.heap ∧ kst G U)) (QcP G P) (XcP G X) Y.2.2.2.2.1.cells Y.2.2.2.2.1.slots (fun q => G.1 ≤ q)
def ConH (G : Gl) (Y : MD) (av : List Value) (μ : St) (P : Option Value → St → Prop) (X : String → St → Prop) : Prop := ∀ l : Launch, l.stackTraces = false → vx_Met l Y.1 (wsH Y) Y.2.2.2.2.1 (va_Pc av (fun U => Wd G μ U.heap ∧ kst G U)) (QcP G P) (XcP G X) Y.2.2.2.2.1.cells Y.2.2.2.2.1.slots (fun q => G.1 ≤ q)
def noX : String → St → Prop := fun _ _ => False
theorem con_of {G : Gl} {Y : MD} {av : List Value} {μ : St} {P : Option Value → St → Prop} {X : String → St → Prop} (hp : plainName Y.1.cls = true) (hh : Y.2.2.2.2.2 = []) (hn : (lg_sl av).length ≤ Y.2.2.1) (h : V G Y Y.2.2.2.2.1 (QM G Y P X) 0 (lv_args 0 av) [] μ 0 0) : Con G Y av μ P X := by
  intro l hlt
  refine vx_ofW (cc := Y.2.1) (maxL := Y.2.2.1) (ret := Y.2.2.2.1) (ws' := GW) hp rfl ?_
  intro p e s m args below meth c s₁ B hml hno hv
  obtain ⟨rfl, hW, hK⟩ := hv
  have hts := atoms_spec (ws := wsC Y) B.pre
  have hl := lv_entry av (n := Y.2.2.1) hn
  rw [lg_entry_eq]
  refine h p l e s m av.toArray below meth c ⟨B.exec, B.bytes, B.returns, hml, findClass_of_methodNamed B.named, B.notSynchronized, fun w hw => hts w (List.mem_cons_of_mem _ hw), hK, hlt, ?_⟩ s.heap [] _ hW va_S.rf hl
  rw [hh]
  exact List.eq_nil_iff_forall_not_mem.mpr (fun x hx => hno x hx)
theorem conH_of {G : Gl} {Y : MD} {av : List Value} {μ : St} {P : Option Value → St → Prop} {X : String → St → Prop} (hp : plainName Y.1.cls = true) (hn : (lg_sl av).length ≤ Y.2.2.1) (h : V G Y Y.2.2.2.2.1 (QM G Y P X) 0 (lv_args 0 av) [] μ 0 0) : ConH G Y av μ P X := by
  intro l hlt
  refine vx_ofWH (cc := Y.2.1) (maxL := Y.2.2.1) (ret := Y.2.2.2.1) (hh := Y.2.2.2.2.2) (ws' := GW) hp rfl ?_
  intro p e s m args below meth c s₁ B hml hv
  obtain ⟨rfl, hW, hK⟩ := hv
  have hts := atoms_spec (ws := wsH Y) B.pre
  have hl := lv_entry av (n := Y.2.2.1) hn
  rw [lg_entry_eq]
  exact h p l e s m av.toArray below meth c ⟨B.exec, B.bytes, B.returns, hml, findClass_of_methodNamed B.named, B.notSynchronized, fun w hw => hts w (List.mem_cons_of_mem _ hw), hK, hlt, vx_table (x := Y.1) B (hts _ List.mem_cons_self)⟩ s.heap [] _ hW va_S.rf hl
section VEnds
variable {G : Gl} {Y : MD} {R : Room} {Qf : List Frame → Array Value → State → State → Prop} {pc n : Nat} {L : List (Nat × Value)} {st : List Value} {μ : St} {cells slots : Nat} {P : Option Value → St → Prop} {X : String → St → Prop}
theorem v_iret {x : Int32} (hd : decode Y.2.1 pc = .ok (.ireturn, 1)) (hr : Y.2.2.2.1 = some .int) (hc : cells ≤ Y.2.2.2.2.1.cells) (hs : slots ≤ Y.2.2.2.2.1.slots) (h : P (some (.int x)) μ) : V G Y R (QM G Y P X) pc L [.int x] μ cells slots := by
  intro p l e s m args below meth c C H locs ls hW hS hl
  have hlocks := C.2.2.2.2.2.1
  exact W.widen hc hs (vx_ret (W.iret C.1 C.2.1 (C.2.2.1.trans hr) (fun t ht hWm => ⟨⟨_, μ, rfl, h, by rw [ht]; exact hW⟩, hS.F ht⟩) hS.2.2 hd))
theorem v_zret {x : Int32} {ft : FieldType} (hd : decode Y.2.1 pc = .ok (.ireturn, 1)) (hr : Y.2.2.2.1 = some ft) (hnw : narrow ft (.int x) = .int x) (hc : cells ≤ Y.2.2.2.2.1.cells) (hs : slots ≤ Y.2.2.2.2.1.slots) (h : P (some (.int x)) μ) : V G Y R (QM G Y P X) pc L [.int x] μ cells slots := by
  intro p l e s m args below meth c C H locs ls hW hS hl
  have hlocks := C.2.2.2.2.2.1
  exact W.widen hc hs (vx_ret (W.zret C.1 C.2.1 (C.2.2.1.trans hr) hnw (fun t ht hWm => ⟨⟨_, μ, rfl, h, by rw [ht]; exact hW⟩, hS.F ht⟩) hS.2.2 hd))
theorem v_vret (hd : decode Y.2.1 pc = .ok (.return_, 1)) (hr : Y.2.2.2.1 = none) (hc : cells ≤ Y.2.2.2.2.1.cells) (hs : slots ≤ Y.2.2.2.2.1.slots) (h : P none μ) : V G Y R (QM G Y P X) pc L [] μ cells slots := by
  intro p l e s m args below meth c C H locs ls hW hS hl
  have hlocks := C.2.2.2.2.2.1
  exact W.widen hc hs (vx_ret (W.vret C.1 C.2.1 (C.2.2.1.trans hr) (fun t ht hWm => ⟨⟨_, μ, rfl, h, by rw [ht]; exact hW⟩, hS.F ht⟩) hS.2.2 hd))
theorem v_dret {x : UInt64} (hd : decode Y.2.1 pc = .ok (.dreturn, 1)) (hr : Y.2.2.2.1 = some .double) (hc : cells ≤ Y.2.2.2.2.1.cells) (hs : slots ≤ Y.2.2.2.2.1.slots) (h : P (some (.double x)) μ) : V G Y R (QM G Y P X) pc L [.double x] μ cells slots := by
  intro p l e s m args below meth c C H locs ls hW hS hl
  have hlocks := C.2.2.2.2.2.1
  exact W.widen hc hs (vx_ret (W.dret C.1 C.2.1 (C.2.2.1.trans hr) (fun t ht hWm => ⟨⟨_, μ, rfl, h, by rw [ht]; exact hW⟩, hS.F ht⟩) hS.2.2 hd))
theorem v_aret {v : Value} {rt : FieldType} (hd : decode Y.2.1 pc = .ok (.areturn, 1)) (hr : Y.2.2.2.1 = some rt) (hrt : (∃ n, rt = .object n) ∨ ∃ t, rt = .array t) (hv : v = .null ∨ ∃ a, v = .ref a) (hc : cells ≤ Y.2.2.2.2.1.cells) (hs : slots ≤ Y.2.2.2.2.1.slots) (h : P (some v) μ) : V G Y R (QM G Y P X) pc L [v] μ cells slots := by
  intro p l e s m args below meth c C H locs ls hW hS hl
  have hlocks := C.2.2.2.2.2.1
  exact W.widen hc hs (vx_ret (W.aret C.1 C.2.1 (C.2.2.1.trans hr) hrt hv (fun t ht hWm => ⟨⟨_, μ, rfl, h, by rw [ht]; exact hW⟩, hS.F ht⟩) hS.2.2 hd))
/-- where a method has thrown, over the store -/
def VX (G : Gl) (Y : MD) (R : Room) (Qf : List Frame → Array Value → State → State → Prop) (pc : Nat) (L : List (Nat × Value)) (st : List Value) (E : String) (μ : St) (cells slots : Nat) : Prop :=
  ∀ (p : Program) (l : Launch) (e : Env) (s : State) (m : MethodId) (args : Array Value) (below : List Frame) (meth : Method) (c : Code), Cx G Y p l s m args meth c → ∀ (H : Heap) (locs : List Loc) (ls : Array Slot) (ce : Cell) (q : Addr), Wd G μ H → va_S (fun q => G.1 ≤ q) s.heap H locs → lv_has ls Y.2.2.1 L → H[q]? = some ce → ce.vm = .none → s.vm.findClass E = some ce.cls → vx_W p l e R s m args below meth c H locs cells slots (Qf below args s) (F0 m pc ls st) q
/-- the words and numbers of a call of an instance method: a place in the pool of a class -/
def LKV (own : String) (index : Nat) (Z : MD) (k n : Nat) : Prop := k < 20 ∧ (∃ (T : u_T) (N : Nat), vwCl[k]? = some (Z.1.cls, T, N)) ∧ Cond.methodLink own index Z.1 ∈ GW ∧ Cond.instanceMethod Z.1 ∈ GW ∧ Cond.selects Z.1.cls Z.1 Z.1 ∈ GW ∧ Cond.initialized Z.1.cls ∈ GW ∧ Cond.code Z.1 Z.2.1 Z.2.2.1 Z.2.2.2.1 ∈ GW ∧ Z.1.cls ≠ "java/lang/invoke/MethodHandle" ∧ Z.1.cls ≠ "java/lang/invoke/VarHandle" ∧ (parseMethodDescriptor Z.1.desc).map (fun d => d.parameters.length) = some n
def LKS (own : String) (index : Nat) (Z : MD) (n : Nat) : Prop := Cond.methodLink own index Z.1 ∈ GW ∧ Cond.static Z.1 ∈ GW ∧ Cond.initialized Z.1.cls ∈ GW ∧ Cond.code Z.1 Z.2.1 Z.2.2.1 Z.2.2.2.1 ∈ GW ∧ Z.1.cls ≠ "java/lang/invoke/MethodHandle" ∧ Z.1.cls ≠ "java/lang/invoke/VarHandle" ∧ (parseMethodDescriptor Z.1.desc).map (fun d => d.parameters.length) = some n
def LKH (own : String) (index : Nat) (Z : MD) (n : Nat) : Prop := Cond.methodLink own index Z.1 ∈ GW ∧ Cond.static Z.1 ∈ GW ∧ Cond.initialized Z.1.cls ∈ GW ∧ Cond.codeWith Z.1 Z.2.1 Z.2.2.1 Z.2.2.2.1 Z.2.2.2.2.2 ∈ GW ∧ Z.1.cls ≠ "java/lang/invoke/MethodHandle" ∧ Z.1.cls ≠ "java/lang/invoke/VarHandle" ∧ (parseMethodDescriptor Z.1.desc).map (fun d => d.parameters.length) = some n
def LKN (own : String) (index : Nat) (host : String) (Z : MD) (n : Nat) : Prop := Cond.methodLinkNest own index Z.1 host ∈ lw_tbl ∧ Cond.static Z.1 ∈ GW ∧ Cond.initialized Z.1.cls ∈ GW ∧ Cond.code Z.1 Z.2.1 Z.2.2.1 Z.2.2.2.1 ∈ GW ∧ Z.1.cls ≠ "java/lang/invoke/MethodHandle" ∧ Z.1.cls ≠ "java/lang/invoke/VarHandle" ∧ (parseMethodDescriptor Z.1.desc).map (fun d => d.parameters.length) = some n
/-- the room of a call -/
def RMk (R : Room) (Z : MD) (cells slots : Nat) : Prop := Z.2.2.2.2.1.frames + 1 ≤ R.frames ∧ 8 + (Z.2.2.1 + 11) + Z.2.2.2.2.1.locals ≤ R.locals ∧ cells + Z.2.2.2.2.1.cells ≤ R.cells ∧ slots + Z.2.2.2.2.1.slots ≤ R.slots
theorem GW_pay {args : Array Value} {s : State} (h : ∀ w ∈ GW, w.before args s = true) {w : Cond} (hw : w ∈ GW) (a' : Array Value) (U : State) (hW : s.WarmedH U.vm) : w.before a' U = true := word_at hW (good_of_word (GW_good hw)) (h w hw)
theorem va_Pc_blind {G : Gl} {av : List Value} {μ : St} : FrameBlind (va_Pc av (fun U => Wd G μ U.heap ∧ kst G U)) := fun a U g mk h => ⟨h.1, h.2.1, h.2.2.calling⟩
/-- a call's run, turned to the store -/
theorem v_run {Z : MD} {index mc ms : Nat} {rest st0 : List Value} {Pz : Option Value → St → Prop} {Xz : String → St → Prop} {a : Array Value} {p : Program} {l : Launch} {e : Env} {s : State} {m : MethodId} {args : Array Value} {below : List Frame} {meth : Method} {c : Code} (C : Cx G Y p l s m args meth c) {H : Heap} {locs : List Loc} {ls : Array Slot} (hS : va_S (fun q => G.1 ≤ q) s.heap H locs) (hl : lv_has ls Y.2.2.1 L)
    (hr : vx_Run p l e R s m args below meth c H locs cells slots mc ms (F0 m pc ls st0) rest (QcP G Pz a) (XcP G Xz) (fun q => G.1 ≤ q))
    (kk : ∀ v μ', Pz v μ' → V G Y R Qf (pc + 3) L (v.toList ++ rest) μ' (cells + mc) (slots + ms))
    (kx : ∀ E μ', Xz E μ' → VX G Y R Qf pc L rest E μ' (cells + mc) (slots + ms)) : W p l e R s m args below meth c H locs cells slots (Qf below args s) (F0 m pc ls st0) := by
  intro T hT X'
  have hA : ∀ q : Nat, q < H.size → (fun q => G.1 ≤ q) q → (fun q => G.1 ≤ q) q := fun _ _ h => h
  rcases hr T hT X' with ⟨v, st₀, t, T', L', h0, X2, hL, e1, e2, ⟨⟨v', μ', hv, hp, hb⟩, hF⟩, st⟩ | ⟨q, st₀, t, T', L', E, ce, h0, X2, hL, e1, e2, ⟨⟨μ', hp, hb⟩, hF⟩, hce, hcv, hcl, st⟩
  · cases hv
    obtain ⟨k1, k2, k3⟩ := vx_keep h0 e1 hS hA (fun _ h => h) hL hF
    obtain ⟨t2, a1, b1⟩ := kk v μ' hp p l e s m args below meth c C T'.heap (locs ++ L') ls (by rw [e1]; exact hb) k3 hl T' rfl X2
    exact ⟨t2, st t2 a1, b1⟩
  · obtain ⟨k1, k2, k3⟩ := vx_keep h0 e1 hS hA (fun _ h => h) hL hF
    obtain ⟨t2, a1, b1⟩ := kx E μ' hp p l e s m args below meth c C T'.heap (locs ++ L') ls ce q (by rw [e1]; exact hb) k3 hl (by rw [e1]; exact hce) hcv hcl T' rfl X2
    exact ⟨t2, st.trans a1, b1⟩
theorem v_callV {Z : MD} {index k b i nA : Nat} {As rest st0 : List Value} {Pz : Option Value → St → Prop} {Xz : String → St → Prop} (hd : decode Y.2.1 pc = .ok (.invokevirtual index, 3)) (hn : pc + 3 = n) (hL : LKV Y.1.cls index Z k nA) (hlen : As.length = nA) (hst : st0 = As.reverse ++ .ref (zad G.1 k b i) :: rest) (hrest : (rest.map fun v => v.category).sum ≤ 8) (hRm : RMk R Z cells slots) (ho : zok k b i) (hM : Con G Z (.ref (zad G.1 k b i) :: As) μ Pz Xz)
    (kk : ∀ v μ', Pz v μ' → V G Y R Qf n L (v.toList ++ rest) μ' (cells + Z.2.2.2.2.1.cells) (slots + Z.2.2.2.2.1.slots)) (kx : ∀ E μ', Xz E μ' → VX G Y R Qf pc L rest E μ' (cells + Z.2.2.2.2.1.cells) (slots + Z.2.2.2.2.1.slots)) : V G Y R Qf pc L st0 μ cells slots := by
  subst hn
  intro p l e s m args below meth c C H locs ls hW hS hl
  have C1 := C
  obtain ⟨hx, hb, hrt, hml, hown, hlocks, hts, hK, hlt, htab⟩ := C
  obtain ⟨hk20, ⟨T, N, hcl⟩, w1, w2, w3, w4, w5, n1, n2, hnp⟩ := hL
  obtain ⟨r1, r2, r3, r4⟩ := hRm
  have ha := hW k b i ho
  unfold zat at ha
  rw [if_pos hk20] at ha
  obtain ⟨r, h1, cell, q1, q2, q3, q4⟩ := ha
  have hr : r = (Z.1.cls, T, N) := Option.some.inj (h1.symm.trans hcl)
  subst hr
  obtain ⟨-, hfc, -⟩ := hK.1.1 k _ hcl
  refine v_run (Z := Z) (index := index) C1 hS hl (vx_runV (As := As) (rest := rest) (n := nA) ⟨hx, hb, hml, hown, hts⟩ (hM l hlt) (C := Z.1.cls) ⟨⟨rfl, rfl, r1, r2, fun w hw a' U hWm => ?_, List.mem_cons_self, hts _ w5, hts _ w4, ⟨n1, n2⟩, fun sig h => ?_, hts _ w1⟩, hts _ w2, hts _ w3⟩ ⟨va_Pc_blind, ⟨cell, q1, by rw [q3]; rfl, by rw [q2]; exact hfc⟩, fun U hU hWm => ⟨rfl, by rw [hU]; exact hW, hK.at hWm hU hS⟩⟩ rfl hlen hl.1 hst (lv_room hrest) hd ⟨r3, r4⟩) kk kx
  · rcases List.mem_cons.mp hw with rfl | hw
    · exact GW_pay hts w5 a' U hWm
    · exact GW_pay hts hw a' U hWm
  · rw [h] at hnp
    exact (Option.some.inj hnp).symm
theorem v_callS {Z : MD} {index nA : Nat} {As rest st0 : List Value} {Pz : Option Value → St → Prop} {Xz : String → St → Prop} (hd : decode Y.2.1 pc = .ok (.invokestatic index, 3)) (hn : pc + 3 = n) (hL : LKS Y.1.cls index Z nA) (hlen : As.length = nA) (hst : st0 = As.reverse ++ rest) (hrest : (rest.map fun v => v.category).sum ≤ 8) (hRm : RMk R Z cells slots) (hM : Con G Z As μ Pz Xz)
    (kk : ∀ v μ', Pz v μ' → V G Y R Qf n L (v.toList ++ rest) μ' (cells + Z.2.2.2.2.1.cells) (slots + Z.2.2.2.2.1.slots)) (kx : ∀ E μ', Xz E μ' → VX G Y R Qf pc L rest E μ' (cells + Z.2.2.2.2.1.cells) (slots + Z.2.2.2.2.1.slots)) : V G Y R Qf pc L st0 μ cells slots := by
  subst hn
  intro p l e s m args below meth c C H locs ls hW hS hl
  have C1 := C
  obtain ⟨hx, hb, hrt, hml, hown, hlocks, hts, hK, hlt, htab⟩ := C
  obtain ⟨w1, w2, w4, w5, n1, n2, hnp⟩ := hL
  obtain ⟨r1, r2, r3, r4⟩ := hRm
  refine v_run (Z := Z) (index := index) C1 hS hl (vx_runS (As := As) (rest := rest) (n := nA) ⟨hx, hb, hml, hown, hts⟩ (hM l hlt) ⟨⟨rfl, rfl, r1, r2, fun w hw a' U hWm => ?_, List.mem_cons_self, hts _ w5, hts _ w4, ⟨n1, n2⟩, fun sig h => ?_, hts _ w1⟩, hts _ w2⟩ ⟨va_Pc_blind, fun U hU hWm => ⟨rfl, by rw [hU]; exact hW, hK.at hWm hU hS⟩⟩ rfl hlen hl.1 hst (lv_room hrest) hd ⟨r3, r4⟩) kk kx
  · rcases List.mem_cons.mp hw with rfl | hw
    · exact GW_pay hts w5 a' U hWm
    · exact GW_pay hts hw a' U hWm
  · rw [h] at hnp
    exact (Option.some.inj hnp).symm
theorem v_callH {Z : MD} {index nA : Nat} {As rest st0 : List Value} {Pz : Option Value → St → Prop} {Xz : String → St → Prop} (hd : decode Y.2.1 pc = .ok (.invokestatic index, 3)) (hn : pc + 3 = n) (hL : LKH Y.1.cls index Z nA) (hlen : As.length = nA) (hst : st0 = As.reverse ++ rest) (hrest : (rest.map fun v => v.category).sum ≤ 8) (hRm : RMk R Z cells slots) (hM : ConH G Z As μ Pz Xz)
    (kk : ∀ v μ', Pz v μ' → V G Y R Qf n L (v.toList ++ rest) μ' (cells + Z.2.2.2.2.1.cells) (slots + Z.2.2.2.2.1.slots)) (kx : ∀ E μ', Xz E μ' → VX G Y R Qf pc L rest E μ' (cells + Z.2.2.2.2.1.cells) (slots + Z.2.2.2.2.1.slots)) : V G Y R Qf pc L st0 μ cells slots := by
  subst hn
  intro p l e s m args below meth c C H locs ls hW hS hl
  have C1 := C
  obtain ⟨hx, hb, hrt, hml, hown, hlocks, hts, hK, hlt, htab⟩ := C
  obtain ⟨w1, w2, w4, w5, n1, n2, hnp⟩ := hL
  obtain ⟨r1, r2, r3, r4⟩ := hRm
  refine v_run (Z := Z) (index := index) C1 hS hl (vx_runSX (As := As) (rest := rest) (n := nA) (hh := Z.2.2.2.2.2) ⟨hx, hb, hml, hown, hts⟩ (hM l hlt) ⟨⟨rfl, rfl, r1, r2, fun w hw a' U hWm => ?_, List.mem_cons_self⟩, hts _ w5, hts _ w4, ⟨n1, n2⟩, fun sig h => ?_, hts _ w1, hts _ w2⟩ ⟨va_Pc_blind, fun U hU hWm => ⟨rfl, by rw [hU]; exact hW, hK.at hWm hU hS⟩⟩ rfl hlen hl.1 hst (lv_room hrest) hd ⟨r3, r4⟩) kk kx
  · rcases List.mem_cons.mp hw with rfl | hw
    · exact GW_pay hts w5 a' U hWm
    · exact GW_pay hts hw a' U hWm
  · rw [h] at hnp
    exact (Option.some.inj hnp).symm
/-- caught by the x-th handler of the table; the ones ahead don't take it -/
theorem v_catch {E name : String} {pre suf : List ExceptionTableEntry} {x : ExceptionTableEntry} (hsplit : tableOf Y.2.2.2.2.2 = pre ++ x :: suf) (hpass : ∀ z ∈ pre, z.catchType ≠ 0 ∧ ∃ nm : String, Cond.classLink Y.1.cls z.catchType nm ∈ GW ∧ (E, nm) ∈ zNc) (hx : covers x pc = true) (h0 : x.catchType ≠ 0) (hlink : Cond.classLink Y.1.cls x.catchType name ∈ GW) (hcast : Cond.castable E name ∈ lw_tbl)
    (kk : ∀ q : Nat, V G Y R Qf x.handlerPc L [.ref q] μ cells slots) : VX G Y R Qf pc L st E μ cells slots := by
  intro p l e s m args below meth c C H locs ls ce q hW hS hl hcell hv hcl
  have C1 := C
  obtain ⟨hx0, hb, hrt, hml, hown, hlocks, hts, hK, hlt, htab⟩ := C
  refine vx_catch hown pre x suf (htab.trans hsplit) (fun z hz => ?_) hx h0 (hts _ hlink) (va_Nw.use (w := .castable E name) rfl (hK.2.2.2.2.2.2.1 _ hcast rfl)) hcell hv hcl (kk q p l e s m args below meth c C1 H locs ls hW hS hl)
  obtain ⟨a1, nm, a2, a3⟩ := hpass z hz
  exact Or.inr ⟨a1, nm, hts _ a2, hK.2.2.2.2.2.2.2 _ a3⟩
/-- the words of 'throw new cls(text)' in a class -/
def LT (own cls text : String) (ik is ic : Nat) : Prop := Cond.classLink own ik cls ∈ GW ∧ Cond.initialized cls ∈ GW ∧ Cond.stringRef own is text ∈ lw_tbl ∧ Bundle.fit cls = true ∧ (∀ n ∈ ["java/lang/RuntimeException", "java/lang/Exception"], Bundle.fit n = true) ∧ (∀ w ∈ vx_atS own ic cls ["java/lang/RuntimeException", "java/lang/Exception"], w ∈ lw_tbl ∧ (goodWord w = true ∨ zNw w = true)) ∧ ∀ w ∈ Cond.classLink own ik cls :: Cond.initialized cls :: vx_atS own ic cls ["java/lang/RuntimeException", "java/lang/Exception"], vx_ot w = true
theorem v_throw {cls text : String} {ik is ic : Nat} (hT : LT Y.1.cls cls text ik is ic) (hh : Y.2.2.2.2.2 = []) (d0 : decode Y.2.1 pc = .ok (.new ik, 3)) (d3 : decode Y.2.1 (pc + 3) = .ok (.dup, 1)) (d4 : decode Y.2.1 (pc + 4) = .ok (.ldc is, 2)) (d6 : decode Y.2.1 (pc + 6) = .ok (.invokespecial ic, 3)) (d9 : decode Y.2.1 (pc + 9) = .ok (.athrow, 1))
    (hR : 5 < R.frames ∧ 82 ≤ R.locals ∧ cells + 1 ≤ R.cells ∧ slots + 6 ≤ R.slots) (hc : cells + 1 ≤ Y.2.2.2.2.1.cells) (hs : slots + 6 ≤ Y.2.2.2.2.1.slots) (h : X cls μ) : V G Y R (QM G Y P X) pc L [] μ cells slots := by
  intro p l e s m args below meth c C H locs ls hW hS hl
  obtain ⟨hx, hb, hrt, hml, hown, hlocks, hts, hK, hlt, htab⟩ := C
  obtain ⟨t1, t2, t3, t4, t5, t6, t7⟩ := hT
  obtain ⟨k1, k2, k3, k4, k5, k6, k7, k8⟩ := hK
  obtain ⟨sa, hsa⟩ := k6 _ _ _ t3
  refine vx_throwS (names := ["java/lang/RuntimeException", "java/lang/Exception"]) (text := text) (sa := sa) (A := fun q => G.1 ≤ q) hx hb hlt hown t4 t5 (hts _ t1) (hts _ t2) hsa (fun w hw => ?_) t7 k4 k5 hS (hl.1.trans hml.symm) d0 d3 d4 d6 d9 (fun x hx => ?_) hR.1 (by simpa using hR.2.1) hR.2.2.1 hR.2.2.2 hlocks (fun t ht hz hq => ?_) hS.2.2 hc hs
  · obtain ⟨w1, w2 | w2⟩ := t6 w hw
    · exact hts _ (List.mem_filter.mpr ⟨w1, w2⟩)
    · have h9 := k7 w w1 w2
      cases w <;> first | exact va_Nw.use rfl h9 | cases w2
  · rw [htab, hh] at hx
    cases hx
  · exact ⟨⟨μ, h, hW.kept hq⟩, Nat.le_trans hS.1 hz, fun q q1 q2 => by rw [hq q (Nat.lt_of_lt_of_le q1 hS.1)]; exact hS.2.1 q q1 q2⟩
theorem v_throwW {cls text : String} {ik is ic : Nat} (hT : LT Y.1.cls cls text ik is ic) (hh : Y.2.2.2.2.2 = []) (d0 : decode Y.2.1 pc = .ok (.new ik, 3)) (d3 : decode Y.2.1 (pc + 3) = .ok (.dup, 1)) (d4 : decode Y.2.1 (pc + 4) = .ok (.ldc_w is, 3)) (d7 : decode Y.2.1 (pc + 7) = .ok (.invokespecial ic, 3)) (d10 : decode Y.2.1 (pc + 10) = .ok (.athrow, 1))
    (hR : 5 < R.frames ∧ 82 ≤ R.locals ∧ cells + 1 ≤ R.cells ∧ slots + 6 ≤ R.slots) (hc : cells + 1 ≤ Y.2.2.2.2.1.cells) (hs : slots + 6 ≤ Y.2.2.2.2.1.slots) (h : X cls μ) : V G Y R (QM G Y P X) pc L [] μ cells slots := by
  intro p l e s m args below meth c C H locs ls hW hS hl
  obtain ⟨hx, hb, hrt, hml, hown, hlocks, hts, hK, hlt, htab⟩ := C
  obtain ⟨t1, t2, t3, t4, t5, t6, t7⟩ := hT
  obtain ⟨k1, k2, k3, k4, k5, k6, k7, k8⟩ := hK
  obtain ⟨sa, hsa⟩ := k6 _ _ _ t3
  refine vx_throwSW (names := ["java/lang/RuntimeException", "java/lang/Exception"]) (text := text) (sa := sa) (A := fun q => G.1 ≤ q) hx hb hlt hown t4 t5 (hts _ t1) (hts _ t2) hsa (fun w hw => ?_) t7 k4 k5 hS (hl.1.trans hml.symm) d0 d3 d4 d7 d10 (fun x hx => ?_) hR.1 (by simpa using hR.2.1) hR.2.2.1 hR.2.2.2 hlocks (fun t ht hz hq => ?_) hS.2.2 hc hs
  · obtain ⟨w1, w2 | w2⟩ := t6 w hw
    · exact hts _ (List.mem_filter.mpr ⟨w1, w2⟩)
    · have h9 := k7 w w1 w2
      cases w <;> first | exact va_Nw.use rfl h9 | cases w2
  · rw [htab, hh] at hx
    cases hx
  · exact ⟨⟨μ, h, hW.kept hq⟩, Nat.le_trans hS.1 hz, fun q q1 q2 => by rw [hq q (Nat.lt_of_lt_of_le q1 hS.1)]; exact hS.2.1 q q1 q2⟩
theorem Con.mono {Z : MD} {av : List Value} {P' : Option Value → St → Prop} {X' : String → St → Prop} (h : Con G Z av μ P X) (hP : ∀ v μ', P v μ' → P' v μ') (hX : ∀ E μ', X E μ' → X' E μ') : Con G Z av μ P' X' := by
  intro l hl p e ha hc hk s m args below hf happ hp hg
  obtain ⟨n, o, h1, h2, h3, h4⟩ := h l hl p e ha hc hk s m args below hf happ hp hg
  refine ⟨n, o, h1, h2, h3, ?_⟩
  rcases h4 with ⟨⟨⟨v, μ', q1, q2, q3⟩, q4⟩, q5⟩ | ⟨q, q1, E, ce, L, ⟨⟨μ', q2, q3⟩, q4⟩, q5⟩
  · exact Or.inl ⟨⟨⟨v, μ', q1, hP _ _ q2, q3⟩, q4⟩, q5⟩
  · exact Or.inr ⟨q, q1, E, ce, L, ⟨⟨μ', hX _ _ q2, q3⟩, q4⟩, q5⟩
end VEnds
end
section
section VNest
variable {p : Program} {l : Launch} {e : Env} {R : Room} {s : State} {m : MethodId} {args : Array Value} {below : List Frame} {meth : Method} {c : Code} {H : Heap} {locs : List Loc} {cells slots : Nat}
variable {T : State}
theorem vx_callSN (X : Stand p l e R s m args below meth c T locs cells slots) (hexec : p.tables.exec = Jvm.exec) {own : String} {index : Nat} {host : String} {y : MethodName} {bytes : ByteArray} {maxL : Nat} {ret : Option FieldType}
    (hown : s.vm.findClass own = some m.cls) (hlink : (Cond.methodLinkNest own index y host).before args s = true) (hstat : (Cond.static y).before args s = true) (hinit : (Cond.initialized y.cls).before args s = true)
    (hcode : (Cond.code y bytes maxL ret).before args s = true) (hy : y.cls ≠ "java/lang/invoke/MethodHandle" ∧ y.cls ≠ "java/lang/invoke/VarHandle")
    {W : Nat} {Pre : Pt → Array Value → Prop} {Post : Pt → Array Value → Option Value → Pt → Prop} {PostX : Pt → Array Value → Addr → Pt → Prop} (hK : vx_Back l R p e below s args y 3 W Pre Post PostX)
    {g : JFrame} (hg : g.method = m) (hsize : g.locals.size = c.maxLocals) {argsL rest : List Value} (hlen : ∀ sig, parseMethodDescriptor y.desc = some sig → argsL.length = sig.parameters.length)
    (hstack : g.stack = argsL.reverse ++ rest) (hW : 2 * g.monitorRoom + (rest.map fun v => v.category).sum ≤ W) (hdg : decode c.code g.pc = .ok (.invokestatic index, 3))
    (hpre : ∀ vm₁, s.WarmedH vm₁ → Pre ⟨T.setVm vm₁, locs, cells, slots⟩ argsL.toArray) :
    (∃ (v : Option Value) (vm₁ : Vm) (B : Pt), s.WarmedH vm₁ ∧ Stand p l e R s m args below meth c B.U B.locs B.cells B.slots ∧ Post ⟨T.setVm vm₁, locs, cells, slots⟩ argsL.toArray v B ∧
      ∀ target, Steps p.tables e below (B.U.setTop { g with pc := g.pc + 3, stack := v.toList ++ rest }) target → Steps p.tables e below (T.setTop g) target) ∨
    (∃ (q : Addr) (vm₁ : Vm) (B : Pt), s.WarmedH vm₁ ∧ Stand p l e R s m args below meth c B.U B.locs B.cells B.slots ∧ PostX ⟨T.setVm vm₁, locs, cells, slots⟩ argsL.toArray q B ∧
      Steps p.tables e below (T.setTop g) ((B.U.setTop { g with stack := rest }).pushFrame (.throwing q))) := by
  obtain ⟨mk, hnamed⟩ := Cond.code_named hcode
  obtain ⟨methM, cM, hmethM, -, -, -, -, -, -, hsigM⟩ := Cond.code_spec hnamed hcode
  have hstatic : methM.isStatic = true := Cond.static_spec hnamed hmethM hstat
  obtain ⟨kP, hkP, -⟩ := className_of_methodNamed hnamed
  have hinitP : kP.init = .initialized := Cond.initialized_spec (findClass_of_methodNamed hnamed) hkP hinit
  obtain ⟨vm₁, X₁, hstep₁⟩ := X.invokestaticNest hexec hown hlink hnamed hmethM hstatic hkP hinitP hy (g := g) hg (argsL := argsL) (rest := rest) (hlen _ hsigM) hstack hdg
  rcases hK m meth c ⟨T.setVm vm₁, locs, cells, slots⟩ { g with stack := rest } (.invokestatic index) mk argsL.toArray X₁ hg hsize hdg hW (X₁.named hnamed) (hpre vm₁ X₁.warmed) with ⟨v, B, X', hpost, hsteps⟩ | ⟨q, B, X', hpost, hsteps⟩
  · exact Or.inl ⟨v, vm₁, B, X₁.warmed, X', hpost, fun target h => hstep₁ _ fun acts => by rw [doInvoke_state]; exact hsteps.trans h⟩
  · exact Or.inr ⟨q, vm₁, B, X₁.warmed, X', hpost, hstep₁ _ fun acts => by rw [doInvoke_state]; exact hsteps⟩
theorem vx_runSN {y : MethodName} {bytes cc : ByteArray} {maxL nL mc ms n index : Nat} {ret : Option FieldType} {ws : List Cond} {rm : Room} {Pc : Array Value → State → Prop} {Qc : Array Value → State → Outcome → State → Prop} {XC : String → State → State → Prop} {free : Addr → Prop} {Ts : List Cond} {own host : String} {As rest : List Value} {g : JFrame}
    (S : CallFix p m c cc nL s args Ts own) (hM : vx_Met l y ws rm Pc Qc XC mc ms free) (cw : va_CN R s args own index y host bytes maxL ret ws rm mc ms n ∧ (Cond.static y).before args s = true ∧ True) (hp : PreS s H Pc As)
    (hg : g.method = m) (hn : As.length = n) (hsize : g.locals.size = nL) (hstack : g.stack = As.reverse ++ rest) (hW : 2 * g.monitorRoom + (rest.map fun v => v.category).sum ≤ 8) (hdg : decode cc g.pc = .ok (.invokestatic index, 3)) (hf : cells + mc ≤ R.cells ∧ slots + ms ≤ R.slots) :
    vx_Run p l e R s m args below meth c H locs cells slots mc ms g rest (Qc As.toArray) XC free := by
  obtain ⟨⟨⟨hrc, hrs, hfr, hlo, hws, hcw⟩, hcode, hini, hy, hlen, hl⟩, hx1, hx2⟩ := cw
  have hK : vx_Back l R p e below s args y 3 8 (PreOf R mc ms Pc) (PostOf Qc mc ms free) (vx_Post XC mc ms free) := vx_back (bytes := bytes) (maxL := maxL) (ret := ret) hM hp.1 hrc hrs hfr hlo hws hcw (fun a' U hW => word_at hW (Or.inl (by first | rfl | simp [Cond.onTables, Cond.keeps, Cond.steady])) hini)
  obtain ⟨hx, hb, hml, ho, -⟩ := S
  have hPc := hp.2
  intro T hT X
  rcases vx_callSN X hx (bytes := bytes) (maxL := maxL) (ret := ret) ho hl hx1 hini hcode hy hK hg (hsize.trans hml.symm) (argsL := As) (rest := rest) (fun sig h => hn.trans (hlen sig h)) hstack hW (by rw [hb]; exact hdg)
    (fun vm₁ hW₁ => ⟨hf.1, hf.2, hPc (T.setVm vm₁) hT hW₁⟩) with ⟨v, vm₁, ⟨U', l2, c2, s2⟩, hW₁, X', ⟨g', mk, t, L, e1, e2, hq, h1, hL, h2, h3⟩, st⟩ | ⟨q, vm₁, ⟨U', l2, c2, s2⟩, hW₁, X', ⟨g', mk, t, L, E, ce, e1, e2, hq, hce, hcv, hcl, h1, hL, h2, h3⟩, st⟩
  · dsimp only [Pt.U, Pt.locs, Pt.cells, Pt.slots] at X' e1 e2 h1 h2 h3 st
    subst h1; subst h2; subst h3
    exact Or.inl ⟨v, (T.setVm vm₁).calling g' mk As.toArray, t, U', L, hT, X', hL, e1, e2, hq, st⟩
  · dsimp only [Pt.U, Pt.locs, Pt.cells, Pt.slots] at X' e1 e2 h1 h2 h3 st hcl
    subst h1; subst h2; subst h3
    exact Or.inr ⟨q, (T.setVm vm₁).calling g' mk As.toArray, t, U', L, E, ce, hT, X', hL, e1, e2, hq, hce, hcv, vx_cls hW₁ hcl, st⟩
end VNest
section VCallN
variable {G : Gl} {Y : MD} {R : Room} {Qf : List Frame → Array Value → State → State → Prop} {pc n : Nat} {L : List (Nat × Value)} {st : List Value} {μ : St} {cells slots : Nat}
theorem v_callN {Z : MD} {index nA : Nat} {host : String} {As rest st0 : List Value} {Pz : Option Value → St → Prop} {Xz : String → St → Prop} (hd : decode Y.2.1 pc = .ok (.invokestatic index, 3)) (hn : pc + 3 = n) (hL : LKN Y.1.cls index host Z nA) (hlen : As.length = nA) (hst : st0 = As.reverse ++ rest) (hrest : (rest.map fun v => v.category).sum ≤ 8) (hRm : RMk R Z cells slots) (hM : Con G Z As μ Pz Xz)
    (kk : ∀ v μ', Pz v μ' → V G Y R Qf n L (v.toList ++ rest) μ' (cells + Z.2.2.2.2.1.cells) (slots + Z.2.2.2.2.1.slots)) (kx : ∀ E μ', Xz E μ' → VX G Y R Qf pc L rest E μ' (cells + Z.2.2.2.2.1.cells) (slots + Z.2.2.2.2.1.slots)) : V G Y R Qf pc L st0 μ cells slots := by
  subst hn
  intro p l e s m args below meth c C H locs ls hW hS hl
  have C1 := C
  obtain ⟨hx, hb, hrt, hml, hown, hlocks, hts, hK, hlt, htab⟩ := C
  obtain ⟨w1, w2, w4, w5, n1, n2, hnp⟩ := hL
  obtain ⟨r1, r2, r3, r4⟩ := hRm
  refine v_run (Z := Z) (index := index) C1 hS hl (vx_runSN (Ts := GW) (As := As) (rest := rest) (n := nA) (host := host) ⟨hx, hb, hml, hown, hts⟩ (hM l hlt) ⟨⟨⟨rfl, rfl, r1, r2, fun w hw a' U hWm => ?_, List.mem_cons_self⟩, hts _ w5, hts _ w4, ⟨n1, n2⟩, fun sig h => ?_, va_Nw.use (w := .methodLinkNest Y.1.cls index Z.1 host) rfl (hK.2.2.2.2.2.2.1 _ w1 rfl)⟩, hts _ w2, trivial⟩ ⟨va_Pc_blind, fun U hU hWm => ⟨rfl, by rw [hU]; exact hW, hK.at hWm hU hS⟩⟩ rfl hlen hl.1 hst (lv_room hrest) hd ⟨r3, r4⟩) kk kx
  · rcases List.mem_cons.mp hw with rfl | hw
    · exact GW_pay hts w5 a' U hWm
    · exact GW_pay hts hw a' U hWm
  · rw [h] at hnp
    exact (Option.some.inj hnp).symm
end VCallN
end
section
/-! ===== 'throw new NoSuchElementException(text)': its constructor calls RuntimeException's by another place of its pool (13) than the classes of java.lang do (7), so the kit's throw of a text doesn't fit it; this law follows the library's for those, with its own first link ===== -/
def znX : String := "java/util/NoSuchElementException"
def znB : ByteArray := .mk #[0x2a, 0x2b, 0xb7, 0x00, 0x0d, 0xb1]
def znAtoms (own : String) (ic : Nat) : List Cond :=
  Bundle.throwableAtoms ++ Bundle.throwableSAtoms ++ Bundle.passSAtoms znX "java/lang/RuntimeException" 13 znB ++ Bundle.chainSAtoms "java/lang/RuntimeException" ["java/lang/Exception"] ++
  [.methodLink own ic (Bundle.initS znX), .instantiable znX 6, .castable znX znX, .selects znX Bundle.tFill0 Bundle.tFill0, .selects znX Bundle.tFill Bundle.tFill,
   .lays znX Bundle.tN "cause" "Ljava/lang/Throwable;", .lays znX Bundle.tN "stackTrace" Bundle.steD, .lays znX Bundle.tN "suppressedExceptions" Bundle.listD, .lays znX Bundle.tN "detailMessage" "Ljava/lang/String;",
   .isRef (.static Bundle.tN "UNASSIGNED_STACK" Bundle.steD), .isRef (.static Bundle.tN "SUPPRESSED_SENTINEL" Bundle.listD),
   .fieldLink Bundle.tN 198 Bundle.tN "backtrace" "Ljava/lang/Object;", .lays Bundle.tN Bundle.tN "backtrace" "Ljava/lang/Object;", .lays znX Bundle.tN "backtrace" "Ljava/lang/Object;"]
def zn_at (own : String) (ic : Nat) : List Cond := (znAtoms own ic).filter vx_no
section ZN
variable {p : Program} {l : Launch} {e : Env} {R : Room} {s : State} {m₀ : MethodId} {args : Array Value} {below : List Frame} {meth : Method} {c : Code} {W : State} {locs : List Loc} {cells slots : Nat}
set_option maxHeartbeats 4000000 in
theorem zn_ctor (X : Stand p l e R s m₀ args below meth c W locs cells slots) (hexec : p.tables.exec = Jvm.exec) (htr : e.platform.stackTraces = false) {own : String} {ic : Nat}
    (hown : s.vm.findClass own = some m₀.cls)
    (h : ∀ a ∈ znAtoms own ic, a.before args s = true)
    (hlocs : ∀ x ∈ locs, ∀ cell, s.heap[x.base]? = some cell → cell.vm.isStatics = false)
    {a : Addr} {cX : ClassId} {kX : Class} (hfoundX : s.vm.findClass znX = some cX) (hkX : s.vm.classes[cX]? = some kX) (hcell : W.heap[a]? = some (freshCell cX kX)) (hnew : s.heap.size ≤ a)
    {msg : Value} (hmsg : msg.isRef = true)
    {g : JFrame} (hg : g.method = m₀) (hsize : g.locals.size = c.maxLocals) (hlocked : g.locked = none) (hentered : g.entered = []) {rest : List Value} (hstack : g.stack = msg :: .ref a :: .ref a :: rest)
    (hd6 : decode c.code g.pc = .ok (.invokespecial ic, 3)) (hd9 : decode c.code (g.pc + 3) = .ok (.athrow, 1)) (hout : ∀ x ∈ c.exceptionTable.toList, covers x (g.pc + 3) = false)
    (hRframes : 5 < R.frames) (hRlocals : 2 * g.monitorRoom + ((Value.ref a :: rest).map fun v => v.category).sum + (13 * 3 + 42) ≤ R.locals) (hlocks : meth.locks = false) :
    ∃ U : State, Steps p.tables e below (W.setTop g) U ∧ U.status = .running ∧ Ended U below (.threw a) ∧ s.WarmedH U.vm ∧ s.sameButNew ({ U with vm := s.vm } : State) locs cells slots ∧
      ∃ ce, U.heap[a]? = some ce ∧ ce.vm = .none ∧ s.vm.findClass znX = some ce.cls := by
  have howns : e.platform.frameOwnsMonitors = true := by rw [X.admits.platform]
  have hfin : e.platform.finalization = false := by rw [X.admits.platform]
  have hpl : e.platform.magicAccessors = ({} : Platform).magicAccessors := by rw [X.admits.platform]
  have a' : ∀ x, x ∈ znAtoms own ic → x.holds args s none s [] = true := fun x hx => h x hx
  obtain ⟨T, Z0, L, -, Y⟩ := ThrowableC.of_atoms (args := args) howns hfin hpl (fun x hx => h x (by simp [znAtoms, hx]))
  obtain ⟨Z, M, LZ, LM, hnZ⟩ := Init0T.ofS_atoms (args := args) hpl L Y (fun x hx => h x (by simp [znAtoms, hx]))
  obtain ⟨P1, L1, hP1m, hs1⟩ := PassC.ofS_atoms (args := args) (s := s) hpl (X := znX) (Y := "java/lang/RuntimeException") (index := 13) (bytes := znB) (by decide) ⟨by decide, by decide⟩ (by decide +kernel) (by decide +kernel) (by decide +kernel) (by decide +kernel) (fun x hx => h x (by simp [znAtoms, hx]))
  obtain ⟨P2, Ps, hlen, L2, hL, hP2m, hlink2, hlink⟩ := Bundle.chainS (args := args) hpl hnZ ["java/lang/Exception"] "java/lang/RuntimeException" (by decide +kernel) (by decide +kernel) (fun x hx => h x (by simp [znAtoms, hx]))
  have hlink1 : P1.sup = P2.m := Option.some.inj (hs1.symm.trans hP2m)
  have hfound : s.vm.findClass znX = some P1.m.cls := findClass_of_methodNamed hP1m
  cases Option.some.inj (hfoundX.symm.trans hfound)
  obtain ⟨c1, kX', hc1, hk, hord, -, -, hn6⟩ := Cond.instantiable_spec (a' (.instantiable znX 6) (by simp [znAtoms]))
  cases Option.some.inj (hc1.symm.trans hfound)
  cases Option.some.inj (hkX.symm.trans hk)
  have hsel0 : selectMethod e.platform s.vm P1.m.cls T.fill0 = .method T.fill0 := by
    obtain ⟨c2, r2, m2, q1, q2, q3, q4, -⟩ := Cond.selects_spec (a' (.selects znX Bundle.tFill0 Bundle.tFill0) (by simp [znAtoms]))
    cases Option.some.inj (q1.symm.trans hfound)
    cases Option.some.inj (q2.symm.trans (State.methodFound?_of_named Y.fill0 (by decide)))
    cases Option.some.inj (q3.symm.trans Y.fill0)
    rw [Launch.admits_selectMethod X.admits]; exact q4
  have hselF : selectMethod e.platform s.vm P1.m.cls T.fill = .method T.fill := by
    obtain ⟨c2, r2, m2, q1, q2, q3, q4, -⟩ := Cond.selects_spec (a' (.selects znX Bundle.tFill Bundle.tFill) (by simp [znAtoms]))
    cases Option.some.inj (q1.symm.trans hfound)
    cases Option.some.inj (q2.symm.trans (State.methodFound?_of_named Y.fill (by decide)))
    cases Option.some.inj (q3.symm.trans Y.fill)
    rw [Launch.admits_selectMethod X.admits]; exact q4
  obtain ⟨cellS0, hcS0, hiss⟩ := Y.statics
  obtain ⟨u0, hu0⟩ := Cond.staticRefV Y.unassigned L.unassignedStatic L.statics hcS0 hiss (a' (.isRef (.static Bundle.tN "UNASSIGNED_STACK" Bundle.steD)) (by simp [znAtoms]))
  obtain ⟨sen, hsen⟩ := Cond.staticRefV Y.sentinel L.sentinelStatic L.statics hcS0 hiss (a' (.isRef (.static Bundle.tN "SUPPRESSED_SENTINEL" Bundle.listD)) (by simp [znAtoms]))
  obtain ⟨ci198, i198, fB, hk198, hg198, ha198, hsB, -, hnB, htB, hffB⟩ := Cond.ownField (t := .object "java/lang/Object") Y.found L.cls (by decide +kernel) (a' (.fieldLink Bundle.tN 198 Bundle.tN "backtrace" "Ljava/lang/Object;") (by simp [znAtoms])) (a' (.lays Bundle.tN Bundle.tN "backtrace" "Ljava/lang/Object;") (by simp [znAtoms])) e.platform hpl
  obtain ⟨cellS, hcS', heS, -, hkeep⟩ := X.same.2.2.2.2.2 T.aS cellS0 hcS0
  have hcellS : W.heap[T.aS]? = some cellS := hcS'
  have hout' : ∀ i, (⟨T.aS, i⟩ : Loc) ∉ locs := fun i hmem => by
    have := hlocs _ hmem cellS0 hcS0
    rw [hiss] at this; cases this
  have hknownS : cellS.vm ≠ .unknown := by
    rw [heS]; intro hu
    rw [show cellS0.vm = .unknown from hu] at hiss
    cases hiss
  have hneS : T.aS ≠ a := Nat.ne_of_lt (Nat.lt_of_lt_of_le (Array.getElem?_eq_some_iff.mp hcS0).1 hnew)
  obtain ⟨iM, hffM⟩ := Y.msg
  obtain ⟨tyC, dC, hdC, hdnC⟩ := Cond.laysAt hfound hk Y.cause (a' (.lays znX Bundle.tN "cause" "Ljava/lang/Throwable;") (by simp [znAtoms]))
  obtain ⟨tyS, dS, hdS, hdnS⟩ := Cond.laysAt hfound hk Y.stack (a' (.lays znX Bundle.tN "stackTrace" Bundle.steD) (by simp [znAtoms]))
  obtain ⟨tyP, dP, hdP, hdnP⟩ := Cond.laysAt hfound hk Y.supp (a' (.lays znX Bundle.tN "suppressedExceptions" Bundle.listD) (by simp [znAtoms]))
  obtain ⟨tyM, dM, hdM, hdnM⟩ := Cond.laysAt hfound hk hffM (a' (.lays znX Bundle.tN "detailMessage" "Ljava/lang/String;") (by simp [znAtoms]))
  obtain ⟨tyB, dB, hdB, hdnB⟩ := Cond.laysAt hfound hk hffB (a' (.lays znX Bundle.tN "backtrace" "Ljava/lang/Object;") (by simp [znAtoms]))
  have bC := Cond.laysApart hdB hdC hdnB hdnC (by rw [hnB, Y.causeName]; decide)
  have bS := Cond.laysApart hdB hdS hdnB hdnS (by rw [hnB, Y.stackName]; decide)
  have bP := Cond.laysApart hdB hdP hdnB hdnP (by rw [hnB, Y.suppName]; decide)
  have hskip : SkipFacts T e.platform s (fun u => u) u0 ((preparedCellV T.toThrowableT (freshCell P1.m.cls kX) a u0 sen).withEntry W.cur) :=
    ⟨{ ci198 := ci198, i198 := i198, fBack := fB }, ⟨hk198, hg198, ha198, hsB⟩, by
      have := fresh_default (c := P1.m.cls) tyB
      rw [htB] at this
      simpa [preparedCellV, Cell.setSlot, Cell.withEntry, Array.getElem?_setIfInBounds, bC, bS, bP, bC.symm, bS.symm, bP.symm, defaultValue] using this, fun _ _ => rfl⟩
  obtain ⟨tm, methC, cdC, kC, vm₁, hnC, -, -, -, -, -, -, -, hW₁, st1⟩ := Steps.initColdS (tb := p.tables) (e := e) (below := below) (s := s) (U := W) X.here hexec X.warmed hpl hown (t := Bundle.initS znX) rfl rfl ⟨by decide, by decide⟩
    (a' (.methodLink own ic (Bundle.initS znX)) (by simp [znAtoms])) (h (.instanceMethod (Bundle.initS znX)) (by simp [znAtoms, Bundle.passSAtoms])) (bytes := znB) (maxL := 2) (h (.code (Bundle.initS znX) znB 2 none) (by simp [znAtoms, Bundle.passSAtoms]))
    (f := g) hg (a := a) (msg := msg) (rest := .ref a :: rest) hstack hd6
  cases Option.some.inj (hnC.symm.trans hP1m)
  have X₁ := X.noted hW₁
  obtain ⟨vm₂, X₂, st2⟩ := X₁.ctorMessageOffV hexec (g := { g with stack := .ref a :: rest }) hg hsize T L Z LZ M LM (P1 :: P2 :: Ps)
    (fun P hP => by
      rcases List.mem_cons.mp hP with rfl | hP
      · exact L1
      · rcases List.mem_cons.mp hP with rfl | hP
        · exact L2
        · exact hL P hP) ⟨hlink1, hlink2, hlink⟩ (u0 := u0) (sen := sen) (self := a) hmsg (cell := freshCell P1.m.cls kX) (cellS := cellS)
    hcell (fun _ => by simp) (by simp) rfl rfl hsel0 hselF hcellS hneS hknownS (by rw [hkeep _ (hout' _)]; exact hu0) (by rw [hkeep _ (hout' _)]; exact hsen)
    (Takes.of_laid hk hord tyC (by rw [Y.causeType]; rfl)) (Takes.of_laid hk hord tyS (by rw [Y.stackType]; exact fits_refV_array _ u0)) (Takes.of_laid hk hord tyP (by rw [Y.suppType]; exact fits_refV_object _ sen))
    (Takes.of_laid hk hord tyM (by rw [Y.msgType]; exact fits_refV_object _ ⟨msg, hmsg⟩)) Y.objLocals hskip htr [] hd6
    (by simp only [List.length_cons, hlen, List.length_nil]; omega) (by simp only [List.length_cons, hlen, List.length_nil]; exact hRlocals)
  obtain ⟨hwalk, hrun, hended, hWU, hsame⟩ := X₂.athrowLeaves hexec (g := { g with stack := .ref a :: rest, pc := g.pc + 3 }) hg hlocked hentered hout (a := a) (rest := rest) rfl hd9
  have hlt : a < ((W.setVm vm₁).setVm vm₂).heap.size := (Array.getElem?_eq_some_iff.mp hcell).1
  have hU := heapAt_setCell_self (s := (W.setVm vm₁).setVm vm₂) (plainBareV T.toThrowableT (freshCell P1.m.cls kX) a u0 sen msg) hlt
  refine ⟨_, st1 _ (fun acts => ?_), hrun, hended, hWU, hsame.weaken (fun y hy hlt' => ?_) (Nat.le_refl _) (Nat.le_refl _), _, hU, rfl, hfound⟩
  · rw [doInvoke_state]
    exact st2 _ hwalk
  · rcases List.mem_append.mp hy with h1 | h1
    · exact h1
    · exfalso
      have hb : y.base = a := by
        simp only [List.mem_cons, List.not_mem_nil, or_false] at h1
        rcases h1 with rfl | rfl | rfl | rfl | rfl <;> rfl
      rw [hb] at hlt'
      exact Nat.not_lt.mpr hnew hlt'
end ZN
/-- the words of 'throw new NoSuchElementException(text)' in a class -/
def LTN (own text : String) (ik is ic : Nat) : Prop := Cond.classLink own ik znX ∈ GW ∧ Cond.initialized znX ∈ GW ∧ Cond.stringRef own is text ∈ lw_tbl ∧ (∀ w ∈ zn_at own ic, w ∈ lw_tbl ∧ (goodWord w = true ∨ zNw w = true)) ∧ ∀ w ∈ Cond.classLink own ik znX :: Cond.initialized znX :: zn_at own ic, vx_ot w = true
set_option maxHeartbeats 4000000 in
theorem zn_throwS {p : Program} {l : Launch} {e : Env} {R : Room} {s : State} {m : MethodId} {args : Array Value} {below : List Frame} {meth : Method} {c : Code} {H : Heap} {locs : List Loc} {cells slots : Nat} {ls : Array Slot} {Qc : Array Value → State → Outcome → State → Prop} {XC : String → State → State → Prop} {free : Addr → Prop} {cc : ByteArray} {pc : Nat} (hexec : p.tables.exec = Jvm.exec) (hb : c.code = cc) (hl : l.stackTraces = false) {own text : String} {ik is ic mc ms sa : Nat} {A : Nat → Prop}
    (hown : s.vm.findClass own = some m.cls) (hk : (Cond.classLink own ik znX).before args s = true) (hini : (Cond.initialized znX).before args s = true) (hstr : vk_R own is text sa s) (hat : ∀ w ∈ zn_at own ic, w.before args s = true)
    (hgood : ∀ w ∈ Cond.classLink own ik znX :: Cond.initialized znX :: zn_at own ic, vx_ot w = true)
    (hU : vx_Zq Bundle.tN "UNASSIGNED_STACK" Bundle.steD A s s.heap) (hN : vx_Zq Bundle.tN "SUPPRESSED_SENTINEL" Bundle.listD A s s.heap) (hS : va_S A s.heap H locs) (hsize : ls.size = c.maxLocals)
    (d0 : decode cc pc = .ok (.new ik, 3)) (d3 : decode cc (pc + 3) = .ok (.dup, 1)) (d4 : decode cc (pc + 4) = .ok (.ldc is, 2)) (d6 : decode cc (pc + 6) = .ok (.invokespecial ic, 3)) (d9 : decode cc (pc + 9) = .ok (.athrow, 1))
    (hout : ∀ x ∈ c.exceptionTable.toList, covers x (pc + 9) = false)
    (hRframes : 5 < R.frames) (hRlocals : 82 ≤ R.locals) (hRcells : cells + 1 ≤ R.cells) (hRslots : slots + 6 ≤ R.slots) (hlocks : meth.locks = false)
    (hx : ∀ t : State, s.vm.Alike t.vm → H.size ≤ t.heap.size → (∀ q : Nat, q < H.size → t.heap[q]? = H[q]?) → XC znX s t)
    (hf : ∀ z ∈ locs, free z.base) (hc : cells + 1 ≤ mc) (hs : slots + 6 ≤ ms) :
    W p l e R s m args below meth c H locs cells slots (vx_MQ below Qc XC args s mc ms free) (F0 m pc ls []) := by
  intro T hT X
  have htr : e.platform.stackTraces = false := (show e.platform.stackTraces = l.stackTraces by rw [X.admits.platform]).trans hl
  have Y := vx_rebase X (R' := { frames := R.frames, locals := R.locals, cells := 1, slots := 6 }) (Nat.le_refl _) (Nat.le_refl _) hRcells hRslots
  obtain ⟨s', hA⟩ : ∃ z, z = (T.setVm s.vm).setFrames (.invoking m args :: below) := ⟨_, rfl⟩
  rw [← hA] at Y
  have hvm : s'.vm = s.vm := by rw [hA]; rfl
  have hhp : s'.heap = H := by rw [hA]; exact hT
  have hW0 : s.WarmedH s'.vm := by rw [hvm]; exact State.WarmedH.refl s
  have hat' : ∀ w ∈ zn_at own ic, w.before args s' = true := fun w hw => vx_ot_at hW0 hvm.symm (hgood w (List.mem_cons_of_mem _ (List.mem_cons_of_mem _ hw))) (hat w hw)
  have hk' : (Cond.classLink own ik znX).before args s' = true := vx_ot_at hW0 hvm.symm (hgood _ List.mem_cons_self) hk
  have hini' : (Cond.initialized znX).before args s' = true := vx_ot_at hW0 hvm.symm (hgood _ (List.mem_cons_of_mem _ List.mem_cons_self)) hini
  have hU' : vx_Zq Bundle.tN "UNASSIGNED_STACK" Bundle.steD A s' s'.heap := by rw [hhp]; exact vx_Zq.moved hW0.alike (hU.kept hS.2.1)
  have hN' : vx_Zq Bundle.tN "SUPPRESSED_SENTINEL" Bundle.listD A s' s'.heap := by rw [hhp]; exact vx_Zq.moved hW0.alike (hN.kept hS.2.1)
  have h : ∀ w ∈ znAtoms own ic, w.before args s' = true := vx_own hat' (vx_isRefq hU'.1) (vx_isRefq hN'.1) hU'.2.word hN'.2.word
  have hown' : s'.vm.findClass own = some m.cls := by rw [hvm]; exact hown
  have hins : (Cond.instantiable znX 6).before args s' = true := h _ (by simp [znAtoms])
  obtain ⟨vm₁, cX, kX, hfX, hkX, -, -, X₁, st1⟩ := Y.newCold hexec (own := own) (C := znX) (index := ik) (n := 6) hown' hk' hins hini'
    (g := F0 m pc ls []) rfl (by rw [hb]; exact d0) (Nat.le_refl _) (Nat.le_refl _)
  generalize hT1 : (T.setVm vm₁).pushCell { cls := cX, slots := kX.instanceTypes.map defaultValue, vm := .none } = T1 at X₁ st1
  have hcellA : T1.heap[T.heap.size]? = some (freshCell cX kX) := by rw [← hT1]; exact State.heap_pushCell_size _ _
  have d3' : decode c.code (pc + 3) = .ok (.dup, 1) := by rw [hb]; exact d3
  have d4' : decode c.code (pc + 4) = .ok (.ldc is, 2) := by rw [hb]; exact d4
  have hstr' : vk_R own is text sa s' := vk_R.warm hW0 hstr
  obtain ⟨U, hsteps, hrun, hend, hW, hsame, ce, hce, hO, hOc⟩ := zn_ctor X₁ hexec htr (own := own) (ic := ic) hown' h (fun x hx => nomatch hx) hfX hkX hcellA (by rw [hhp, hT]; exact Nat.le_refl _) (msg := .ref sa) rfl
    (g := { method := m, pc := pc + 6, locals := ls, stack := .ref sa :: .ref T.heap.size :: .ref T.heap.size :: [], locked := none }) rfl hsize rfl rfl (rest := []) rfl
    (by rw [hb]; exact d6) (by rw [hb]; exact d9) hout hRframes (by show 0 + 1 + (13 * 3 + 42) ≤ R.locals; omega) hlocks
  obtain ⟨f1, f2⟩ := vx_frame hsame
  rw [hhp] at f1 f2
  have hWs : s.WarmedH U.vm := State.WarmedH.trans hW0 hW
  have hcl : s.vm.findClass znX = some ce.cls := by
    have h9 := hOc
    rw [hvm] at h9
    exact h9
  have hall : s.sameButNew ({ U with vm := s.vm } : State) locs mc ms := by
    subst hA
    obtain ⟨e1, e2⟩ := hsame
    rw [State.setFrames_setFrames] at e1
    have h2 : (T.setVm s.vm).sameButNew ({ U with vm := s.vm } : State) [] (0 + 1) (0 + 6) := ⟨e1, e2⟩
    have h3 := X.same.trans h2
    rw [List.append_nil] at h3
    exact h3.mono hc hs
  refine ⟨U, ?_, .threw T.heap.size, hrun, hend, Or.inr ⟨T.heap.size, rfl, znX, ce, locs, hx U hWs.alike f1 (fun q hq => f2 q hq (fun z hz => nomatch hz)), hce, hO, hcl, hWs, hall, hf⟩⟩
  refine st1 _ ?_
  show Steps p.tables e below (T1.setTop { method := m, pc := pc + 3, locals := ls, stack := .ref T.heap.size :: [], locked := none }) _
  jvm_step X₁.here [X₁.here.top, hexec, d3', Value.category]
  exact X₁.ldcString hexec (own := own) (text := text) (index := is) (a := sa) hown' hstr'.1 hstr'.2
    (g := { method := m, pc := pc + 4, locals := ls, stack := .ref T.heap.size :: .ref T.heap.size :: [], locked := none }) rfl d4' _ hsteps
theorem v_throwNS {G : Gl} {Y : MD} {R : Room} {pc : Nat} {L : List (Nat × Value)} {μ : St} {cells slots : Nat} {P : Option Value → St → Prop} {X : String → St → Prop} {text : String} {ik is ic : Nat} (hT : LTN Y.1.cls text ik is ic) (hh : Y.2.2.2.2.2 = []) (d0 : decode Y.2.1 pc = .ok (.new ik, 3)) (d3 : decode Y.2.1 (pc + 3) = .ok (.dup, 1)) (d4 : decode Y.2.1 (pc + 4) = .ok (.ldc is, 2)) (d6 : decode Y.2.1 (pc + 6) = .ok (.invokespecial ic, 3)) (d9 : decode Y.2.1 (pc + 9) = .ok (.athrow, 1))
    (hR : 5 < R.frames ∧ 82 ≤ R.locals ∧ cells + 1 ≤ R.cells ∧ slots + 6 ≤ R.slots) (hc : cells + 1 ≤ Y.2.2.2.2.1.cells) (hs : slots + 6 ≤ Y.2.2.2.2.1.slots) (h : X znX μ) : V G Y R (QM G Y P X) pc L [] μ cells slots := by
  intro p l e s m args below meth c C H locs ls hW hS hl
  obtain ⟨hx, hb, hrt, hml, hown, hlocks, hts, hK, hlt, htab⟩ := C
  obtain ⟨t1, t2, t3, t6, t7⟩ := hT
  obtain ⟨k1, k2, k3, k4, k5, k6, k7, k8⟩ := hK
  obtain ⟨sa, hsa⟩ := k6 _ _ _ t3
  refine zn_throwS (text := text) (sa := sa) (A := fun q => G.1 ≤ q) hx hb hlt hown (hts _ t1) (hts _ t2) hsa (fun w hw => ?_) t7 k4 k5 hS (hl.1.trans hml.symm) d0 d3 d4 d6 d9 (fun x hx => ?_) hR.1 hR.2.1 hR.2.2.1 hR.2.2.2 hlocks (fun t ht hz hq => ?_) hS.2.2 hc hs
  · obtain ⟨w1, w2 | w2⟩ := t6 w hw
    · exact hts _ (List.mem_filter.mpr ⟨w1, w2⟩)
    · have h9 := k7 w w1 w2
      cases w <;> first | exact va_Nw.use rfl h9 | cases w2
  · rw [htab, hh] at hx
    cases hx
  · exact ⟨⟨μ, h, hW.kept hq⟩, Nat.le_trans hS.1 hz, fun q q1 q2 => by rw [hq q (Nat.lt_of_lt_of_le q1 hS.1)]; exact hS.2.1 q q1 q2⟩
set_option maxHeartbeats 4000000 in
theorem zn_throwW {p : Program} {l : Launch} {e : Env} {R : Room} {s : State} {m : MethodId} {args : Array Value} {below : List Frame} {meth : Method} {c : Code} {H : Heap} {locs : List Loc} {cells slots : Nat} {ls : Array Slot} {Qc : Array Value → State → Outcome → State → Prop} {XC : String → State → State → Prop} {free : Addr → Prop} {cc : ByteArray} {pc : Nat} (hexec : p.tables.exec = Jvm.exec) (hb : c.code = cc) (hl : l.stackTraces = false) {own text : String} {ik is ic mc ms sa : Nat} {A : Nat → Prop}
    (hown : s.vm.findClass own = some m.cls) (hk : (Cond.classLink own ik znX).before args s = true) (hini : (Cond.initialized znX).before args s = true) (hstr : vk_R own is text sa s) (hat : ∀ w ∈ zn_at own ic, w.before args s = true)
    (hgood : ∀ w ∈ Cond.classLink own ik znX :: Cond.initialized znX :: zn_at own ic, vx_ot w = true)
    (hU : vx_Zq Bundle.tN "UNASSIGNED_STACK" Bundle.steD A s s.heap) (hN : vx_Zq Bundle.tN "SUPPRESSED_SENTINEL" Bundle.listD A s s.heap) (hS : va_S A s.heap H locs) (hsize : ls.size = c.maxLocals)
    (d0 : decode cc pc = .ok (.new ik, 3)) (d3 : decode cc (pc + 3) = .ok (.dup, 1)) (d4 : decode cc (pc + 4) = .ok (.ldc_w is, 3)) (d6 : decode cc (pc + 7) = .ok (.invokespecial ic, 3)) (d9 : decode cc (pc + 10) = .ok (.athrow, 1))
    (hout : ∀ x ∈ c.exceptionTable.toList, covers x (pc + 10) = false)
    (hRframes : 5 < R.frames) (hRlocals : 82 ≤ R.locals) (hRcells : cells + 1 ≤ R.cells) (hRslots : slots + 6 ≤ R.slots) (hlocks : meth.locks = false)
    (hx : ∀ t : State, s.vm.Alike t.vm → H.size ≤ t.heap.size → (∀ q : Nat, q < H.size → t.heap[q]? = H[q]?) → XC znX s t)
    (hf : ∀ z ∈ locs, free z.base) (hc : cells + 1 ≤ mc) (hs : slots + 6 ≤ ms) :
    W p l e R s m args below meth c H locs cells slots (vx_MQ below Qc XC args s mc ms free) (F0 m pc ls []) := by
  intro T hT X
  have htr : e.platform.stackTraces = false := (show e.platform.stackTraces = l.stackTraces by rw [X.admits.platform]).trans hl
  have Y := vx_rebase X (R' := { frames := R.frames, locals := R.locals, cells := 1, slots := 6 }) (Nat.le_refl _) (Nat.le_refl _) hRcells hRslots
  obtain ⟨s', hA⟩ : ∃ z, z = (T.setVm s.vm).setFrames (.invoking m args :: below) := ⟨_, rfl⟩
  rw [← hA] at Y
  have hvm : s'.vm = s.vm := by rw [hA]; rfl
  have hhp : s'.heap = H := by rw [hA]; exact hT
  have hW0 : s.WarmedH s'.vm := by rw [hvm]; exact State.WarmedH.refl s
  have hat' : ∀ w ∈ zn_at own ic, w.before args s' = true := fun w hw => vx_ot_at hW0 hvm.symm (hgood w (List.mem_cons_of_mem _ (List.mem_cons_of_mem _ hw))) (hat w hw)
  have hk' : (Cond.classLink own ik znX).before args s' = true := vx_ot_at hW0 hvm.symm (hgood _ List.mem_cons_self) hk
  have hini' : (Cond.initialized znX).before args s' = true := vx_ot_at hW0 hvm.symm (hgood _ (List.mem_cons_of_mem _ List.mem_cons_self)) hini
  have hU' : vx_Zq Bundle.tN "UNASSIGNED_STACK" Bundle.steD A s' s'.heap := by rw [hhp]; exact vx_Zq.moved hW0.alike (hU.kept hS.2.1)
  have hN' : vx_Zq Bundle.tN "SUPPRESSED_SENTINEL" Bundle.listD A s' s'.heap := by rw [hhp]; exact vx_Zq.moved hW0.alike (hN.kept hS.2.1)
  have h : ∀ w ∈ znAtoms own ic, w.before args s' = true := vx_own hat' (vx_isRefq hU'.1) (vx_isRefq hN'.1) hU'.2.word hN'.2.word
  have hown' : s'.vm.findClass own = some m.cls := by rw [hvm]; exact hown
  have hins : (Cond.instantiable znX 6).before args s' = true := h _ (by simp [znAtoms])
  obtain ⟨vm₁, cX, kX, hfX, hkX, -, -, X₁, st1⟩ := Y.newCold hexec (own := own) (C := znX) (index := ik) (n := 6) hown' hk' hins hini'
    (g := F0 m pc ls []) rfl (by rw [hb]; exact d0) (Nat.le_refl _) (Nat.le_refl _)
  generalize hT1 : (T.setVm vm₁).pushCell { cls := cX, slots := kX.instanceTypes.map defaultValue, vm := .none } = T1 at X₁ st1
  have hcellA : T1.heap[T.heap.size]? = some (freshCell cX kX) := by rw [← hT1]; exact State.heap_pushCell_size _ _
  have d3' : decode c.code (pc + 3) = .ok (.dup, 1) := by rw [hb]; exact d3
  have d4' : decode c.code (pc + 4) = .ok (.ldc_w is, 3) := by rw [hb]; exact d4
  have hstr' : vk_R own is text sa s' := vk_R.warm hW0 hstr
  obtain ⟨U, hsteps, hrun, hend, hW, hsame, ce, hce, hO, hOc⟩ := zn_ctor X₁ hexec htr (own := own) (ic := ic) hown' h (fun x hx => nomatch hx) hfX hkX hcellA (by rw [hhp, hT]; exact Nat.le_refl _) (msg := .ref sa) rfl
    (g := { method := m, pc := pc + 7, locals := ls, stack := .ref sa :: .ref T.heap.size :: .ref T.heap.size :: [], locked := none }) rfl hsize rfl rfl (rest := []) rfl
    (by rw [hb]; exact d6) (by rw [hb]; exact d9) hout hRframes (by show 0 + 1 + (13 * 3 + 42) ≤ R.locals; omega) hlocks
  obtain ⟨f1, f2⟩ := vx_frame hsame
  rw [hhp] at f1 f2
  have hWs : s.WarmedH U.vm := State.WarmedH.trans hW0 hW
  have hcl : s.vm.findClass znX = some ce.cls := by
    have h9 := hOc
    rw [hvm] at h9
    exact h9
  have hall : s.sameButNew ({ U with vm := s.vm } : State) locs mc ms := by
    subst hA
    obtain ⟨e1, e2⟩ := hsame
    rw [State.setFrames_setFrames] at e1
    have h2 : (T.setVm s.vm).sameButNew ({ U with vm := s.vm } : State) [] (0 + 1) (0 + 6) := ⟨e1, e2⟩
    have h3 := X.same.trans h2
    rw [List.append_nil] at h3
    exact h3.mono hc hs
  refine ⟨U, ?_, .threw T.heap.size, hrun, hend, Or.inr ⟨T.heap.size, rfl, znX, ce, locs, hx U hWs.alike f1 (fun q hq => f2 q hq (fun z hz => nomatch hz)), hce, hO, hcl, hWs, hall, hf⟩⟩
  refine st1 _ ?_
  show Steps p.tables e below (T1.setTop { method := m, pc := pc + 3, locals := ls, stack := .ref T.heap.size :: [], locked := none }) _
  jvm_step X₁.here [X₁.here.top, hexec, d3', Value.category]
  exact X₁.ldcStringW hexec (own := own) (text := text) (index := is) (a := sa) hown' hstr'.1 hstr'.2
    (g := { method := m, pc := pc + 4, locals := ls, stack := .ref T.heap.size :: .ref T.heap.size :: [], locked := none }) rfl d4' _ hsteps
theorem v_throwNW {G : Gl} {Y : MD} {R : Room} {pc : Nat} {L : List (Nat × Value)} {μ : St} {cells slots : Nat} {P : Option Value → St → Prop} {X : String → St → Prop} {text : String} {ik is ic : Nat} (hT : LTN Y.1.cls text ik is ic) (hh : Y.2.2.2.2.2 = []) (d0 : decode Y.2.1 pc = .ok (.new ik, 3)) (d3 : decode Y.2.1 (pc + 3) = .ok (.dup, 1)) (d4 : decode Y.2.1 (pc + 4) = .ok (.ldc_w is, 3)) (d6 : decode Y.2.1 (pc + 7) = .ok (.invokespecial ic, 3)) (d9 : decode Y.2.1 (pc + 10) = .ok (.athrow, 1))
    (hR : 5 < R.frames ∧ 82 ≤ R.locals ∧ cells + 1 ≤ R.cells ∧ slots + 6 ≤ R.slots) (hc : cells + 1 ≤ Y.2.2.2.2.1.cells) (hs : slots + 6 ≤ Y.2.2.2.2.1.slots) (h : X znX μ) : V G Y R (QM G Y P X) pc L [] μ cells slots := by
  intro p l e s m args below meth c C H locs ls hW hS hl
  obtain ⟨hx, hb, hrt, hml, hown, hlocks, hts, hK, hlt, htab⟩ := C
  obtain ⟨t1, t2, t3, t6, t7⟩ := hT
  obtain ⟨k1, k2, k3, k4, k5, k6, k7, k8⟩ := hK
  obtain ⟨sa, hsa⟩ := k6 _ _ _ t3
  refine zn_throwW (text := text) (sa := sa) (A := fun q => G.1 ≤ q) hx hb hlt hown (hts _ t1) (hts _ t2) hsa (fun w hw => ?_) t7 k4 k5 hS (hl.1.trans hml.symm) d0 d3 d4 d6 d9 (fun x hx => ?_) hR.1 hR.2.1 hR.2.2.1 hR.2.2.2 hlocks (fun t ht hz hq => ?_) hS.2.2 hc hs
  · obtain ⟨w1, w2 | w2⟩ := t6 w hw
    · exact hts _ (List.mem_filter.mpr ⟨w1, w2⟩)
    · have h9 := k7 w w1 w2
      cases w <;> first | exact va_Nw.use rfl h9 | cases w2
  · rw [htab, hh] at hx
    cases hx
  · exact ⟨⟨μ, h, hW.kept hq⟩, Nat.le_trans hS.1 hz, fun q q1 q2 => by rw [hq q (Nat.lt_of_lt_of_le q1 hS.1)]; exact hS.2.1 q q1 q2⟩
end
section
/-! ===== THE METHODS, and the words of their fields, calls and throws (by program) ===== -/
theorem TB_q1 {w : Cond} (i : Nat) (h : tables_1_1[i]? = some w) : w ∈ lw_tbl := List.mem_append_right _ (List.mem_append_left _ (List.mem_of_getElem? h))
theorem GW_q1 {w : Cond} (i : Nat) (h : tables_1_1[i]? = some w) (hg : goodWord w = true) : w ∈ GW := List.mem_filter.mpr ⟨TB_q1 i h, hg⟩
theorem TB_q2 {w : Cond} (i : Nat) (h : tables_1_2[i]? = some w) : w ∈ lw_tbl := List.mem_append_right _ (List.mem_append_right _ (List.mem_append_left _ (List.mem_of_getElem? h)))
theorem GW_q2 {w : Cond} (i : Nat) (h : tables_1_2[i]? = some w) (hg : goodWord w = true) : w ∈ GW := List.mem_filter.mpr ⟨TB_q2 i h, hg⟩
theorem TB_q3 {w : Cond} (i : Nat) (h : tables_1_3[i]? = some w) : w ∈ lw_tbl := List.mem_append_right _ (List.mem_append_right _ (List.mem_append_right _ (List.mem_append_left _ (List.mem_of_getElem? h))))
theorem GW_q3 {w : Cond} (i : Nat) (h : tables_1_3[i]? = some w) (hg : goodWord w = true) : w ∈ GW := List.mem_filter.mpr ⟨TB_q3 i h, hg⟩
theorem TB_q4 {w : Cond} (i : Nat) (h : tables_1_4[i]? = some w) : w ∈ lw_tbl := List.mem_append_right _ (List.mem_append_right _ (List.mem_append_right _ (List.mem_append_right _ (List.mem_append_left _ (List.mem_of_getElem? h)))))
theorem GW_q4 {w : Cond} (i : Nat) (h : tables_1_4[i]? = some w) (hg : goodWord w = true) : w ∈ GW := List.mem_filter.mpr ⟨TB_q4 i h, hg⟩
theorem TB_q5 {w : Cond} (i : Nat) (h : tables_1_5[i]? = some w) : w ∈ lw_tbl := List.mem_append_right _ (List.mem_append_right _ (List.mem_append_right _ (List.mem_append_right _ (List.mem_append_right _ (List.mem_append_left _ (List.mem_of_getElem? h))))))
theorem GW_q5 {w : Cond} (i : Nat) (h : tables_1_5[i]? = some w) (hg : goodWord w = true) : w ∈ GW := List.mem_filter.mpr ⟨TB_q5 i h, hg⟩
theorem TB_q6 {w : Cond} (i : Nat) (h : tables_1_6[i]? = some w) : w ∈ lw_tbl := List.mem_append_right _ (List.mem_append_right _ (List.mem_append_right _ (List.mem_append_right _ (List.mem_append_right _ (List.mem_append_right _ (List.mem_append_left _ (List.mem_of_getElem? h)))))))
theorem GW_q6 {w : Cond} (i : Nat) (h : tables_1_6[i]? = some w) (hg : goodWord w = true) : w ∈ GW := List.mem_filter.mpr ⟨TB_q6 i h, hg⟩
theorem TB_q7 {w : Cond} (i : Nat) (h : tables_1_7[i]? = some w) : w ∈ lw_tbl := List.mem_append_right _ (List.mem_append_right _ (List.mem_append_right _ (List.mem_append_right _ (List.mem_append_right _ (List.mem_append_right _ (List.mem_append_right _ (List.mem_of_getElem? h)))))))
theorem GW_q7 {w : Cond} (i : Nat) (h : tables_1_7[i]? = some w) (hg : goodWord w = true) : w ∈ GW := List.mem_filter.mpr ⟨TB_q7 i h, hg⟩
def MVok (Z : MD) (k n : Nat) : Prop := k < 20 ∧ (∃ (T : u_T) (N : Nat), vwCl[k]? = some (Z.1.cls, T, N)) ∧ Cond.instanceMethod Z.1 ∈ GW ∧ Cond.selects Z.1.cls Z.1 Z.1 ∈ GW ∧ Cond.initialized Z.1.cls ∈ GW ∧ Cond.code Z.1 Z.2.1 Z.2.2.1 Z.2.2.2.1 ∈ GW ∧ Z.1.cls ≠ "java/lang/invoke/MethodHandle" ∧ Z.1.cls ≠ "java/lang/invoke/VarHandle" ∧ (parseMethodDescriptor Z.1.desc).map (fun d => d.parameters.length) = some n
theorem lkv {own : String} {index k n : Nat} {Z : MD} (h : MVok Z k n) (hl : Cond.methodLink own index Z.1 ∈ GW) : LKV own index Z k n := ⟨h.1, h.2.1, hl, h.2.2⟩
def MSok (Z : MD) (n : Nat) : Prop := Cond.static Z.1 ∈ GW ∧ Cond.initialized Z.1.cls ∈ GW ∧ Cond.code Z.1 Z.2.1 Z.2.2.1 Z.2.2.2.1 ∈ GW ∧ Z.1.cls ≠ "java/lang/invoke/MethodHandle" ∧ Z.1.cls ≠ "java/lang/invoke/VarHandle" ∧ (parseMethodDescriptor Z.1.desc).map (fun d => d.parameters.length) = some n
def MHok (Z : MD) (n : Nat) : Prop := Cond.static Z.1 ∈ GW ∧ Cond.initialized Z.1.cls ∈ GW ∧ Cond.codeWith Z.1 Z.2.1 Z.2.2.1 Z.2.2.2.1 Z.2.2.2.2.2 ∈ GW ∧ Z.1.cls ≠ "java/lang/invoke/MethodHandle" ∧ Z.1.cls ≠ "java/lang/invoke/VarHandle" ∧ (parseMethodDescriptor Z.1.desc).map (fun d => d.parameters.length) = some n
theorem ini_RL : Cond.initialized "SlopeOperatorLaw" ∈ GW := GW_q1 0 (by decide +kernel) rfl
theorem ini_RX7 : Cond.initialized "SlopeOperator" ∈ GW := GW_q1 1 (by decide +kernel) rfl
theorem ini_RX0 : Cond.initialized "SlopeOperator$Area" ∈ GW := GW_q1 2 (by decide +kernel) rfl
theorem ini_RX4 : Cond.initialized "SlopeOperator$Lift" ∈ GW := GW_q1 3 (by decide +kernel) rfl
theorem ini_RX5 : Cond.initialized "SlopeOperator$Piste" ∈ GW := GW_q1 4 (by decide +kernel) rfl
theorem ini_RX1 : Cond.initialized "SlopeOperator$Guest" ∈ GW := GW_q1 5 (by decide +kernel) rfl
theorem ini_RX2 : Cond.initialized "SlopeOperator$History" ∈ GW := GW_q1 6 (by decide +kernel) rfl
theorem ini_RX3 : Cond.initialized "SlopeOperator$Input" ∈ GW := GW_q1 7 (by decide +kernel) rfl
theorem ini_RX6 : Cond.initialized "SlopeOperator$Ways" ∈ GW := GW_q1 8 (by decide +kernel) rfl
theorem ini_RX8 : Cond.initialized "SlopeOperatorModel" ∈ GW := GW_q1 9 (by decide +kernel) rfl
theorem ini_JThrowable : Cond.initialized "java/lang/Throwable" ∈ GW := GW_q1 10 (by decide +kernel) rfl
theorem ini_JException : Cond.initialized "java/lang/Exception" ∈ GW := GW_q1 11 (by decide +kernel) rfl
theorem ini_JRuntimeException : Cond.initialized "java/lang/RuntimeException" ∈ GW := GW_q1 12 (by decide +kernel) rfl
theorem ini_JIndexOutOfBoundsException : Cond.initialized "java/lang/IndexOutOfBoundsException" ∈ GW := GW_q1 13 (by decide +kernel) rfl
theorem ini_JArrayIndexOutOfBoundsException : Cond.initialized "java/lang/ArrayIndexOutOfBoundsException" ∈ GW := GW_q1 14 (by decide +kernel) rfl
theorem ini_JString : Cond.initialized "java/lang/String" ∈ GW := GW_q1 15 (by decide +kernel) rfl
theorem ini_JIllegalArgumentException : Cond.initialized "java/lang/IllegalArgumentException" ∈ GW := GW_q1 16 (by decide +kernel) rfl
theorem ini_JIllegalStateException : Cond.initialized "java/lang/IllegalStateException" ∈ GW := GW_q1 17 (by decide +kernel) rfl
theorem ini_JMath : Cond.initialized "java/lang/Math" ∈ GW := GW_q1 18 (by decide +kernel) rfl
theorem ini_JUnsupportedOperationException : Cond.initialized "java/lang/UnsupportedOperationException" ∈ GW := GW_q1 19 (by decide +kernel) rfl
theorem ini_JNoSuchElementException : Cond.initialized "java/util/NoSuchElementException" ∈ GW := GW_q1 20 (by decide +kernel) rfl
theorem ini_JArithmeticException : Cond.initialized "java/lang/ArithmeticException" ∈ GW := GW_q1 21 (by decide +kernel) rfl
theorem GW_ps {ws : List Cond} (ps : List Nat) (hp : ws = ps.filterMap (fun i => tables_1[i]?)) (h : ws.all goodWord = true) : ∀ w ∈ ws, w ∈ GW := by
  intro w hw
  have h1 := List.all_eq_true.mp h w hw
  rw [hp] at hw
  obtain ⟨i, -, hi⟩ := List.mem_filterMap.mp hw
  exact GW_of i hi h1
abbrev mX7_init : MD := (yX7_init, cX7_init, 1, none, ({ frames := 0, cells := 0, slots := 0, locals := 0 } : Room), [])
abbrev mX0_init : MD := (yX0_init, cX0_init, 2, none, ({ frames := 0, cells := 0, slots := 0, locals := 0 } : Room), [])
abbrev mX4_init : MD := (yX4_init, cX4_init, 1, none, ({ frames := 0, cells := 0, slots := 0, locals := 0 } : Room), [])
abbrev mX5_init : MD := (yX5_init, cX5_init, 1, none, ({ frames := 0, cells := 0, slots := 0, locals := 0 } : Room), [])
abbrev mX1_init : MD := (yX1_init, cX1_init, 1, none, ({ frames := 0, cells := 0, slots := 0, locals := 0 } : Room), [])
abbrev mX2_init : MD := (yX2_init, cX2_init, 2, none, ({ frames := 0, cells := 0, slots := 0, locals := 0 } : Room), [])
abbrev mX3_init : MD := (yX3_init, cX3_init, 1, none, ({ frames := 0, cells := 0, slots := 0, locals := 0 } : Room), [])
abbrev mX6_init : MD := (yX6_init, cX6_init, 1, none, ({ frames := 0, cells := 0, slots := 0, locals := 0 } : Room), [])
abbrev mX7_clear : MD := (yX7_clear, cX7_clear, 2, some .int, ({ frames := 1, cells := 0, slots := 0, locals := 20 } : Room), [])
abbrev mX0_becomeEmpty : MD := (yX0_becomeEmpty, cX0_becomeEmpty, 1, none, ({ frames := 0, cells := 0, slots := 0, locals := 0 } : Room), [])
abbrev mX2_forgetAll : MD := (yX2_forgetAll, cX2_forgetAll, 1, none, ({ frames := 0, cells := 0, slots := 0, locals := 0 } : Room), [])
abbrev mX7_audit : MD := (yX7_audit, cX7_audit, 1, some .int, ({ frames := 2, cells := 0, slots := 0, locals := 43 } : Room), [])
abbrev mX0_accountsGap : MD := (yX0_accountsGap, cX0_accountsGap, 4, some .int, ({ frames := 1, cells := 0, slots := 0, locals := 20 } : Room), [])
abbrev mJ9_abs_0f7a4 : MD := (yJ9_abs_0f7a4, cJ9_abs_0f7a4, 1, some .int, ({ frames := 0, cells := 0, slots := 0, locals := 0 } : Room), [])
abbrev mX7_save : MD := (yX7_save, cX7_save, 1, some .int, ({ frames := 3, cells := 0, slots := 0, locals := 67 } : Room), [])
abbrev mX0_copyFrom : MD := (yX0_copyFrom, cX0_copyFrom, 3, none, ({ frames := 2, cells := 0, slots := 0, locals := 45 } : Room), [])
abbrev mX4_copyFrom : MD := (yX4_copyFrom, cX4_copyFrom, 2, none, ({ frames := 0, cells := 0, slots := 0, locals := 0 } : Room), [])
abbrev mX5_copyFrom : MD := (yX5_copyFrom, cX5_copyFrom, 2, none, ({ frames := 0, cells := 0, slots := 0, locals := 0 } : Room), [])
abbrev mX1_copyFrom : MD := (yX1_copyFrom, cX1_copyFrom, 2, none, ({ frames := 1, cells := 0, slots := 0, locals := 24 } : Room), [])
abbrev mX1_become : MD := (yX1_become, cX1_become, 5, none, ({ frames := 0, cells := 0, slots := 0, locals := 0 } : Room), [])
abbrev mL_addLift : MD := (yL_addLift, cL_addLift, 9, some .int, ({ frames := 7, cells := 1, slots := 6, locals := 114 } : Room), [(0, 18, 21, 13), (0, 18, 25, 15), (0, 18, 29, 17)])
abbrev mJx00060_init_a7421 : MD := (yJx00060_init_a7421, cJx00060_init_a7421, 2, none, ({ frames := 0, cells := 0, slots := 0, locals := 0 } : Room), [])
abbrev mX7_addLift : MD := (yX7_addLift, cX7_addLift, 7, some .int, ({ frames := 6, cells := 1, slots := 6, locals := 88 } : Room), [])
abbrev mX7_isStation : MD := (yX7_isStation, cX7_isStation, 1, some .boolean, ({ frames := 1, cells := 0, slots := 0, locals := 22 } : Room), [])
abbrev mX7_isBetween : MD := (yX7_isBetween, cX7_isBetween, 3, some .boolean, ({ frames := 0, cells := 0, slots := 0, locals := 0 } : Room), [])
abbrev mX2_remember : MD := (yX2_remember, cX2_remember, 2, none, ({ frames := 3, cells := 0, slots := 0, locals := 67 } : Room), [])
abbrev mJ9_floorMod_7cf53 : MD := (yJ9_floorMod_7cf53, cJ9_floorMod_7cf53, 3, some .int, ({ frames := 0, cells := 0, slots := 0, locals := 0 } : Room), [])
abbrev mJ9_min_7cf53 : MD := (yJ9_min_7cf53, cJ9_min_7cf53, 2, some .int, ({ frames := 0, cells := 0, slots := 0, locals := 0 } : Room), [])
abbrev mX4_begin : MD := (yX4_begin, cX4_begin, 7, none, ({ frames := 0, cells := 0, slots := 0, locals := 0 } : Room), [])
abbrev mL_addPiste : MD := (yL_addPiste, cL_addPiste, 7, some .int, ({ frames := 7, cells := 1, slots := 6, locals := 112 } : Room), [(0, 14, 17, 13), (0, 14, 21, 15), (0, 14, 25, 17)])
abbrev mX7_addPiste : MD := (yX7_addPiste, cX7_addPiste, 5, some .int, ({ frames := 6, cells := 1, slots := 6, locals := 88 } : Room), [])
abbrev mX5_begin : MD := (yX5_begin, cX5_begin, 5, none, ({ frames := 0, cells := 0, slots := 0, locals := 0 } : Room), [])
abbrev mL_setWind : MD := (yL_setWind, cL_setWind, 4, some .int, ({ frames := 7, cells := 1, slots := 6, locals := 109 } : Room), [(0, 9, 12, 15)])
abbrev mX7_setWind : MD := (yX7_setWind, cX7_setWind, 2, some .int, ({ frames := 6, cells := 1, slots := 6, locals := 88 } : Room), [])
abbrev mX0_heldLifts : MD := (yX0_heldLifts, cX0_heldLifts, 3, some .int, ({ frames := 2, cells := 0, slots := 0, locals := 43 } : Room), [])
abbrev mX0_isHeld : MD := (yX0_isHeld, cX0_isHeld, 2, some .boolean, ({ frames := 1, cells := 0, slots := 0, locals := 22 } : Room), [])
abbrev mX0_speedOf : MD := (yX0_speedOf, cX0_speedOf, 3, some .int, ({ frames := 0, cells := 0, slots := 0, locals := 0 } : Room), [])
abbrev mL_lift : MD := (yL_lift, cL_lift, 5, some .int, ({ frames := 7, cells := 1, slots := 6, locals := 105 } : Room), [(0, 10, 13, 13), (0, 10, 17, 15)])
abbrev mX7_lift : MD := (yX7_lift, cX7_lift, 4, some .int, ({ frames := 6, cells := 1, slots := 6, locals := 82 } : Room), [])
abbrev mX0_liftAt : MD := (yX0_liftAt, cX0_liftAt, 2, some (.object "SlopeOperator$Lift"), ({ frames := 0, cells := 0, slots := 0, locals := 0 } : Room), [])
abbrev mX0_guestsWith : MD := (yX0_guestsWith, cX0_guestsWith, 5, some .int, ({ frames := 1, cells := 0, slots := 0, locals := 22 } : Room), [])
abbrev mX1_is : MD := (yX1_is, cX1_is, 3, some .boolean, ({ frames := 0, cells := 0, slots := 0, locals := 0 } : Room), [])
abbrev mL_piste : MD := (yL_piste, cL_piste, 5, some .int, ({ frames := 7, cells := 1, slots := 6, locals := 105 } : Room), [(0, 10, 13, 13), (0, 10, 17, 15)])
abbrev mX7_piste : MD := (yX7_piste, cX7_piste, 4, some .int, ({ frames := 6, cells := 1, slots := 6, locals := 82 } : Room), [])
abbrev mX0_pisteAt : MD := (yX0_pisteAt, cX0_pisteAt, 2, some (.object "SlopeOperator$Piste"), ({ frames := 0, cells := 0, slots := 0, locals := 0 } : Room), [])
abbrev mL_open : MD := (yL_open, cL_open, 5, some .int, ({ frames := 7, cells := 1, slots := 6, locals := 112 } : Room), [(0, 10, 13, 13), (0, 10, 17, 17)])
abbrev mX7_open : MD := (yX7_open, cX7_open, 5, some .int, ({ frames := 6, cells := 1, slots := 6, locals := 88 } : Room), [])
abbrev mL_groom : MD := (yL_groom, cL_groom, 4, some .int, ({ frames := 7, cells := 1, slots := 6, locals := 110 } : Room), [(0, 9, 12, 13), (0, 9, 15, 17)])
abbrev mX7_groom : MD := (yX7_groom, cX7_groom, 3, some .int, ({ frames := 6, cells := 1, slots := 6, locals := 88 } : Room), [])
abbrev mL_count : MD := (yL_count, cL_count, 4, some .int, ({ frames := 7, cells := 1, slots := 6, locals := 103 } : Room), [(0, 9, 12, 15)])
abbrev mX7_count : MD := (yX7_count, cX7_count, 2, some .int, ({ frames := 6, cells := 1, slots := 6, locals := 82 } : Room), [])
abbrev mX0_guestsIn : MD := (yX0_guestsIn, cX0_guestsIn, 4, some .int, ({ frames := 0, cells := 0, slots := 0, locals := 0 } : Room), [])
abbrev mX0_openPistes : MD := (yX0_openPistes, cX0_openPistes, 3, some .int, ({ frames := 0, cells := 0, slots := 0, locals := 0 } : Room), [])
abbrev mL_addGuest : MD := (yL_addGuest, cL_addGuest, 8, some .int, ({ frames := 7, cells := 1, slots := 6, locals := 113 } : Room), [(0, 16, 19, 13), (0, 16, 23, 15), (0, 16, 27, 17)])
abbrev mX7_addGuest : MD := (yX7_addGuest, cX7_addGuest, 6, some .int, ({ frames := 6, cells := 1, slots := 6, locals := 88 } : Room), [])
abbrev mX0_welcome : MD := (yX0_welcome, cX0_welcome, 6, some .int, ({ frames := 2, cells := 0, slots := 0, locals := 49 } : Room), [])
abbrev mX1_begin : MD := (yX1_begin, cX1_begin, 6, none, ({ frames := 1, cells := 0, slots := 0, locals := 24 } : Room), [])
abbrev mL_guest : MD := (yL_guest, cL_guest, 5, some .int, ({ frames := 7, cells := 1, slots := 6, locals := 105 } : Room), [(0, 10, 13, 13), (0, 10, 17, 15)])
abbrev mX7_guest : MD := (yX7_guest, cX7_guest, 4, some .int, ({ frames := 6, cells := 1, slots := 6, locals := 82 } : Room), [])
abbrev mX0_guestAt : MD := (yX0_guestAt, cX0_guestAt, 2, some (.object "SlopeOperator$Guest"), ({ frames := 0, cells := 0, slots := 0, locals := 0 } : Room), [])
abbrev mL_queue : MD := (yL_queue, cL_queue, 5, some .int, ({ frames := 7, cells := 1, slots := 6, locals := 113 } : Room), [(0, 10, 13, 13), (0, 10, 17, 54)])
abbrev mX7_queue : MD := (yX7_queue, cX7_queue, 6, some .int, ({ frames := 6, cells := 1, slots := 6, locals := 88 } : Room), [])
abbrev mX0_queueRefusal : MD := (yX0_queueRefusal, cX0_queueRefusal, 4, some .int, ({ frames := 2, cells := 0, slots := 0, locals := 46 } : Room), [])
abbrev mX0_isOpenedFor : MD := (yX0_isOpenedFor, cX0_isOpenedFor, 3, some .boolean, ({ frames := 0, cells := 0, slots := 0, locals := 0 } : Room), [])
abbrev mX7_keepRefusal : MD := (yX7_keepRefusal, cX7_keepRefusal, 3, none, ({ frames := 0, cells := 0, slots := 0, locals := 0 } : Room), [])
abbrev mX0_joinQueue : MD := (yX0_joinQueue, cX0_joinQueue, 3, some .int, ({ frames := 2, cells := 0, slots := 0, locals := 46 } : Room), [])
abbrev mL_ski : MD := (yL_ski, cL_ski, 5, some .int, ({ frames := 7, cells := 1, slots := 6, locals := 113 } : Room), [(0, 10, 13, 13), (0, 10, 17, 54)])
abbrev mX7_ski : MD := (yX7_ski, cX7_ski, 6, some .int, ({ frames := 6, cells := 1, slots := 6, locals := 88 } : Room), [])
abbrev mX0_skiRefusal : MD := (yX0_skiRefusal, cX0_skiRefusal, 3, some .int, ({ frames := 1, cells := 0, slots := 0, locals := 21 } : Room), [])
abbrev mX5_isTooDifficultFor : MD := (yX5_isTooDifficultFor, cX5_isTooDifficultFor, 2, some .boolean, ({ frames := 0, cells := 0, slots := 0, locals := 0 } : Room), [])
abbrev mX0_startPiste : MD := (yX0_startPiste, cX0_startPiste, 4, some .int, ({ frames := 1, cells := 0, slots := 0, locals := 24 } : Room), [])
abbrev mX5_restFor : MD := (yX5_restFor, cX5_restFor, 2, some .int, ({ frames := 0, cells := 0, slots := 0, locals := 0 } : Room), [])
abbrev mL_leave : MD := (yL_leave, cL_leave, 4, some .int, ({ frames := 7, cells := 1, slots := 6, locals := 110 } : Room), [(0, 9, 12, 13), (0, 9, 15, 17)])
abbrev mX7_leave : MD := (yX7_leave, cX7_leave, 3, some .int, ({ frames := 6, cells := 1, slots := 6, locals := 88 } : Room), [])
abbrev mX1_goAway : MD := (yX1_goAway, cX1_goAway, 1, none, ({ frames := 1, cells := 0, slots := 0, locals := 24 } : Room), [])
abbrev mX0_leaveQueue : MD := (yX0_leaveQueue, cX0_leaveQueue, 4, none, ({ frames := 2, cells := 0, slots := 0, locals := 45 } : Room), [])
abbrev mX1_standAt : MD := (yX1_standAt, cX1_standAt, 2, none, ({ frames := 1, cells := 0, slots := 0, locals := 24 } : Room), [])
abbrev mL_whyNotQueue : MD := (yL_whyNotQueue, cL_whyNotQueue, 5, some .int, ({ frames := 7, cells := 1, slots := 6, locals := 106 } : Room), [(0, 10, 13, 13)])
abbrev mX7_whyNotQueue : MD := (yX7_whyNotQueue, cX7_whyNotQueue, 5, some .int, ({ frames := 6, cells := 1, slots := 6, locals := 82 } : Room), [])
abbrev mL_whyNotSki : MD := (yL_whyNotSki, cL_whyNotSki, 5, some .int, ({ frames := 7, cells := 1, slots := 6, locals := 106 } : Room), [(0, 10, 13, 13)])
abbrev mX7_whyNotSki : MD := (yX7_whyNotSki, cX7_whyNotSki, 5, some .int, ({ frames := 6, cells := 1, slots := 6, locals := 82 } : Room), [])
abbrev mL_reason : MD := (yL_reason, cL_reason, 3, some .int, ({ frames := 7, cells := 1, slots := 6, locals := 102 } : Room), [(0, 8, 11, 72)])
abbrev mX7_reason : MD := (yX7_reason, cX7_reason, 1, some .int, ({ frames := 6, cells := 1, slots := 6, locals := 82 } : Room), [])
abbrev mL_opened : MD := (yL_opened, cL_opened, 4, some .int, ({ frames := 7, cells := 1, slots := 6, locals := 104 } : Room), [(0, 9, 12, 13)])
abbrev mX7_opened : MD := (yX7_opened, cX7_opened, 3, some .int, ({ frames := 6, cells := 1, slots := 6, locals := 82 } : Room), [])
abbrev mX0_liftsOpenedFor : MD := (yX0_liftsOpenedFor, cX0_liftsOpenedFor, 4, some .int, ({ frames := 1, cells := 0, slots := 0, locals := 22 } : Room), [])
abbrev mL_queued : MD := (yL_queued, cL_queued, 5, some .int, ({ frames := 7, cells := 1, slots := 6, locals := 105 } : Room), [(0, 10, 13, 13), (0, 10, 17, 72)])
abbrev mX7_queued : MD := (yX7_queued, cX7_queued, 4, some .int, ({ frames := 6, cells := 1, slots := 6, locals := 82 } : Room), [])
abbrev mX0_guestInQueue : MD := (yX0_guestInQueue, cX0_guestInQueue, 4, some .int, ({ frames := 1, cells := 0, slots := 0, locals := 22 } : Room), [])
abbrev mL_advance : MD := (yL_advance, cL_advance, 4, some .int, ({ frames := 7, cells := 1, slots := 6, locals := 114 } : Room), [(0, 9, 12, 15), (0, 9, 15, 17)])
abbrev mX7_advance : MD := (yX7_advance, cX7_advance, 2, some .int, ({ frames := 6, cells := 1, slots := 6, locals := 93 } : Room), [])
abbrev mX0_passTicks : MD := (yX0_passTicks, cX0_passTicks, 4, some .int, ({ frames := 3, cells := 0, slots := 0, locals := 70 } : Room), [])
abbrev mX0_moveRiders : MD := (yX0_moveRiders, cX0_moveRiders, 5, some .int, ({ frames := 2, cells := 0, slots := 0, locals := 45 } : Room), [])
abbrev mX0_moveSkiers : MD := (yX0_moveSkiers, cX0_moveSkiers, 5, some .int, ({ frames := 2, cells := 0, slots := 0, locals := 45 } : Room), [])
abbrev mX0_turnLifts : MD := (yX0_turnLifts, cX0_turnLifts, 3, none, ({ frames := 2, cells := 0, slots := 0, locals := 48 } : Room), [])
abbrev mX4_stepsToCabin : MD := (yX4_stepsToCabin, cX4_stepsToCabin, 2, some .int, ({ frames := 0, cells := 0, slots := 0, locals := 0 } : Room), [])
abbrev mX0_boardCabin : MD := (yX0_boardCabin, cX0_boardCabin, 5, none, ({ frames := 1, cells := 0, slots := 0, locals := 24 } : Room), [])
abbrev mX4_restOfRide : MD := (yX4_restOfRide, cX4_restOfRide, 1, some .int, ({ frames := 0, cells := 0, slots := 0, locals := 0 } : Room), [])
abbrev mX0_groomPistes : MD := (yX0_groomPistes, cX0_groomPistes, 3, none, ({ frames := 1, cells := 0, slots := 0, locals := 20 } : Room), [])
abbrev mX5_becomeFresh : MD := (yX5_becomeFresh, cX5_becomeFresh, 1, none, ({ frames := 0, cells := 0, slots := 0, locals := 0 } : Room), [])
abbrev mX0_closeWornPistes : MD := (yX0_closeWornPistes, cX0_closeWornPistes, 2, none, ({ frames := 0, cells := 0, slots := 0, locals := 0 } : Room), [])
abbrev mL_endDay : MD := (yL_endDay, cL_endDay, 3, some .int, ({ frames := 7, cells := 1, slots := 6, locals := 108 } : Room), [(0, 8, 11, 17)])
abbrev mX7_endDay : MD := (yX7_endDay, cX7_endDay, 1, some .int, ({ frames := 6, cells := 1, slots := 6, locals := 88 } : Room), [])
abbrev mX0_closeDay : MD := (yX0_closeDay, cX0_closeDay, 3, some .int, ({ frames := 2, cells := 0, slots := 0, locals := 44 } : Room), [])
abbrev mL_arrival : MD := (yL_arrival, cL_arrival, 4, some .int, ({ frames := 7, cells := 1, slots := 6, locals := 132 } : Room), [(0, 9, 12, 13), (0, 9, 15, 72)])
abbrev mX7_arrival : MD := (yX7_arrival, cX7_arrival, 4, some .int, ({ frames := 6, cells := 1, slots := 6, locals := 109 } : Room), [])
abbrev mX0_ticksToStation : MD := (yX0_ticksToStation, cX0_ticksToStation, 2, some .int, ({ frames := 4, cells := 0, slots := 0, locals := 88 } : Room), [])
abbrev mX0_ticksOnLift : MD := (yX0_ticksOnLift, cX0_ticksOnLift, 3, some .int, ({ frames := 2, cells := 0, slots := 0, locals := 43 } : Room), [])
abbrev mX7_ticksFor : MD := (yX7_ticksFor, cX7_ticksFor, 2, some .int, ({ frames := 0, cells := 0, slots := 0, locals := 0 } : Room), [])
abbrev mX0_ticksFromQueue : MD := (yX0_ticksFromQueue, cX0_ticksFromQueue, 4, some .int, ({ frames := 3, cells := 0, slots := 0, locals := 65 } : Room), [])
abbrev mL_nextCabin : MD := (yL_nextCabin, cL_nextCabin, 4, some .int, ({ frames := 7, cells := 1, slots := 6, locals := 105 } : Room), [(0, 9, 12, 13), (0, 9, 15, 72)])
abbrev mX7_nextCabin : MD := (yX7_nextCabin, cX7_nextCabin, 4, some .int, ({ frames := 6, cells := 1, slots := 6, locals := 82 } : Room), [])
abbrev mL_duration : MD := (yL_duration, cL_duration, 6, some .int, ({ frames := 7, cells := 1, slots := 6, locals := 139 } : Room), [(0, 12, 15, 13), (0, 12, 19, 72)])
abbrev mX7_duration : MD := (yX7_duration, cX7_duration, 6, some .int, ({ frames := 6, cells := 1, slots := 6, locals := 114 } : Room), [])
abbrev mX6_measure : MD := (yX6_measure, cX6_measure, 5, none, ({ frames := 4, cells := 0, slots := 0, locals := 90 } : Room), [])
abbrev mX6_shorten : MD := (yX6_shorten, cX6_shorten, 6, some .boolean, ({ frames := 3, cells := 0, slots := 0, locals := 65 } : Room), [])
abbrev mX0_isWayFor : MD := (yX0_isWayFor, cX0_isWayFor, 3, some .boolean, ({ frames := 2, cells := 0, slots := 0, locals := 43 } : Room), [])
abbrev mX6_durationFrom : MD := (yX6_durationFrom, cX6_durationFrom, 2, some .int, ({ frames := 2, cells := 0, slots := 0, locals := 42 } : Room), [])
abbrev mX6_shortenFrom : MD := (yX6_shortenFrom, cX6_shortenFrom, 3, some .boolean, ({ frames := 2, cells := 0, slots := 0, locals := 42 } : Room), [])
abbrev mX0_isWayFor_ : MD := (yX0_isWayFor_, cX0_isWayFor_, 3, some .boolean, ({ frames := 1, cells := 0, slots := 0, locals := 21 } : Room), [])
abbrev mL_firstPart : MD := (yL_firstPart, cL_firstPart, 6, some .int, ({ frames := 7, cells := 1, slots := 6, locals := 139 } : Room), [(0, 12, 15, 13), (0, 12, 19, 72)])
abbrev mX7_firstPart : MD := (yX7_firstPart, cX7_firstPart, 6, some .int, ({ frames := 6, cells := 1, slots := 6, locals := 114 } : Room), [])
abbrev mX6_bestPartFrom : MD := (yX6_bestPartFrom, cX6_bestPartFrom, 7, some .int, ({ frames := 3, cells := 0, slots := 0, locals := 65 } : Room), [])
abbrev mL_reachable : MD := (yL_reachable, cL_reachable, 5, some .int, ({ frames := 7, cells := 1, slots := 6, locals := 139 } : Room), [(0, 10, 13, 13)])
abbrev mX7_reachable : MD := (yX7_reachable, cX7_reachable, 4, some .int, ({ frames := 6, cells := 1, slots := 6, locals := 116 } : Room), [])
abbrev mX6_stationsFrom : MD := (yX6_stationsFrom, cX6_stationsFrom, 6, some .int, ({ frames := 4, cells := 0, slots := 0, locals := 91 } : Room), [])
abbrev mX6_spread : MD := (yX6_spread, cX6_spread, 7, some .int, ({ frames := 3, cells := 0, slots := 0, locals := 65 } : Room), [])
abbrev mL_stranded : MD := (yL_stranded, cL_stranded, 5, some .int, ({ frames := 7, cells := 1, slots := 6, locals := 137 } : Room), [(0, 10, 13, 13)])
abbrev mX7_stranded : MD := (yX7_stranded, cX7_stranded, 4, some .int, ({ frames := 6, cells := 1, slots := 6, locals := 114 } : Room), [])
abbrev mX6_stationsWithoutWay : MD := (yX6_stationsWithoutWay, cX6_stationsWithoutWay, 3, some .int, ({ frames := 0, cells := 0, slots := 0, locals := 0 } : Room), [])
abbrev mL_liftAccount : MD := (yL_liftAccount, cL_liftAccount, 5, some .int, ({ frames := 7, cells := 1, slots := 6, locals := 105 } : Room), [(0, 10, 13, 13), (0, 10, 17, 15)])
abbrev mX7_liftAccount : MD := (yX7_liftAccount, cX7_liftAccount, 4, some .int, ({ frames := 6, cells := 1, slots := 6, locals := 82 } : Room), [])
abbrev mL_guestAccount : MD := (yL_guestAccount, cL_guestAccount, 5, some .int, ({ frames := 7, cells := 1, slots := 6, locals := 105 } : Room), [(0, 10, 13, 13), (0, 10, 17, 15)])
abbrev mX7_guestAccount : MD := (yX7_guestAccount, cX7_guestAccount, 4, some .int, ({ frames := 6, cells := 1, slots := 6, locals := 82 } : Room), [])
abbrev mL_pisteAccount : MD := (yL_pisteAccount, cL_pisteAccount, 4, some .int, ({ frames := 7, cells := 1, slots := 6, locals := 104 } : Room), [(0, 9, 12, 13)])
abbrev mX7_pisteAccount : MD := (yX7_pisteAccount, cX7_pisteAccount, 3, some .int, ({ frames := 6, cells := 1, slots := 6, locals := 82 } : Room), [])
abbrev mL_busiest : MD := (yL_busiest, cL_busiest, 3, some .int, ({ frames := 7, cells := 1, slots := 6, locals := 103 } : Room), [(0, 8, 11, 72)])
abbrev mX7_busiest : MD := (yX7_busiest, cX7_busiest, 2, some .int, ({ frames := 6, cells := 1, slots := 6, locals := 82 } : Room), [])
abbrev mX0_liftWithMostRiders : MD := (yX0_liftWithMostRiders, cX0_liftWithMostRiders, 4, some .int, ({ frames := 0, cells := 0, slots := 0, locals := 0 } : Room), [])
abbrev mL_load : MD := (yL_load, cL_load, 4, some .int, ({ frames := 7, cells := 1, slots := 6, locals := 104 } : Room), [(0, 8, 11, 13), (0, 8, 14, 121)])
abbrev mX7_load : MD := (yX7_load, cX7_load, 3, some .double, ({ frames := 6, cells := 1, slots := 6, locals := 82 } : Room), [])
abbrev mL_append : MD := (yL_append, cL_append, 4, some .int, ({ frames := 7, cells := 1, slots := 6, locals := 103 } : Room), [(0, 9, 12, 15), (0, 9, 15, 17)])
abbrev mX7_append : MD := (yX7_append, cX7_append, 2, some .int, ({ frames := 6, cells := 1, slots := 6, locals := 82 } : Room), [])
abbrev mX3_put : MD := (yX3_put, cX3_put, 2, some .int, ({ frames := 0, cells := 0, slots := 0, locals := 0 } : Room), [])
abbrev mL_read : MD := (yL_read, cL_read, 3, some .int, ({ frames := 7, cells := 1, slots := 6, locals := 164 } : Room), [(0, 8, 11, 15), (0, 8, 14, 17)])
abbrev mX7_read : MD := (yX7_read, cX7_read, 3, some .int, ({ frames := 6, cells := 1, slots := 6, locals := 142 } : Room), [])
abbrev mX3_isText : MD := (yX3_isText, cX3_isText, 1, some .boolean, ({ frames := 5, cells := 0, slots := 0, locals := 108 } : Room), [])
abbrev mX3_takeEntry : MD := (yX3_takeEntry, cX3_takeEntry, 1, some .boolean, ({ frames := 4, cells := 0, slots := 0, locals := 88 } : Room), [])
abbrev mX3_isHere : MD := (yX3_isHere, cX3_isHere, 3, some .boolean, ({ frames := 0, cells := 0, slots := 0, locals := 0 } : Room), [])
abbrev mX3_takeNumber : MD := (yX3_takeNumber, cX3_takeNumber, 3, some .boolean, ({ frames := 2, cells := 0, slots := 0, locals := 45 } : Room), [])
abbrev mX3_takeDigit : MD := (yX3_takeDigit, cX3_takeDigit, 4, some .int, ({ frames := 1, cells := 0, slots := 0, locals := 22 } : Room), [])
abbrev mX3_takeTarget : MD := (yX3_takeTarget, cX3_takeTarget, 3, some .boolean, ({ frames := 2, cells := 0, slots := 0, locals := 45 } : Room), [])
abbrev mX3_takeSign : MD := (yX3_takeSign, cX3_takeSign, 2, some .boolean, ({ frames := 1, cells := 0, slots := 0, locals := 22 } : Room), [])
abbrev mX3_takeGuest : MD := (yX3_takeGuest, cX3_takeGuest, 2, some .boolean, ({ frames := 3, cells := 0, slots := 0, locals := 67 } : Room), [])
abbrev mX3_becomeEmpty : MD := (yX3_becomeEmpty, cX3_becomeEmpty, 1, none, ({ frames := 0, cells := 0, slots := 0, locals := 0 } : Room), [])
abbrev mX7_doEntries : MD := (yX7_doEntries, cX7_doEntries, 4, some .int, ({ frames := 5, cells := 0, slots := 0, locals := 119 } : Room), [])
abbrev mX7_doEntry : MD := (yX7_doEntry, cX7_doEntry, 4, some .int, ({ frames := 4, cells := 0, slots := 0, locals := 96 } : Room), [])
abbrev mX7_addGuestByText : MD := (yX7_addGuestByText, cX7_addGuestByText, 3, some .int, ({ frames := 3, cells := 0, slots := 0, locals := 74 } : Room), [])
abbrev mX7_queueByText : MD := (yX7_queueByText, cX7_queueByText, 6, some .int, ({ frames := 3, cells := 0, slots := 0, locals := 69 } : Room), [])
abbrev mX7_skiByText : MD := (yX7_skiByText, cX7_skiByText, 6, some .int, ({ frames := 2, cells := 0, slots := 0, locals := 47 } : Room), [])
abbrev mL_errorPosition : MD := (yL_errorPosition, cL_errorPosition, 3, some .int, ({ frames := 7, cells := 1, slots := 6, locals := 102 } : Room), [(0, 8, 11, 72)])
abbrev mX7_errorPosition : MD := (yX7_errorPosition, cX7_errorPosition, 1, some .int, ({ frames := 6, cells := 1, slots := 6, locals := 82 } : Room), [])
abbrev mL_undo : MD := (yL_undo, cL_undo, 3, some .int, ({ frames := 7, cells := 1, slots := 6, locals := 108 } : Room), [(0, 8, 11, 72)])
abbrev mX7_undo : MD := (yX7_undo, cX7_undo, 1, some .int, ({ frames := 6, cells := 1, slots := 6, locals := 88 } : Room), [])
abbrev mX2_takeBack : MD := (yX2_takeBack, cX2_takeBack, 2, none, ({ frames := 3, cells := 0, slots := 0, locals := 67 } : Room), [])
abbrev mL_restore : MD := (yL_restore, cL_restore, 3, some .int, ({ frames := 7, cells := 1, slots := 6, locals := 102 } : Room), [(0, 8, 11, 17)])
abbrev mX7_restore : MD := (yX7_restore, cX7_restore, 1, some .int, ({ frames := 6, cells := 1, slots := 6, locals := 82 } : Room), [])
abbrev mX8_init : MD := (yX8_init, cX8_init, 1, none, ({ frames := 0, cells := 0, slots := 0, locals := 0 } : Room), [])
abbrev mX8_thrown : MD := (yX8_thrown, cX8_thrown, 1, some .int, ({ frames := 0, cells := 0, slots := 0, locals := 0 } : Room), [])
abbrev mX8_clear : MD := (yX8_clear, cX8_clear, 3, some .int, ({ frames := 0, cells := 0, slots := 0, locals := 0 } : Room), [])
abbrev mX8_addLift : MD := (yX8_addLift, cX8_addLift, 10, some .int, ({ frames := 2, cells := 0, slots := 0, locals := 42 } : Room), [])
abbrev mX8_isStation : MD := (yX8_isStation, cX8_isStation, 1, some .boolean, ({ frames := 1, cells := 0, slots := 0, locals := 22 } : Room), [])
abbrev mX8_in : MD := (yX8_in, cX8_in, 3, some .boolean, ({ frames := 0, cells := 0, slots := 0, locals := 0 } : Room), [])
abbrev mX8_refuse : MD := (yX8_refuse, cX8_refuse, 2, some .int, ({ frames := 0, cells := 0, slots := 0, locals := 0 } : Room), [])
abbrev mX8_keep : MD := (yX8_keep, cX8_keep, 2, none, ({ frames := 0, cells := 0, slots := 0, locals := 0 } : Room), [])
abbrev mX8_lift0 : MD := (yX8_lift0, cX8_lift0, 1, some .int, ({ frames := 0, cells := 0, slots := 0, locals := 0 } : Room), [])
abbrev mX8_addPiste : MD := (yX8_addPiste, cX8_addPiste, 7, some .int, ({ frames := 2, cells := 0, slots := 0, locals := 42 } : Room), [])
abbrev mX8_piste0 : MD := (yX8_piste0, cX8_piste0, 1, some .int, ({ frames := 0, cells := 0, slots := 0, locals := 0 } : Room), [])
abbrev mX8_setWind : MD := (yX8_setWind, cX8_setWind, 4, some .int, ({ frames := 2, cells := 0, slots := 0, locals := 42 } : Room), [])
abbrev mX8_stateOf : MD := (yX8_stateOf, cX8_stateOf, 3, some .int, ({ frames := 1, cells := 0, slots := 0, locals := 20 } : Room), [])
abbrev mX8_lift : MD := (yX8_lift, cX8_lift, 3, some .int, ({ frames := 2, cells := 0, slots := 0, locals := 44 } : Room), [])
abbrev mX8_isLift : MD := (yX8_isLift, cX8_isLift, 2, some .boolean, ({ frames := 1, cells := 0, slots := 0, locals := 22 } : Room), [])
abbrev mX8_guestsWho : MD := (yX8_guestsWho, cX8_guestsWho, 5, some .int, ({ frames := 1, cells := 0, slots := 0, locals := 20 } : Room), [])
abbrev mX8_guest0 : MD := (yX8_guest0, cX8_guest0, 1, some .int, ({ frames := 0, cells := 0, slots := 0, locals := 0 } : Room), [])
abbrev mX8_piste : MD := (yX8_piste, cX8_piste, 3, some .int, ({ frames := 2, cells := 0, slots := 0, locals := 44 } : Room), [])
abbrev mX8_isPiste : MD := (yX8_isPiste, cX8_isPiste, 2, some .boolean, ({ frames := 1, cells := 0, slots := 0, locals := 22 } : Room), [])
abbrev mX8_open : MD := (yX8_open, cX8_open, 5, some .int, ({ frames := 2, cells := 0, slots := 0, locals := 43 } : Room), [])
abbrev mX8_groom : MD := (yX8_groom, cX8_groom, 3, some .int, ({ frames := 2, cells := 0, slots := 0, locals := 43 } : Room), [])
abbrev mX8_count : MD := (yX8_count, cX8_count, 2, some .int, ({ frames := 2, cells := 0, slots := 0, locals := 44 } : Room), [])
abbrev mX8_openPistes : MD := (yX8_openPistes, cX8_openPistes, 3, some .int, ({ frames := 1, cells := 0, slots := 0, locals := 20 } : Room), [])
abbrev mX8_addGuest : MD := (yX8_addGuest, cX8_addGuest, 6, some .int, ({ frames := 2, cells := 0, slots := 0, locals := 47 } : Room), [])
abbrev mX8_arrives : MD := (yX8_arrives, cX8_arrives, 8, none, ({ frames := 1, cells := 0, slots := 0, locals := 20 } : Room), [])
abbrev mX8_guest : MD := (yX8_guest, cX8_guest, 5, some .int, ({ frames := 2, cells := 0, slots := 0, locals := 43 } : Room), [])
abbrev mX8_isGuest : MD := (yX8_isGuest, cX8_isGuest, 2, some .boolean, ({ frames := 1, cells := 0, slots := 0, locals := 22 } : Room), [])
abbrev mX8_placeOf : MD := (yX8_placeOf, cX8_placeOf, 4, some .int, ({ frames := 1, cells := 0, slots := 0, locals := 20 } : Room), [])
abbrev mX8_queue : MD := (yX8_queue, cX8_queue, 4, some .int, ({ frames := 3, cells := 0, slots := 0, locals := 68 } : Room), [])
abbrev mX8_whyNoLift : MD := (yX8_whyNoLift, cX8_whyNoLift, 4, some .int, ({ frames := 2, cells := 0, slots := 0, locals := 45 } : Room), [])
abbrev mX8_isOpenTo : MD := (yX8_isOpenTo, cX8_isOpenTo, 4, some .boolean, ({ frames := 1, cells := 0, slots := 0, locals := 22 } : Room), [])
abbrev mX8_refuses : MD := (yX8_refuses, cX8_refuses, 3, some .int, ({ frames := 1, cells := 0, slots := 0, locals := 21 } : Room), [])
abbrev mX8_standIn : MD := (yX8_standIn, cX8_standIn, 4, some .int, ({ frames := 1, cells := 0, slots := 0, locals := 20 } : Room), [])
abbrev mX8_ski : MD := (yX8_ski, cX8_ski, 4, some .int, ({ frames := 3, cells := 0, slots := 0, locals := 66 } : Room), [])
abbrev mX8_whyNoPiste : MD := (yX8_whyNoPiste, cX8_whyNoPiste, 4, some .int, ({ frames := 1, cells := 0, slots := 0, locals := 20 } : Room), [])
abbrev mX8_goDown : MD := (yX8_goDown, cX8_goDown, 4, some .int, ({ frames := 2, cells := 0, slots := 0, locals := 43 } : Room), [])
abbrev mX8_skiTime : MD := (yX8_skiTime, cX8_skiTime, 4, some .int, ({ frames := 1, cells := 0, slots := 0, locals := 20 } : Room), [])
abbrev mX8_leave : MD := (yX8_leave, cX8_leave, 4, some .int, ({ frames := 2, cells := 0, slots := 0, locals := 45 } : Room), [])
abbrev mX8_drops : MD := (yX8_drops, cX8_drops, 6, none, ({ frames := 1, cells := 0, slots := 0, locals := 20 } : Room), [])
abbrev mX8_whyNotQueue : MD := (yX8_whyNotQueue, cX8_whyNotQueue, 3, some .int, ({ frames := 3, cells := 0, slots := 0, locals := 68 } : Room), [])
abbrev mX8_whyNotSki : MD := (yX8_whyNotSki, cX8_whyNotSki, 3, some .int, ({ frames := 2, cells := 0, slots := 0, locals := 43 } : Room), [])
abbrev mX8_reason : MD := (yX8_reason, cX8_reason, 1, some .int, ({ frames := 0, cells := 0, slots := 0, locals := 0 } : Room), [])
abbrev mX8_opened : MD := (yX8_opened, cX8_opened, 4, some .int, ({ frames := 2, cells := 0, slots := 0, locals := 45 } : Room), [])
abbrev mX8_queued : MD := (yX8_queued, cX8_queued, 3, some .int, ({ frames := 2, cells := 0, slots := 0, locals := 43 } : Room), [])
abbrev mX8_advance : MD := (yX8_advance, cX8_advance, 2, some .int, ({ frames := 5, cells := 0, slots := 0, locals := 114 } : Room), [])
abbrev mX8_ticks : MD := (yX8_ticks, cX8_ticks, 3, some .int, ({ frames := 4, cells := 0, slots := 0, locals := 92 } : Room), [])
abbrev mX8_tick : MD := (yX8_tick, cX8_tick, 3, none, ({ frames := 3, cells := 0, slots := 0, locals := 70 } : Room), [])
abbrev mX8_stepOf : MD := (yX8_stepOf, cX8_stepOf, 2, some .int, ({ frames := 2, cells := 0, slots := 0, locals := 42 } : Room), [])
abbrev mX8_comesTo : MD := (yX8_comesTo, cX8_comesTo, 3, none, ({ frames := 1, cells := 0, slots := 0, locals := 20 } : Room), [])
abbrev mX8_cabin : MD := (yX8_cabin, cX8_cabin, 6, none, ({ frames := 2, cells := 0, slots := 0, locals := 45 } : Room), [])
abbrev mX8_endDay : MD := (yX8_endDay, cX8_endDay, 4, some .int, ({ frames := 2, cells := 0, slots := 0, locals := 44 } : Room), [])
abbrev mX8_arrival : MD := (yX8_arrival, cX8_arrival, 4, some .int, ({ frames := 4, cells := 0, slots := 0, locals := 92 } : Room), [])
abbrev mX8_layAside : MD := (yX8_layAside, cX8_layAside, 2, none, ({ frames := 0, cells := 0, slots := 0, locals := 0 } : Room), [])
abbrev mX8_takeBack : MD := (yX8_takeBack, cX8_takeBack, 2, none, ({ frames := 0, cells := 0, slots := 0, locals := 0 } : Room), [])
abbrev mX8_nextCabin : MD := (yX8_nextCabin, cX8_nextCabin, 4, some .int, ({ frames := 3, cells := 0, slots := 0, locals := 63 } : Room), [])
abbrev mX8_duration : MD := (yX8_duration, cX8_duration, 4, some .int, ({ frames := 4, cells := 0, slots := 0, locals := 92 } : Room), [])
abbrev mX8_lacks : MD := (yX8_lacks, cX8_lacks, 4, some .int, ({ frames := 2, cells := 0, slots := 0, locals := 43 } : Room), [])
abbrev mX8_layWays : MD := (yX8_layWays, cX8_layWays, 6, none, ({ frames := 3, cells := 0, slots := 0, locals := 67 } : Room), [])
abbrev mX8_isWayLift : MD := (yX8_isWayLift, cX8_isWayLift, 3, some .boolean, ({ frames := 2, cells := 0, slots := 0, locals := 45 } : Room), [])
abbrev mX8_isWayPiste : MD := (yX8_isWayPiste, cX8_isWayPiste, 3, some .boolean, ({ frames := 1, cells := 0, slots := 0, locals := 20 } : Room), [])
abbrev mX8_firstPart : MD := (yX8_firstPart, cX8_firstPart, 6, some .int, ({ frames := 4, cells := 0, slots := 0, locals := 92 } : Room), [])
abbrev mX8_reachable : MD := (yX8_reachable, cX8_reachable, 5, some .int, ({ frames := 4, cells := 0, slots := 0, locals := 92 } : Room), [])
abbrev mX8_stranded : MD := (yX8_stranded, cX8_stranded, 5, some .int, ({ frames := 4, cells := 0, slots := 0, locals := 92 } : Room), [])
abbrev mX8_liftAccount : MD := (yX8_liftAccount, cX8_liftAccount, 3, some .int, ({ frames := 2, cells := 0, slots := 0, locals := 43 } : Room), [])
abbrev mX8_guestAccount : MD := (yX8_guestAccount, cX8_guestAccount, 3, some .int, ({ frames := 2, cells := 0, slots := 0, locals := 43 } : Room), [])
abbrev mX8_pisteAccount : MD := (yX8_pisteAccount, cX8_pisteAccount, 2, some .int, ({ frames := 2, cells := 0, slots := 0, locals := 43 } : Room), [])
abbrev mX8_audit : MD := (yX8_audit, cX8_audit, 4, some .int, ({ frames := 1, cells := 0, slots := 0, locals := 20 } : Room), [])
abbrev mX8_busiest : MD := (yX8_busiest, cX8_busiest, 4, some .int, ({ frames := 1, cells := 0, slots := 0, locals := 20 } : Room), [])
abbrev mX8_load : MD := (yX8_load, cX8_load, 2, some .double, ({ frames := 2, cells := 0, slots := 0, locals := 43 } : Room), [])
abbrev mX8_append : MD := (yX8_append, cX8_append, 2, some .int, ({ frames := 1, cells := 0, slots := 0, locals := 22 } : Room), [])
abbrev mX8_read : MD := (yX8_read, cX8_read, 3, some .int, ({ frames := 6, cells := 0, slots := 0, locals := 140 } : Room), [])
abbrev mX8_isText : MD := (yX8_isText, cX8_isText, 1, some .boolean, ({ frames := 4, cells := 0, slots := 0, locals := 86 } : Room), [])
abbrev mX8_entry : MD := (yX8_entry, cX8_entry, 2, none, ({ frames := 3, cells := 0, slots := 0, locals := 65 } : Room), [])
abbrev mX8_here : MD := (yX8_here, cX8_here, 1, some .int, ({ frames := 0, cells := 0, slots := 0, locals := 0 } : Room), [])
abbrev mX8_guestNumber : MD := (yX8_guestNumber, cX8_guestNumber, 2, some .int, ({ frames := 2, cells := 0, slots := 0, locals := 44 } : Room), [])
abbrev mX8_digit : MD := (yX8_digit, cX8_digit, 3, some .int, ({ frames := 1, cells := 0, slots := 0, locals := 22 } : Room), [])
abbrev mX8_take : MD := (yX8_take, cX8_take, 2, none, ({ frames := 1, cells := 0, slots := 0, locals := 20 } : Room), [])
abbrev mX8_does : MD := (yX8_does, cX8_does, 7, some .boolean, ({ frames := 5, cells := 0, slots := 0, locals := 114 } : Room), [])
abbrev mX8_errorPosition : MD := (yX8_errorPosition, cX8_errorPosition, 1, some .int, ({ frames := 0, cells := 0, slots := 0, locals := 0 } : Room), [])
abbrev mX8_undo : MD := (yX8_undo, cX8_undo, 2, some .int, ({ frames := 1, cells := 0, slots := 0, locals := 21 } : Room), [])
abbrev mX8_save : MD := (yX8_save, cX8_save, 2, some .int, ({ frames := 0, cells := 0, slots := 0, locals := 0 } : Room), [])
abbrev mX8_restore : MD := (yX8_restore, cX8_restore, 2, some .int, ({ frames := 1, cells := 0, slots := 0, locals := 21 } : Room), [])
theorem iw_X0 : ∀ w ∈ u_ws RX0 TX0 9, w ∈ GW := GW_ps [228, 230, 232, 234, 236, 238, 240, 242, 244] (by decide +kernel) (by decide +kernel)
theorem iw_X1 : ∀ w ∈ u_ws RX1 TX1 11, w ∈ GW := GW_ps [184, 186, 188, 190, 192, 194, 196, 198, 200, 202, 204] (by decide +kernel) (by decide +kernel)
theorem iw_X2 : ∀ w ∈ u_ws RX2 TX2 3, w ∈ GW := GW_ps [260, 262, 264] (by decide +kernel) (by decide +kernel)
theorem iw_X3 : ∀ w ∈ u_ws RX3 TX3 7, w ∈ GW := GW_ps [286, 288, 290, 292, 294, 296, 298] (by decide +kernel) (by decide +kernel)
theorem iw_X4 : ∀ w ∈ u_ws RX4 TX4 10, w ∈ GW := GW_ps [75, 77, 79, 81, 83, 85, 87, 89, 91, 93] (by decide +kernel) (by decide +kernel)
theorem iw_X5 : ∀ w ∈ u_ws RX5 TX5 8, w ∈ GW := GW_ps [128, 130, 132, 134, 136, 138, 140, 142] (by decide +kernel) (by decide +kernel)
theorem iw_X6 : ∀ w ∈ u_ws RX6 TX6 1, w ∈ GW := GW_ps [309] (by decide +kernel) (by decide +kernel)
theorem iw_X7 : ∀ w ∈ u_ws RX7 TX7 9, w ∈ GW := GW_ps [322, 324, 326, 328, 330, 332, 334, 336, 338] (by decide +kernel) (by decide +kernel)
theorem iw_X8 : ∀ w ∈ u_ws RX8 TX8 20, w ∈ GW := GW_ps [1186, 1188, 1190, 1192, 1194, 1196, 1198, 1200, 1202, 1204, 1206, 1208, 1210, 1212, 1214, 1216, 1218, 1220, 1222, 1224] (by decide +kernel) (by decide +kernel)
theorem fl_X7_12 : FL RX7 12 9 0 := ⟨by decide, RX7, TX7, 9, tyX7, rfl, by decide, iw_X7, tyX7_ok, nmX7, rfl, GW_q2 73 (by decide +kernel) rfl⟩
theorem fl_X7_16 : FL RX7 16 9 1 := ⟨by decide, RX7, TX7, 9, tyX7, rfl, by decide, iw_X7, tyX7_ok, nmX7, rfl, GW_q2 74 (by decide +kernel) rfl⟩
theorem fl_X7_19 : FL RX7 19 9 2 := ⟨by decide, RX7, TX7, 9, tyX7, rfl, by decide, iw_X7, tyX7_ok, nmX7, rfl, GW_q2 75 (by decide +kernel) rfl⟩
theorem fl_X7_25 : FL RX7 25 9 3 := ⟨by decide, RX7, TX7, 9, tyX7, rfl, by decide, iw_X7, tyX7_ok, nmX7, rfl, GW_q2 76 (by decide +kernel) rfl⟩
theorem fl_X7_32 : FL RX7 32 9 4 := ⟨by decide, RX7, TX7, 9, tyX7, rfl, by decide, iw_X7, tyX7_ok, nmX7, rfl, GW_q2 77 (by decide +kernel) rfl⟩
theorem fl_X7_39 : FL RX7 39 9 5 := ⟨by decide, RX7, TX7, 9, tyX7, rfl, by decide, iw_X7, tyX7_ok, nmX7, rfl, GW_q2 78 (by decide +kernel) rfl⟩
theorem fl_X7_43 : FL RX7 43 9 6 := ⟨by decide, RX7, TX7, 9, tyX7, rfl, by decide, iw_X7, tyX7_ok, nmX7, rfl, GW_q2 79 (by decide +kernel) rfl⟩
theorem fw_X7_43 : FLw RX7 43 9 6 .boolean := ⟨by decide, RX7, TX7, 9, tyX7, rfl, by decide, iw_X7, tyX7_ok, nmX7, rfl, GW_q2 79 (by decide +kernel) rfl, rfl, rfl⟩
theorem fl_X7_47 : FL RX7 47 9 7 := ⟨by decide, RX7, TX7, 9, tyX7, rfl, by decide, iw_X7, tyX7_ok, nmX7, rfl, GW_q2 80 (by decide +kernel) rfl⟩
theorem fw_X7_47 : FLw RX7 47 9 7 .int := ⟨by decide, RX7, TX7, 9, tyX7, rfl, by decide, iw_X7, tyX7_ok, nmX7, rfl, GW_q2 80 (by decide +kernel) rfl, rfl, rfl⟩
theorem fl_X7_51 : FL RX7 51 9 8 := ⟨by decide, RX7, TX7, 9, tyX7, rfl, by decide, iw_X7, tyX7_ok, nmX7, rfl, GW_q2 81 (by decide +kernel) rfl⟩
theorem fw_X7_51 : FLw RX7 51 9 8 .int := ⟨by decide, RX7, TX7, 9, tyX7, rfl, by decide, iw_X7, tyX7_ok, nmX7, rfl, GW_q2 81 (by decide +kernel) rfl, rfl, rfl⟩
theorem fl_X7_54 : FL RX7 54 2 5 := ⟨by decide, RX0, TX0, 9, tyX0, rfl, by decide, iw_X0, tyX0_ok, nmX0, rfl, GW_q1 220 (by decide +kernel) rfl⟩
theorem fw_X7_54 : FLw RX7 54 2 5 .int := ⟨by decide, RX0, TX0, 9, tyX0, rfl, by decide, iw_X0, tyX0_ok, nmX0, rfl, GW_q1 220 (by decide +kernel) rfl, rfl, rfl⟩
theorem fl_X7_83 : FL RX7 83 2 3 := ⟨by decide, RX0, TX0, 9, tyX0, rfl, by decide, iw_X0, tyX0_ok, nmX0, rfl, GW_q1 215 (by decide +kernel) rfl⟩
theorem fw_X7_83 : FLw RX7 83 2 3 .int := ⟨by decide, RX0, TX0, 9, tyX0, rfl, by decide, iw_X0, tyX0_ok, nmX0, rfl, GW_q1 215 (by decide +kernel) rfl, rfl, rfl⟩
theorem fl_X7_95 : FL RX7 95 2 0 := ⟨by decide, RX0, TX0, 9, tyX0, rfl, by decide, iw_X0, tyX0_ok, nmX0, rfl, GW_q1 208 (by decide +kernel) rfl⟩
theorem fl_X7_107 : FL RX7 107 2 4 := ⟨by decide, RX0, TX0, 9, tyX0, rfl, by decide, iw_X0, tyX0_ok, nmX0, rfl, GW_q1 218 (by decide +kernel) rfl⟩
theorem fw_X7_107 : FLw RX7 107 2 4 .int := ⟨by decide, RX0, TX0, 9, tyX0, rfl, by decide, iw_X0, tyX0_ok, nmX0, rfl, GW_q1 218 (by decide +kernel) rfl, rfl, rfl⟩
theorem fl_X7_112 : FL RX7 112 2 1 := ⟨by decide, RX0, TX0, 9, tyX0, rfl, by decide, iw_X0, tyX0_ok, nmX0, rfl, GW_q1 212 (by decide +kernel) rfl⟩
theorem fl_X7_123 : FL RX7 123 2 6 := ⟨by decide, RX0, TX0, 9, tyX0, rfl, by decide, iw_X0, tyX0_ok, nmX0, rfl, GW_q1 223 (by decide +kernel) rfl⟩
theorem fw_X7_123 : FLw RX7 123 2 6 .int := ⟨by decide, RX0, TX0, 9, tyX0, rfl, by decide, iw_X0, tyX0_ok, nmX0, rfl, GW_q1 223 (by decide +kernel) rfl, rfl, rfl⟩
theorem fl_X7_136 : FL RX7 136 6 0 := ⟨by decide, RX4, TX4, 10, tyX4, rfl, by decide, iw_X4, tyX4_ok, nmX4, rfl, GW_q1 45 (by decide +kernel) rfl⟩
theorem fw_X7_136 : FLw RX7 136 6 0 .int := ⟨by decide, RX4, TX4, 10, tyX4, rfl, by decide, iw_X4, tyX4_ok, nmX4, rfl, GW_q1 45 (by decide +kernel) rfl, rfl, rfl⟩
theorem fl_X7_139 : FL RX7 139 6 1 := ⟨by decide, RX4, TX4, 10, tyX4, rfl, by decide, iw_X4, tyX4_ok, nmX4, rfl, GW_q1 49 (by decide +kernel) rfl⟩
theorem fw_X7_139 : FLw RX7 139 6 1 .int := ⟨by decide, RX4, TX4, 10, tyX4, rfl, by decide, iw_X4, tyX4_ok, nmX4, rfl, GW_q1 49 (by decide +kernel) rfl, rfl, rfl⟩
theorem fl_X7_142 : FL RX7 142 6 2 := ⟨by decide, RX4, TX4, 10, tyX4, rfl, by decide, iw_X4, tyX4_ok, nmX4, rfl, GW_q1 52 (by decide +kernel) rfl⟩
theorem fw_X7_142 : FLw RX7 142 6 2 .int := ⟨by decide, RX4, TX4, 10, tyX4, rfl, by decide, iw_X4, tyX4_ok, nmX4, rfl, GW_q1 52 (by decide +kernel) rfl, rfl, rfl⟩
theorem fl_X7_145 : FL RX7 145 6 3 := ⟨by decide, RX4, TX4, 10, tyX4, rfl, by decide, iw_X4, tyX4_ok, nmX4, rfl, GW_q1 55 (by decide +kernel) rfl⟩
theorem fw_X7_145 : FLw RX7 145 6 3 .int := ⟨by decide, RX4, TX4, 10, tyX4, rfl, by decide, iw_X4, tyX4_ok, nmX4, rfl, GW_q1 55 (by decide +kernel) rfl, rfl, rfl⟩
theorem fl_X7_148 : FL RX7 148 6 4 := ⟨by decide, RX4, TX4, 10, tyX4, rfl, by decide, iw_X4, tyX4_ok, nmX4, rfl, GW_q1 58 (by decide +kernel) rfl⟩
theorem fw_X7_148 : FLw RX7 148 6 4 .int := ⟨by decide, RX4, TX4, 10, tyX4, rfl, by decide, iw_X4, tyX4_ok, nmX4, rfl, GW_q1 58 (by decide +kernel) rfl, rfl, rfl⟩
theorem fl_X7_151 : FL RX7 151 6 5 := ⟨by decide, RX4, TX4, 10, tyX4, rfl, by decide, iw_X4, tyX4_ok, nmX4, rfl, GW_q1 62 (by decide +kernel) rfl⟩
theorem fw_X7_151 : FLw RX7 151 6 5 .int := ⟨by decide, RX4, TX4, 10, tyX4, rfl, by decide, iw_X4, tyX4_ok, nmX4, rfl, GW_q1 62 (by decide +kernel) rfl, rfl, rfl⟩
theorem fl_X7_154 : FL RX7 154 6 6 := ⟨by decide, RX4, TX4, 10, tyX4, rfl, by decide, iw_X4, tyX4_ok, nmX4, rfl, GW_q1 64 (by decide +kernel) rfl⟩
theorem fw_X7_154 : FLw RX7 154 6 6 .int := ⟨by decide, RX4, TX4, 10, tyX4, rfl, by decide, iw_X4, tyX4_ok, nmX4, rfl, GW_q1 64 (by decide +kernel) rfl, rfl, rfl⟩
theorem fl_X7_161 : FL RX7 161 6 7 := ⟨by decide, RX4, TX4, 10, tyX4, rfl, by decide, iw_X4, tyX4_ok, nmX4, rfl, GW_q1 67 (by decide +kernel) rfl⟩
theorem fw_X7_161 : FLw RX7 161 6 7 .int := ⟨by decide, RX4, TX4, 10, tyX4, rfl, by decide, iw_X4, tyX4_ok, nmX4, rfl, GW_q1 67 (by decide +kernel) rfl, rfl, rfl⟩
theorem fl_X7_176 : FL RX7 176 7 0 := ⟨by decide, RX5, TX5, 8, tyX5, rfl, by decide, iw_X5, tyX5_ok, nmX5, rfl, GW_q1 105 (by decide +kernel) rfl⟩
theorem fw_X7_176 : FLw RX7 176 7 0 .int := ⟨by decide, RX5, TX5, 8, tyX5, rfl, by decide, iw_X5, tyX5_ok, nmX5, rfl, GW_q1 105 (by decide +kernel) rfl, rfl, rfl⟩
theorem fl_X7_179 : FL RX7 179 7 1 := ⟨by decide, RX5, TX5, 8, tyX5, rfl, by decide, iw_X5, tyX5_ok, nmX5, rfl, GW_q1 109 (by decide +kernel) rfl⟩
theorem fw_X7_179 : FLw RX7 179 7 1 .int := ⟨by decide, RX5, TX5, 8, tyX5, rfl, by decide, iw_X5, tyX5_ok, nmX5, rfl, GW_q1 109 (by decide +kernel) rfl, rfl, rfl⟩
theorem fl_X7_182 : FL RX7 182 7 2 := ⟨by decide, RX5, TX5, 8, tyX5, rfl, by decide, iw_X5, tyX5_ok, nmX5, rfl, GW_q1 112 (by decide +kernel) rfl⟩
theorem fw_X7_182 : FLw RX7 182 7 2 .int := ⟨by decide, RX5, TX5, 8, tyX5, rfl, by decide, iw_X5, tyX5_ok, nmX5, rfl, GW_q1 112 (by decide +kernel) rfl, rfl, rfl⟩
theorem fl_X7_185 : FL RX7 185 7 3 := ⟨by decide, RX5, TX5, 8, tyX5, rfl, by decide, iw_X5, tyX5_ok, nmX5, rfl, GW_q1 115 (by decide +kernel) rfl⟩
theorem fw_X7_185 : FLw RX7 185 7 3 .int := ⟨by decide, RX5, TX5, 8, tyX5, rfl, by decide, iw_X5, tyX5_ok, nmX5, rfl, GW_q1 115 (by decide +kernel) rfl, rfl, rfl⟩
theorem fl_X7_188 : FL RX7 188 7 4 := ⟨by decide, RX5, TX5, 8, tyX5, rfl, by decide, iw_X5, tyX5_ok, nmX5, rfl, GW_q1 117 (by decide +kernel) rfl⟩
theorem fw_X7_188 : FLw RX7 188 7 4 .int := ⟨by decide, RX5, TX5, 8, tyX5, rfl, by decide, iw_X5, tyX5_ok, nmX5, rfl, GW_q1 117 (by decide +kernel) rfl, rfl, rfl⟩
theorem fl_X7_191 : FL RX7 191 7 5 := ⟨by decide, RX5, TX5, 8, tyX5, rfl, by decide, iw_X5, tyX5_ok, nmX5, rfl, GW_q1 120 (by decide +kernel) rfl⟩
theorem fw_X7_191 : FLw RX7 191 7 5 .int := ⟨by decide, RX5, TX5, 8, tyX5, rfl, by decide, iw_X5, tyX5_ok, nmX5, rfl, GW_q1 120 (by decide +kernel) rfl, rfl, rfl⟩
theorem fl_X7_194 : FL RX7 194 7 6 := ⟨by decide, RX5, TX5, 8, tyX5, rfl, by decide, iw_X5, tyX5_ok, nmX5, rfl, GW_q1 123 (by decide +kernel) rfl⟩
theorem fw_X7_194 : FLw RX7 194 7 6 .int := ⟨by decide, RX5, TX5, 8, tyX5, rfl, by decide, iw_X5, tyX5_ok, nmX5, rfl, GW_q1 123 (by decide +kernel) rfl, rfl, rfl⟩
theorem fl_X7_203 : FL RX7 203 2 7 := ⟨by decide, RX0, TX0, 9, tyX0, rfl, by decide, iw_X0, tyX0_ok, nmX0, rfl, GW_q1 225 (by decide +kernel) rfl⟩
theorem fw_X7_203 : FLw RX7 203 2 7 .int := ⟨by decide, RX0, TX0, 9, tyX0, rfl, by decide, iw_X0, tyX0_ok, nmX0, rfl, GW_q1 225 (by decide +kernel) rfl, rfl, rfl⟩
theorem fl_X7_206 : FL RX7 206 2 8 := ⟨by decide, RX0, TX0, 9, tyX0, rfl, by decide, iw_X0, tyX0_ok, nmX0, rfl, GW_q1 227 (by decide +kernel) rfl⟩
theorem fw_X7_206 : FLw RX7 206 2 8 .int := ⟨by decide, RX0, TX0, 9, tyX0, rfl, by decide, iw_X0, tyX0_ok, nmX0, rfl, GW_q1 227 (by decide +kernel) rfl, rfl, rfl⟩
theorem fl_X7_232 : FL RX7 232 3 4 := ⟨by decide, RX1, TX1, 11, tyX1, rfl, by decide, iw_X1, tyX1_ok, nmX1, rfl, GW_q1 165 (by decide +kernel) rfl⟩
theorem fw_X7_232 : FLw RX7 232 3 4 .int := ⟨by decide, RX1, TX1, 11, tyX1, rfl, by decide, iw_X1, tyX1_ok, nmX1, rfl, GW_q1 165 (by decide +kernel) rfl, rfl, rfl⟩
theorem fl_X7_235 : FL RX7 235 3 5 := ⟨by decide, RX1, TX1, 11, tyX1, rfl, by decide, iw_X1, tyX1_ok, nmX1, rfl, GW_q1 168 (by decide +kernel) rfl⟩
theorem fw_X7_235 : FLw RX7 235 3 5 .int := ⟨by decide, RX1, TX1, 11, tyX1, rfl, by decide, iw_X1, tyX1_ok, nmX1, rfl, GW_q1 168 (by decide +kernel) rfl, rfl, rfl⟩
theorem fl_X7_238 : FL RX7 238 3 7 := ⟨by decide, RX1, TX1, 11, tyX1, rfl, by decide, iw_X1, tyX1_ok, nmX1, rfl, GW_q1 174 (by decide +kernel) rfl⟩
theorem fw_X7_238 : FLw RX7 238 3 7 .int := ⟨by decide, RX1, TX1, 11, tyX1, rfl, by decide, iw_X1, tyX1_ok, nmX1, rfl, GW_q1 174 (by decide +kernel) rfl, rfl, rfl⟩
theorem fl_X7_241 : FL RX7 241 3 6 := ⟨by decide, RX1, TX1, 11, tyX1, rfl, by decide, iw_X1, tyX1_ok, nmX1, rfl, GW_q1 171 (by decide +kernel) rfl⟩
theorem fw_X7_241 : FLw RX7 241 3 6 .int := ⟨by decide, RX1, TX1, 11, tyX1, rfl, by decide, iw_X1, tyX1_ok, nmX1, rfl, GW_q1 171 (by decide +kernel) rfl, rfl, rfl⟩
theorem fl_X7_242 : FL RX7 242 3 0 := ⟨by decide, RX1, TX1, 11, tyX1, rfl, by decide, iw_X1, tyX1_ok, nmX1, rfl, GW_q1 154 (by decide +kernel) rfl⟩
theorem fw_X7_242 : FLw RX7 242 3 0 .int := ⟨by decide, RX1, TX1, 11, tyX1, rfl, by decide, iw_X1, tyX1_ok, nmX1, rfl, GW_q1 154 (by decide +kernel) rfl, rfl, rfl⟩
theorem fl_X7_245 : FL RX7 245 3 1 := ⟨by decide, RX1, TX1, 11, tyX1, rfl, by decide, iw_X1, tyX1_ok, nmX1, rfl, GW_q1 157 (by decide +kernel) rfl⟩
theorem fw_X7_245 : FLw RX7 245 3 1 .int := ⟨by decide, RX1, TX1, 11, tyX1, rfl, by decide, iw_X1, tyX1_ok, nmX1, rfl, GW_q1 157 (by decide +kernel) rfl, rfl, rfl⟩
theorem fl_X7_248 : FL RX7 248 3 2 := ⟨by decide, RX1, TX1, 11, tyX1, rfl, by decide, iw_X1, tyX1_ok, nmX1, rfl, GW_q1 160 (by decide +kernel) rfl⟩
theorem fw_X7_248 : FLw RX7 248 3 2 .int := ⟨by decide, RX1, TX1, 11, tyX1, rfl, by decide, iw_X1, tyX1_ok, nmX1, rfl, GW_q1 160 (by decide +kernel) rfl, rfl, rfl⟩
theorem fl_X7_251 : FL RX7 251 3 3 := ⟨by decide, RX1, TX1, 11, tyX1, rfl, by decide, iw_X1, tyX1_ok, nmX1, rfl, GW_q1 163 (by decide +kernel) rfl⟩
theorem fw_X7_251 : FLw RX7 251 3 3 .int := ⟨by decide, RX1, TX1, 11, tyX1, rfl, by decide, iw_X1, tyX1_ok, nmX1, rfl, GW_q1 163 (by decide +kernel) rfl, rfl, rfl⟩
theorem fl_X7_355 : FL RX7 355 6 8 := ⟨by decide, RX4, TX4, 10, tyX4, rfl, by decide, iw_X4, tyX4_ok, nmX4, rfl, GW_q1 71 (by decide +kernel) rfl⟩
theorem fw_X7_355 : FLw RX7 355 6 8 .int := ⟨by decide, RX4, TX4, 10, tyX4, rfl, by decide, iw_X4, tyX4_ok, nmX4, rfl, GW_q1 71 (by decide +kernel) rfl, rfl, rfl⟩
theorem fl_X7_358 : FL RX7 358 6 9 := ⟨by decide, RX4, TX4, 10, tyX4, rfl, by decide, iw_X4, tyX4_ok, nmX4, rfl, GW_q1 74 (by decide +kernel) rfl⟩
theorem fw_X7_358 : FLw RX7 358 6 9 .int := ⟨by decide, RX4, TX4, 10, tyX4, rfl, by decide, iw_X4, tyX4_ok, nmX4, rfl, GW_q1 74 (by decide +kernel) rfl, rfl, rfl⟩
theorem fl_X7_363 : FL RX7 363 3 8 := ⟨by decide, RX1, TX1, 11, tyX1, rfl, by decide, iw_X1, tyX1_ok, nmX1, rfl, GW_q1 178 (by decide +kernel) rfl⟩
theorem fw_X7_363 : FLw RX7 363 3 8 .int := ⟨by decide, RX1, TX1, 11, tyX1, rfl, by decide, iw_X1, tyX1_ok, nmX1, rfl, GW_q1 178 (by decide +kernel) rfl, rfl, rfl⟩
theorem fl_X7_366 : FL RX7 366 3 9 := ⟨by decide, RX1, TX1, 11, tyX1, rfl, by decide, iw_X1, tyX1_ok, nmX1, rfl, GW_q1 181 (by decide +kernel) rfl⟩
theorem fw_X7_366 : FLw RX7 366 3 9 .int := ⟨by decide, RX1, TX1, 11, tyX1, rfl, by decide, iw_X1, tyX1_ok, nmX1, rfl, GW_q1 181 (by decide +kernel) rfl, rfl, rfl⟩
theorem fl_X7_369 : FL RX7 369 3 10 := ⟨by decide, RX1, TX1, 11, tyX1, rfl, by decide, iw_X1, tyX1_ok, nmX1, rfl, GW_q1 183 (by decide +kernel) rfl⟩
theorem fw_X7_369 : FLw RX7 369 3 10 .int := ⟨by decide, RX1, TX1, 11, tyX1, rfl, by decide, iw_X1, tyX1_ok, nmX1, rfl, GW_q1 183 (by decide +kernel) rfl, rfl, rfl⟩
theorem fl_X7_374 : FL RX7 374 7 7 := ⟨by decide, RX5, TX5, 8, tyX5, rfl, by decide, iw_X5, tyX5_ok, nmX5, rfl, GW_q1 127 (by decide +kernel) rfl⟩
theorem fw_X7_374 : FLw RX7 374 7 7 .int := ⟨by decide, RX5, TX5, 8, tyX5, rfl, by decide, iw_X5, tyX5_ok, nmX5, rfl, GW_q1 127 (by decide +kernel) rfl, rfl, rfl⟩
theorem fl_X7_392 : FL RX7 392 5 1 := ⟨by decide, RX3, TX3, 7, tyX3, rfl, by decide, iw_X3, tyX3_ok, nmX3, rfl, GW_q2 35 (by decide +kernel) rfl⟩
theorem fw_X7_392 : FLw RX7 392 5 1 .int := ⟨by decide, RX3, TX3, 7, tyX3, rfl, by decide, iw_X3, tyX3_ok, nmX3, rfl, GW_q2 35 (by decide +kernel) rfl, rfl, rfl⟩
theorem fl_X7_403 : FL RX7 403 5 2 := ⟨by decide, RX3, TX3, 7, tyX3, rfl, by decide, iw_X3, tyX3_ok, nmX3, rfl, GW_q2 37 (by decide +kernel) rfl⟩
theorem fw_X7_403 : FLw RX7 403 5 2 .int := ⟨by decide, RX3, TX3, 7, tyX3, rfl, by decide, iw_X3, tyX3_ok, nmX3, rfl, GW_q2 37 (by decide +kernel) rfl, rfl, rfl⟩
theorem fl_X7_409 : FL RX7 409 5 3 := ⟨by decide, RX3, TX3, 7, tyX3, rfl, by decide, iw_X3, tyX3_ok, nmX3, rfl, GW_q2 39 (by decide +kernel) rfl⟩
theorem fw_X7_409 : FLw RX7 409 5 3 .int := ⟨by decide, RX3, TX3, 7, tyX3, rfl, by decide, iw_X3, tyX3_ok, nmX3, rfl, GW_q2 39 (by decide +kernel) rfl, rfl, rfl⟩
theorem fl_X7_422 : FL RX7 422 4 2 := ⟨by decide, RX2, TX2, 3, tyX2, rfl, by decide, iw_X2, tyX2_ok, nmX2, rfl, GW_q2 19 (by decide +kernel) rfl⟩
theorem fw_X7_422 : FLw RX7 422 4 2 .int := ⟨by decide, RX2, TX2, 3, tyX2, rfl, by decide, iw_X2, tyX2_ok, nmX2, rfl, GW_q2 19 (by decide +kernel) rfl, rfl, rfl⟩
theorem fl_X7_435 : FL RX7 435 5 4 := ⟨by decide, RX3, TX3, 7, tyX3, rfl, by decide, iw_X3, tyX3_ok, nmX3, rfl, GW_q2 41 (by decide +kernel) rfl⟩
theorem fw_X7_435 : FLw RX7 435 5 4 .int := ⟨by decide, RX3, TX3, 7, tyX3, rfl, by decide, iw_X3, tyX3_ok, nmX3, rfl, GW_q2 41 (by decide +kernel) rfl, rfl, rfl⟩
theorem fl_X7_438 : FL RX7 438 5 5 := ⟨by decide, RX3, TX3, 7, tyX3, rfl, by decide, iw_X3, tyX3_ok, nmX3, rfl, GW_q2 43 (by decide +kernel) rfl⟩
theorem fw_X7_438 : FLw RX7 438 5 5 .int := ⟨by decide, RX3, TX3, 7, tyX3, rfl, by decide, iw_X3, tyX3_ok, nmX3, rfl, GW_q2 43 (by decide +kernel) rfl, rfl, rfl⟩
theorem fl_X7_441 : FL RX7 441 5 6 := ⟨by decide, RX3, TX3, 7, tyX3, rfl, by decide, iw_X3, tyX3_ok, nmX3, rfl, GW_q2 45 (by decide +kernel) rfl⟩
theorem fw_X7_441 : FLw RX7 441 5 6 .int := ⟨by decide, RX3, TX3, 7, tyX3, rfl, by decide, iw_X3, tyX3_ok, nmX3, rfl, GW_q2 45 (by decide +kernel) rfl, rfl, rfl⟩
theorem fl_X0_11 : FL RX0 11 2 0 := ⟨by decide, RX0, TX0, 9, tyX0, rfl, by decide, iw_X0, tyX0_ok, nmX0, rfl, GW_q1 207 (by decide +kernel) rfl⟩
theorem fl_X0_20 : FL RX0 20 2 1 := ⟨by decide, RX0, TX0, 9, tyX0, rfl, by decide, iw_X0, tyX0_ok, nmX0, rfl, GW_q1 210 (by decide +kernel) rfl⟩
theorem fl_X0_27 : FL RX0 27 2 2 := ⟨by decide, RX0, TX0, 9, tyX0, rfl, by decide, iw_X0, tyX0_ok, nmX0, rfl, GW_q1 213 (by decide +kernel) rfl⟩
theorem fl_X0_32 : FL RX0 32 2 3 := ⟨by decide, RX0, TX0, 9, tyX0, rfl, by decide, iw_X0, tyX0_ok, nmX0, rfl, GW_q1 214 (by decide +kernel) rfl⟩
theorem fw_X0_32 : FLw RX0 32 2 3 .int := ⟨by decide, RX0, TX0, 9, tyX0, rfl, by decide, iw_X0, tyX0_ok, nmX0, rfl, GW_q1 214 (by decide +kernel) rfl, rfl, rfl⟩
theorem fl_X0_36 : FL RX0 36 2 4 := ⟨by decide, RX0, TX0, 9, tyX0, rfl, by decide, iw_X0, tyX0_ok, nmX0, rfl, GW_q1 217 (by decide +kernel) rfl⟩
theorem fw_X0_36 : FLw RX0 36 2 4 .int := ⟨by decide, RX0, TX0, 9, tyX0, rfl, by decide, iw_X0, tyX0_ok, nmX0, rfl, GW_q1 217 (by decide +kernel) rfl, rfl, rfl⟩
theorem fl_X0_39 : FL RX0 39 2 5 := ⟨by decide, RX0, TX0, 9, tyX0, rfl, by decide, iw_X0, tyX0_ok, nmX0, rfl, GW_q1 221 (by decide +kernel) rfl⟩
theorem fw_X0_39 : FLw RX0 39 2 5 .int := ⟨by decide, RX0, TX0, 9, tyX0, rfl, by decide, iw_X0, tyX0_ok, nmX0, rfl, GW_q1 221 (by decide +kernel) rfl, rfl, rfl⟩
theorem fl_X0_42 : FL RX0 42 2 6 := ⟨by decide, RX0, TX0, 9, tyX0, rfl, by decide, iw_X0, tyX0_ok, nmX0, rfl, GW_q1 222 (by decide +kernel) rfl⟩
theorem fw_X0_42 : FLw RX0 42 2 6 .int := ⟨by decide, RX0, TX0, 9, tyX0, rfl, by decide, iw_X0, tyX0_ok, nmX0, rfl, GW_q1 222 (by decide +kernel) rfl, rfl, rfl⟩
theorem fl_X0_45 : FL RX0 45 2 7 := ⟨by decide, RX0, TX0, 9, tyX0, rfl, by decide, iw_X0, tyX0_ok, nmX0, rfl, GW_q1 224 (by decide +kernel) rfl⟩
theorem fw_X0_45 : FLw RX0 45 2 7 .int := ⟨by decide, RX0, TX0, 9, tyX0, rfl, by decide, iw_X0, tyX0_ok, nmX0, rfl, GW_q1 224 (by decide +kernel) rfl, rfl, rfl⟩
theorem fl_X0_48 : FL RX0 48 2 8 := ⟨by decide, RX0, TX0, 9, tyX0, rfl, by decide, iw_X0, tyX0_ok, nmX0, rfl, GW_q1 226 (by decide +kernel) rfl⟩
theorem fw_X0_48 : FLw RX0 48 2 8 .int := ⟨by decide, RX0, TX0, 9, tyX0, rfl, by decide, iw_X0, tyX0_ok, nmX0, rfl, GW_q1 226 (by decide +kernel) rfl, rfl, rfl⟩
theorem fl_X0_61 : FL RX0 61 6 6 := ⟨by decide, RX4, TX4, 10, tyX4, rfl, by decide, iw_X4, tyX4_ok, nmX4, rfl, GW_q1 65 (by decide +kernel) rfl⟩
theorem fw_X0_61 : FLw RX0 61 6 6 .int := ⟨by decide, RX4, TX4, 10, tyX4, rfl, by decide, iw_X4, tyX4_ok, nmX4, rfl, GW_q1 65 (by decide +kernel) rfl, rfl, rfl⟩
theorem fl_X0_68 : FL RX0 68 3 1 := ⟨by decide, RX1, TX1, 11, tyX1, rfl, by decide, iw_X1, tyX1_ok, nmX1, rfl, GW_q1 156 (by decide +kernel) rfl⟩
theorem fw_X0_68 : FLw RX0 68 3 1 .int := ⟨by decide, RX1, TX1, 11, tyX1, rfl, by decide, iw_X1, tyX1_ok, nmX1, rfl, GW_q1 156 (by decide +kernel) rfl, rfl, rfl⟩
theorem fl_X0_71 : FL RX0 71 6 2 := ⟨by decide, RX4, TX4, 10, tyX4, rfl, by decide, iw_X4, tyX4_ok, nmX4, rfl, GW_q1 53 (by decide +kernel) rfl⟩
theorem fw_X0_71 : FLw RX0 71 6 2 .int := ⟨by decide, RX4, TX4, 10, tyX4, rfl, by decide, iw_X4, tyX4_ok, nmX4, rfl, GW_q1 53 (by decide +kernel) rfl, rfl, rfl⟩
theorem fl_X0_74 : FL RX0 74 3 2 := ⟨by decide, RX1, TX1, 11, tyX1, rfl, by decide, iw_X1, tyX1_ok, nmX1, rfl, GW_q1 159 (by decide +kernel) rfl⟩
theorem fw_X0_74 : FLw RX0 74 3 2 .int := ⟨by decide, RX1, TX1, 11, tyX1, rfl, by decide, iw_X1, tyX1_ok, nmX1, rfl, GW_q1 159 (by decide +kernel) rfl, rfl, rfl⟩
theorem fl_X0_77 : FL RX0 77 3 3 := ⟨by decide, RX1, TX1, 11, tyX1, rfl, by decide, iw_X1, tyX1_ok, nmX1, rfl, GW_q1 162 (by decide +kernel) rfl⟩
theorem fw_X0_77 : FLw RX0 77 3 3 .int := ⟨by decide, RX1, TX1, 11, tyX1, rfl, by decide, iw_X1, tyX1_ok, nmX1, rfl, GW_q1 162 (by decide +kernel) rfl, rfl, rfl⟩
theorem fl_X0_88 : FL RX0 88 7 4 := ⟨by decide, RX5, TX5, 8, tyX5, rfl, by decide, iw_X5, tyX5_ok, nmX5, rfl, GW_q1 118 (by decide +kernel) rfl⟩
theorem fw_X0_88 : FLw RX0 88 7 4 .int := ⟨by decide, RX5, TX5, 8, tyX5, rfl, by decide, iw_X5, tyX5_ok, nmX5, rfl, GW_q1 118 (by decide +kernel) rfl, rfl, rfl⟩
theorem fl_X0_95 : FL RX0 95 3 4 := ⟨by decide, RX1, TX1, 11, tyX1, rfl, by decide, iw_X1, tyX1_ok, nmX1, rfl, GW_q1 166 (by decide +kernel) rfl⟩
theorem fw_X0_95 : FLw RX0 95 3 4 .int := ⟨by decide, RX1, TX1, 11, tyX1, rfl, by decide, iw_X1, tyX1_ok, nmX1, rfl, GW_q1 166 (by decide +kernel) rfl, rfl, rfl⟩
theorem fl_X0_100 : FL RX0 100 3 7 := ⟨by decide, RX1, TX1, 11, tyX1, rfl, by decide, iw_X1, tyX1_ok, nmX1, rfl, GW_q1 175 (by decide +kernel) rfl⟩
theorem fw_X0_100 : FLw RX0 100 3 7 .int := ⟨by decide, RX1, TX1, 11, tyX1, rfl, by decide, iw_X1, tyX1_ok, nmX1, rfl, GW_q1 175 (by decide +kernel) rfl, rfl, rfl⟩
theorem fl_X0_107 : FL RX0 107 3 5 := ⟨by decide, RX1, TX1, 11, tyX1, rfl, by decide, iw_X1, tyX1_ok, nmX1, rfl, GW_q1 169 (by decide +kernel) rfl⟩
theorem fw_X0_107 : FLw RX0 107 3 5 .int := ⟨by decide, RX1, TX1, 11, tyX1, rfl, by decide, iw_X1, tyX1_ok, nmX1, rfl, GW_q1 169 (by decide +kernel) rfl, rfl, rfl⟩
theorem fl_X0_110 : FL RX0 110 6 0 := ⟨by decide, RX4, TX4, 10, tyX4, rfl, by decide, iw_X4, tyX4_ok, nmX4, rfl, GW_q1 46 (by decide +kernel) rfl⟩
theorem fw_X0_110 : FLw RX0 110 6 0 .int := ⟨by decide, RX4, TX4, 10, tyX4, rfl, by decide, iw_X4, tyX4_ok, nmX4, rfl, GW_q1 46 (by decide +kernel) rfl, rfl, rfl⟩
theorem fl_X0_117 : FL RX0 117 7 0 := ⟨by decide, RX5, TX5, 8, tyX5, rfl, by decide, iw_X5, tyX5_ok, nmX5, rfl, GW_q1 106 (by decide +kernel) rfl⟩
theorem fw_X0_117 : FLw RX0 117 7 0 .int := ⟨by decide, RX5, TX5, 8, tyX5, rfl, by decide, iw_X5, tyX5_ok, nmX5, rfl, GW_q1 106 (by decide +kernel) rfl, rfl, rfl⟩
theorem fl_X0_136 : FL RX0 136 3 9 := ⟨by decide, RX1, TX1, 11, tyX1, rfl, by decide, iw_X1, tyX1_ok, nmX1, rfl, GW_q1 180 (by decide +kernel) rfl⟩
theorem fw_X0_136 : FLw RX0 136 3 9 .int := ⟨by decide, RX1, TX1, 11, tyX1, rfl, by decide, iw_X1, tyX1_ok, nmX1, rfl, GW_q1 180 (by decide +kernel) rfl, rfl, rfl⟩
theorem fl_X0_139 : FL RX0 139 7 7 := ⟨by decide, RX5, TX5, 8, tyX5, rfl, by decide, iw_X5, tyX5_ok, nmX5, rfl, GW_q1 126 (by decide +kernel) rfl⟩
theorem fw_X0_139 : FLw RX0 139 7 7 .int := ⟨by decide, RX5, TX5, 8, tyX5, rfl, by decide, iw_X5, tyX5_ok, nmX5, rfl, GW_q1 126 (by decide +kernel) rfl, rfl, rfl⟩
theorem fl_X0_142 : FL RX0 142 7 5 := ⟨by decide, RX5, TX5, 8, tyX5, rfl, by decide, iw_X5, tyX5_ok, nmX5, rfl, GW_q1 121 (by decide +kernel) rfl⟩
theorem fw_X0_142 : FLw RX0 142 7 5 .int := ⟨by decide, RX5, TX5, 8, tyX5, rfl, by decide, iw_X5, tyX5_ok, nmX5, rfl, GW_q1 121 (by decide +kernel) rfl, rfl, rfl⟩
theorem fl_X0_145 : FL RX0 145 7 2 := ⟨by decide, RX5, TX5, 8, tyX5, rfl, by decide, iw_X5, tyX5_ok, nmX5, rfl, GW_q1 113 (by decide +kernel) rfl⟩
theorem fw_X0_145 : FLw RX0 145 7 2 .int := ⟨by decide, RX5, TX5, 8, tyX5, rfl, by decide, iw_X5, tyX5_ok, nmX5, rfl, GW_q1 113 (by decide +kernel) rfl, rfl, rfl⟩
theorem fl_X0_148 : FL RX0 148 3 6 := ⟨by decide, RX1, TX1, 11, tyX1, rfl, by decide, iw_X1, tyX1_ok, nmX1, rfl, GW_q1 172 (by decide +kernel) rfl⟩
theorem fw_X0_148 : FLw RX0 148 3 6 .int := ⟨by decide, RX1, TX1, 11, tyX1, rfl, by decide, iw_X1, tyX1_ok, nmX1, rfl, GW_q1 172 (by decide +kernel) rfl, rfl, rfl⟩
theorem fl_X0_167 : FL RX0 167 6 1 := ⟨by decide, RX4, TX4, 10, tyX4, rfl, by decide, iw_X4, tyX4_ok, nmX4, rfl, GW_q1 50 (by decide +kernel) rfl⟩
theorem fw_X0_167 : FLw RX0 167 6 1 .int := ⟨by decide, RX4, TX4, 10, tyX4, rfl, by decide, iw_X4, tyX4_ok, nmX4, rfl, GW_q1 50 (by decide +kernel) rfl, rfl, rfl⟩
theorem fl_X0_174 : FL RX0 174 7 1 := ⟨by decide, RX5, TX5, 8, tyX5, rfl, by decide, iw_X5, tyX5_ok, nmX5, rfl, GW_q1 110 (by decide +kernel) rfl⟩
theorem fw_X0_174 : FLw RX0 174 7 1 .int := ⟨by decide, RX5, TX5, 8, tyX5, rfl, by decide, iw_X5, tyX5_ok, nmX5, rfl, GW_q1 110 (by decide +kernel) rfl, rfl, rfl⟩
theorem fl_X0_177 : FL RX0 177 6 7 := ⟨by decide, RX4, TX4, 10, tyX4, rfl, by decide, iw_X4, tyX4_ok, nmX4, rfl, GW_q1 68 (by decide +kernel) rfl⟩
theorem fw_X0_177 : FLw RX0 177 6 7 .int := ⟨by decide, RX4, TX4, 10, tyX4, rfl, by decide, iw_X4, tyX4_ok, nmX4, rfl, GW_q1 68 (by decide +kernel) rfl, rfl, rfl⟩
theorem fl_X0_184 : FL RX0 184 6 3 := ⟨by decide, RX4, TX4, 10, tyX4, rfl, by decide, iw_X4, tyX4_ok, nmX4, rfl, GW_q1 56 (by decide +kernel) rfl⟩
theorem fw_X0_184 : FLw RX0 184 6 3 .int := ⟨by decide, RX4, TX4, 10, tyX4, rfl, by decide, iw_X4, tyX4_ok, nmX4, rfl, GW_q1 56 (by decide +kernel) rfl, rfl, rfl⟩
theorem fl_X0_187 : FL RX0 187 6 9 := ⟨by decide, RX4, TX4, 10, tyX4, rfl, by decide, iw_X4, tyX4_ok, nmX4, rfl, GW_q1 73 (by decide +kernel) rfl⟩
theorem fw_X0_187 : FLw RX0 187 6 9 .int := ⟨by decide, RX4, TX4, 10, tyX4, rfl, by decide, iw_X4, tyX4_ok, nmX4, rfl, GW_q1 73 (by decide +kernel) rfl, rfl, rfl⟩
theorem fl_X0_194 : FL RX0 194 6 4 := ⟨by decide, RX4, TX4, 10, tyX4, rfl, by decide, iw_X4, tyX4_ok, nmX4, rfl, GW_q1 59 (by decide +kernel) rfl⟩
theorem fw_X0_194 : FLw RX0 194 6 4 .int := ⟨by decide, RX4, TX4, 10, tyX4, rfl, by decide, iw_X4, tyX4_ok, nmX4, rfl, GW_q1 59 (by decide +kernel) rfl, rfl, rfl⟩
theorem fl_X0_200 : FL RX0 200 3 8 := ⟨by decide, RX1, TX1, 11, tyX1, rfl, by decide, iw_X1, tyX1_ok, nmX1, rfl, GW_q1 177 (by decide +kernel) rfl⟩
theorem fw_X0_200 : FLw RX0 200 3 8 .int := ⟨by decide, RX1, TX1, 11, tyX1, rfl, by decide, iw_X1, tyX1_ok, nmX1, rfl, GW_q1 177 (by decide +kernel) rfl, rfl, rfl⟩
theorem fl_X0_203 : FL RX0 203 6 8 := ⟨by decide, RX4, TX4, 10, tyX4, rfl, by decide, iw_X4, tyX4_ok, nmX4, rfl, GW_q1 70 (by decide +kernel) rfl⟩
theorem fw_X0_203 : FLw RX0 203 6 8 .int := ⟨by decide, RX4, TX4, 10, tyX4, rfl, by decide, iw_X4, tyX4_ok, nmX4, rfl, GW_q1 70 (by decide +kernel) rfl, rfl, rfl⟩
theorem fl_X0_206 : FL RX0 206 7 6 := ⟨by decide, RX5, TX5, 8, tyX5, rfl, by decide, iw_X5, tyX5_ok, nmX5, rfl, GW_q1 124 (by decide +kernel) rfl⟩
theorem fw_X0_206 : FLw RX0 206 7 6 .int := ⟨by decide, RX5, TX5, 8, tyX5, rfl, by decide, iw_X5, tyX5_ok, nmX5, rfl, GW_q1 124 (by decide +kernel) rfl, rfl, rfl⟩
theorem fl_X1_9 : FL RX1 9 3 0 := ⟨by decide, RX1, TX1, 11, tyX1, rfl, by decide, iw_X1, tyX1_ok, nmX1, rfl, GW_q1 152 (by decide +kernel) rfl⟩
theorem fw_X1_9 : FLw RX1 9 3 0 .int := ⟨by decide, RX1, TX1, 11, tyX1, rfl, by decide, iw_X1, tyX1_ok, nmX1, rfl, GW_q1 152 (by decide +kernel) rfl, rfl, rfl⟩
theorem fl_X1_15 : FL RX1 15 3 1 := ⟨by decide, RX1, TX1, 11, tyX1, rfl, by decide, iw_X1, tyX1_ok, nmX1, rfl, GW_q1 155 (by decide +kernel) rfl⟩
theorem fw_X1_15 : FLw RX1 15 3 1 .int := ⟨by decide, RX1, TX1, 11, tyX1, rfl, by decide, iw_X1, tyX1_ok, nmX1, rfl, GW_q1 155 (by decide +kernel) rfl, rfl, rfl⟩
theorem fl_X1_18 : FL RX1 18 3 2 := ⟨by decide, RX1, TX1, 11, tyX1, rfl, by decide, iw_X1, tyX1_ok, nmX1, rfl, GW_q1 158 (by decide +kernel) rfl⟩
theorem fw_X1_18 : FLw RX1 18 3 2 .int := ⟨by decide, RX1, TX1, 11, tyX1, rfl, by decide, iw_X1, tyX1_ok, nmX1, rfl, GW_q1 158 (by decide +kernel) rfl, rfl, rfl⟩
theorem fl_X1_21 : FL RX1 21 3 3 := ⟨by decide, RX1, TX1, 11, tyX1, rfl, by decide, iw_X1, tyX1_ok, nmX1, rfl, GW_q1 161 (by decide +kernel) rfl⟩
theorem fw_X1_21 : FLw RX1 21 3 3 .int := ⟨by decide, RX1, TX1, 11, tyX1, rfl, by decide, iw_X1, tyX1_ok, nmX1, rfl, GW_q1 161 (by decide +kernel) rfl, rfl, rfl⟩
theorem fl_X1_24 : FL RX1 24 3 8 := ⟨by decide, RX1, TX1, 11, tyX1, rfl, by decide, iw_X1, tyX1_ok, nmX1, rfl, GW_q1 176 (by decide +kernel) rfl⟩
theorem fw_X1_24 : FLw RX1 24 3 8 .int := ⟨by decide, RX1, TX1, 11, tyX1, rfl, by decide, iw_X1, tyX1_ok, nmX1, rfl, GW_q1 176 (by decide +kernel) rfl, rfl, rfl⟩
theorem fl_X1_27 : FL RX1 27 3 9 := ⟨by decide, RX1, TX1, 11, tyX1, rfl, by decide, iw_X1, tyX1_ok, nmX1, rfl, GW_q1 179 (by decide +kernel) rfl⟩
theorem fw_X1_27 : FLw RX1 27 3 9 .int := ⟨by decide, RX1, TX1, 11, tyX1, rfl, by decide, iw_X1, tyX1_ok, nmX1, rfl, GW_q1 179 (by decide +kernel) rfl, rfl, rfl⟩
theorem fl_X1_30 : FL RX1 30 3 10 := ⟨by decide, RX1, TX1, 11, tyX1, rfl, by decide, iw_X1, tyX1_ok, nmX1, rfl, GW_q1 182 (by decide +kernel) rfl⟩
theorem fw_X1_30 : FLw RX1 30 3 10 .int := ⟨by decide, RX1, TX1, 11, tyX1, rfl, by decide, iw_X1, tyX1_ok, nmX1, rfl, GW_q1 182 (by decide +kernel) rfl, rfl, rfl⟩
theorem fl_X1_37 : FL RX1 37 3 4 := ⟨by decide, RX1, TX1, 11, tyX1, rfl, by decide, iw_X1, tyX1_ok, nmX1, rfl, GW_q1 164 (by decide +kernel) rfl⟩
theorem fw_X1_37 : FLw RX1 37 3 4 .int := ⟨by decide, RX1, TX1, 11, tyX1, rfl, by decide, iw_X1, tyX1_ok, nmX1, rfl, GW_q1 164 (by decide +kernel) rfl, rfl, rfl⟩
theorem fl_X1_40 : FL RX1 40 3 5 := ⟨by decide, RX1, TX1, 11, tyX1, rfl, by decide, iw_X1, tyX1_ok, nmX1, rfl, GW_q1 167 (by decide +kernel) rfl⟩
theorem fw_X1_40 : FLw RX1 40 3 5 .int := ⟨by decide, RX1, TX1, 11, tyX1, rfl, by decide, iw_X1, tyX1_ok, nmX1, rfl, GW_q1 167 (by decide +kernel) rfl, rfl, rfl⟩
theorem fl_X1_43 : FL RX1 43 3 6 := ⟨by decide, RX1, TX1, 11, tyX1, rfl, by decide, iw_X1, tyX1_ok, nmX1, rfl, GW_q1 170 (by decide +kernel) rfl⟩
theorem fw_X1_43 : FLw RX1 43 3 6 .int := ⟨by decide, RX1, TX1, 11, tyX1, rfl, by decide, iw_X1, tyX1_ok, nmX1, rfl, GW_q1 170 (by decide +kernel) rfl, rfl, rfl⟩
theorem fl_X1_46 : FL RX1 46 3 7 := ⟨by decide, RX1, TX1, 11, tyX1, rfl, by decide, iw_X1, tyX1_ok, nmX1, rfl, GW_q1 173 (by decide +kernel) rfl⟩
theorem fw_X1_46 : FLw RX1 46 3 7 .int := ⟨by decide, RX1, TX1, 11, tyX1, rfl, by decide, iw_X1, tyX1_ok, nmX1, rfl, GW_q1 173 (by decide +kernel) rfl, rfl, rfl⟩
theorem fl_X2_11 : FL RX2 11 4 0 := ⟨by decide, RX2, TX2, 3, tyX2, rfl, by decide, iw_X2, tyX2_ok, nmX2, rfl, GW_q2 16 (by decide +kernel) rfl⟩
theorem fl_X2_18 : FL RX2 18 4 2 := ⟨by decide, RX2, TX2, 3, tyX2, rfl, by decide, iw_X2, tyX2_ok, nmX2, rfl, GW_q2 18 (by decide +kernel) rfl⟩
theorem fw_X2_18 : FLw RX2 18 4 2 .int := ⟨by decide, RX2, TX2, 3, tyX2, rfl, by decide, iw_X2, tyX2_ok, nmX2, rfl, GW_q2 18 (by decide +kernel) rfl, rfl, rfl⟩
theorem fl_X2_22 : FL RX2 22 4 1 := ⟨by decide, RX2, TX2, 3, tyX2, rfl, by decide, iw_X2, tyX2_ok, nmX2, rfl, GW_q2 17 (by decide +kernel) rfl⟩
theorem fw_X2_22 : FLw RX2 22 4 1 .int := ⟨by decide, RX2, TX2, 3, tyX2, rfl, by decide, iw_X2, tyX2_ok, nmX2, rfl, GW_q2 17 (by decide +kernel) rfl, rfl, rfl⟩
theorem fl_X3_9 : FL RX3 9 5 0 := ⟨by decide, RX3, TX3, 7, tyX3, rfl, by decide, iw_X3, tyX3_ok, nmX3, rfl, GW_q2 33 (by decide +kernel) rfl⟩
theorem fl_X3_15 : FL RX3 15 5 1 := ⟨by decide, RX3, TX3, 7, tyX3, rfl, by decide, iw_X3, tyX3_ok, nmX3, rfl, GW_q2 34 (by decide +kernel) rfl⟩
theorem fw_X3_15 : FLw RX3 15 5 1 .int := ⟨by decide, RX3, TX3, 7, tyX3, rfl, by decide, iw_X3, tyX3_ok, nmX3, rfl, GW_q2 34 (by decide +kernel) rfl, rfl, rfl⟩
theorem fl_X3_19 : FL RX3 19 5 2 := ⟨by decide, RX3, TX3, 7, tyX3, rfl, by decide, iw_X3, tyX3_ok, nmX3, rfl, GW_q2 36 (by decide +kernel) rfl⟩
theorem fw_X3_19 : FLw RX3 19 5 2 .int := ⟨by decide, RX3, TX3, 7, tyX3, rfl, by decide, iw_X3, tyX3_ok, nmX3, rfl, GW_q2 36 (by decide +kernel) rfl, rfl, rfl⟩
theorem fl_X3_22 : FL RX3 22 5 3 := ⟨by decide, RX3, TX3, 7, tyX3, rfl, by decide, iw_X3, tyX3_ok, nmX3, rfl, GW_q2 38 (by decide +kernel) rfl⟩
theorem fw_X3_22 : FLw RX3 22 5 3 .int := ⟨by decide, RX3, TX3, 7, tyX3, rfl, by decide, iw_X3, tyX3_ok, nmX3, rfl, GW_q2 38 (by decide +kernel) rfl, rfl, rfl⟩
theorem fl_X3_33 : FL RX3 33 5 4 := ⟨by decide, RX3, TX3, 7, tyX3, rfl, by decide, iw_X3, tyX3_ok, nmX3, rfl, GW_q2 40 (by decide +kernel) rfl⟩
theorem fw_X3_33 : FLw RX3 33 5 4 .int := ⟨by decide, RX3, TX3, 7, tyX3, rfl, by decide, iw_X3, tyX3_ok, nmX3, rfl, GW_q2 40 (by decide +kernel) rfl, rfl, rfl⟩
theorem fl_X3_53 : FL RX3 53 5 5 := ⟨by decide, RX3, TX3, 7, tyX3, rfl, by decide, iw_X3, tyX3_ok, nmX3, rfl, GW_q2 42 (by decide +kernel) rfl⟩
theorem fw_X3_53 : FLw RX3 53 5 5 .int := ⟨by decide, RX3, TX3, 7, tyX3, rfl, by decide, iw_X3, tyX3_ok, nmX3, rfl, GW_q2 42 (by decide +kernel) rfl, rfl, rfl⟩
theorem fl_X3_56 : FL RX3 56 5 6 := ⟨by decide, RX3, TX3, 7, tyX3, rfl, by decide, iw_X3, tyX3_ok, nmX3, rfl, GW_q2 44 (by decide +kernel) rfl⟩
theorem fw_X3_56 : FLw RX3 56 5 6 .int := ⟨by decide, RX3, TX3, 7, tyX3, rfl, by decide, iw_X3, tyX3_ok, nmX3, rfl, GW_q2 44 (by decide +kernel) rfl, rfl, rfl⟩
theorem fl_X4_7 : FL RX4 7 6 0 := ⟨by decide, RX4, TX4, 10, tyX4, rfl, by decide, iw_X4, tyX4_ok, nmX4, rfl, GW_q1 43 (by decide +kernel) rfl⟩
theorem fw_X4_7 : FLw RX4 7 6 0 .int := ⟨by decide, RX4, TX4, 10, tyX4, rfl, by decide, iw_X4, tyX4_ok, nmX4, rfl, GW_q1 43 (by decide +kernel) rfl, rfl, rfl⟩
theorem fl_X4_13 : FL RX4 13 6 1 := ⟨by decide, RX4, TX4, 10, tyX4, rfl, by decide, iw_X4, tyX4_ok, nmX4, rfl, GW_q1 47 (by decide +kernel) rfl⟩
theorem fw_X4_13 : FLw RX4 13 6 1 .int := ⟨by decide, RX4, TX4, 10, tyX4, rfl, by decide, iw_X4, tyX4_ok, nmX4, rfl, GW_q1 47 (by decide +kernel) rfl, rfl, rfl⟩
theorem fl_X4_16 : FL RX4 16 6 2 := ⟨by decide, RX4, TX4, 10, tyX4, rfl, by decide, iw_X4, tyX4_ok, nmX4, rfl, GW_q1 51 (by decide +kernel) rfl⟩
theorem fw_X4_16 : FLw RX4 16 6 2 .int := ⟨by decide, RX4, TX4, 10, tyX4, rfl, by decide, iw_X4, tyX4_ok, nmX4, rfl, GW_q1 51 (by decide +kernel) rfl, rfl, rfl⟩
theorem fl_X4_19 : FL RX4 19 6 3 := ⟨by decide, RX4, TX4, 10, tyX4, rfl, by decide, iw_X4, tyX4_ok, nmX4, rfl, GW_q1 54 (by decide +kernel) rfl⟩
theorem fw_X4_19 : FLw RX4 19 6 3 .int := ⟨by decide, RX4, TX4, 10, tyX4, rfl, by decide, iw_X4, tyX4_ok, nmX4, rfl, GW_q1 54 (by decide +kernel) rfl, rfl, rfl⟩
theorem fl_X4_22 : FL RX4 22 6 4 := ⟨by decide, RX4, TX4, 10, tyX4, rfl, by decide, iw_X4, tyX4_ok, nmX4, rfl, GW_q1 57 (by decide +kernel) rfl⟩
theorem fw_X4_22 : FLw RX4 22 6 4 .int := ⟨by decide, RX4, TX4, 10, tyX4, rfl, by decide, iw_X4, tyX4_ok, nmX4, rfl, GW_q1 57 (by decide +kernel) rfl, rfl, rfl⟩
theorem fl_X4_25 : FL RX4 25 6 5 := ⟨by decide, RX4, TX4, 10, tyX4, rfl, by decide, iw_X4, tyX4_ok, nmX4, rfl, GW_q1 60 (by decide +kernel) rfl⟩
theorem fw_X4_25 : FLw RX4 25 6 5 .int := ⟨by decide, RX4, TX4, 10, tyX4, rfl, by decide, iw_X4, tyX4_ok, nmX4, rfl, GW_q1 60 (by decide +kernel) rfl, rfl, rfl⟩
theorem fl_X4_28 : FL RX4 28 6 6 := ⟨by decide, RX4, TX4, 10, tyX4, rfl, by decide, iw_X4, tyX4_ok, nmX4, rfl, GW_q1 63 (by decide +kernel) rfl⟩
theorem fw_X4_28 : FLw RX4 28 6 6 .int := ⟨by decide, RX4, TX4, 10, tyX4, rfl, by decide, iw_X4, tyX4_ok, nmX4, rfl, GW_q1 63 (by decide +kernel) rfl, rfl, rfl⟩
theorem fl_X4_31 : FL RX4 31 6 7 := ⟨by decide, RX4, TX4, 10, tyX4, rfl, by decide, iw_X4, tyX4_ok, nmX4, rfl, GW_q1 66 (by decide +kernel) rfl⟩
theorem fw_X4_31 : FLw RX4 31 6 7 .int := ⟨by decide, RX4, TX4, 10, tyX4, rfl, by decide, iw_X4, tyX4_ok, nmX4, rfl, GW_q1 66 (by decide +kernel) rfl, rfl, rfl⟩
theorem fl_X4_34 : FL RX4 34 6 8 := ⟨by decide, RX4, TX4, 10, tyX4, rfl, by decide, iw_X4, tyX4_ok, nmX4, rfl, GW_q1 69 (by decide +kernel) rfl⟩
theorem fw_X4_34 : FLw RX4 34 6 8 .int := ⟨by decide, RX4, TX4, 10, tyX4, rfl, by decide, iw_X4, tyX4_ok, nmX4, rfl, GW_q1 69 (by decide +kernel) rfl, rfl, rfl⟩
theorem fl_X4_37 : FL RX4 37 6 9 := ⟨by decide, RX4, TX4, 10, tyX4, rfl, by decide, iw_X4, tyX4_ok, nmX4, rfl, GW_q1 72 (by decide +kernel) rfl⟩
theorem fw_X4_37 : FLw RX4 37 6 9 .int := ⟨by decide, RX4, TX4, 10, tyX4, rfl, by decide, iw_X4, tyX4_ok, nmX4, rfl, GW_q1 72 (by decide +kernel) rfl, rfl, rfl⟩
theorem fl_X5_9 : FL RX5 9 7 0 := ⟨by decide, RX5, TX5, 8, tyX5, rfl, by decide, iw_X5, tyX5_ok, nmX5, rfl, GW_q1 103 (by decide +kernel) rfl⟩
theorem fw_X5_9 : FLw RX5 9 7 0 .int := ⟨by decide, RX5, TX5, 8, tyX5, rfl, by decide, iw_X5, tyX5_ok, nmX5, rfl, GW_q1 103 (by decide +kernel) rfl, rfl, rfl⟩
theorem fl_X5_15 : FL RX5 15 7 1 := ⟨by decide, RX5, TX5, 8, tyX5, rfl, by decide, iw_X5, tyX5_ok, nmX5, rfl, GW_q1 107 (by decide +kernel) rfl⟩
theorem fw_X5_15 : FLw RX5 15 7 1 .int := ⟨by decide, RX5, TX5, 8, tyX5, rfl, by decide, iw_X5, tyX5_ok, nmX5, rfl, GW_q1 107 (by decide +kernel) rfl, rfl, rfl⟩
theorem fl_X5_18 : FL RX5 18 7 2 := ⟨by decide, RX5, TX5, 8, tyX5, rfl, by decide, iw_X5, tyX5_ok, nmX5, rfl, GW_q1 111 (by decide +kernel) rfl⟩
theorem fw_X5_18 : FLw RX5 18 7 2 .int := ⟨by decide, RX5, TX5, 8, tyX5, rfl, by decide, iw_X5, tyX5_ok, nmX5, rfl, GW_q1 111 (by decide +kernel) rfl, rfl, rfl⟩
theorem fl_X5_21 : FL RX5 21 7 3 := ⟨by decide, RX5, TX5, 8, tyX5, rfl, by decide, iw_X5, tyX5_ok, nmX5, rfl, GW_q1 114 (by decide +kernel) rfl⟩
theorem fw_X5_21 : FLw RX5 21 7 3 .int := ⟨by decide, RX5, TX5, 8, tyX5, rfl, by decide, iw_X5, tyX5_ok, nmX5, rfl, GW_q1 114 (by decide +kernel) rfl, rfl, rfl⟩
theorem fl_X5_24 : FL RX5 24 7 4 := ⟨by decide, RX5, TX5, 8, tyX5, rfl, by decide, iw_X5, tyX5_ok, nmX5, rfl, GW_q1 116 (by decide +kernel) rfl⟩
theorem fw_X5_24 : FLw RX5 24 7 4 .int := ⟨by decide, RX5, TX5, 8, tyX5, rfl, by decide, iw_X5, tyX5_ok, nmX5, rfl, GW_q1 116 (by decide +kernel) rfl, rfl, rfl⟩
theorem fl_X5_27 : FL RX5 27 7 5 := ⟨by decide, RX5, TX5, 8, tyX5, rfl, by decide, iw_X5, tyX5_ok, nmX5, rfl, GW_q1 119 (by decide +kernel) rfl⟩
theorem fw_X5_27 : FLw RX5 27 7 5 .int := ⟨by decide, RX5, TX5, 8, tyX5, rfl, by decide, iw_X5, tyX5_ok, nmX5, rfl, GW_q1 119 (by decide +kernel) rfl, rfl, rfl⟩
theorem fl_X5_30 : FL RX5 30 7 6 := ⟨by decide, RX5, TX5, 8, tyX5, rfl, by decide, iw_X5, tyX5_ok, nmX5, rfl, GW_q1 122 (by decide +kernel) rfl⟩
theorem fw_X5_30 : FLw RX5 30 7 6 .int := ⟨by decide, RX5, TX5, 8, tyX5, rfl, by decide, iw_X5, tyX5_ok, nmX5, rfl, GW_q1 122 (by decide +kernel) rfl, rfl, rfl⟩
theorem fl_X5_33 : FL RX5 33 7 7 := ⟨by decide, RX5, TX5, 8, tyX5, rfl, by decide, iw_X5, tyX5_ok, nmX5, rfl, GW_q1 125 (by decide +kernel) rfl⟩
theorem fw_X5_33 : FLw RX5 33 7 7 .int := ⟨by decide, RX5, TX5, 8, tyX5, rfl, by decide, iw_X5, tyX5_ok, nmX5, rfl, GW_q1 125 (by decide +kernel) rfl, rfl, rfl⟩
theorem fl_X5_36 : FL RX5 36 3 0 := ⟨by decide, RX1, TX1, 11, tyX1, rfl, by decide, iw_X1, tyX1_ok, nmX1, rfl, GW_q1 153 (by decide +kernel) rfl⟩
theorem fw_X5_36 : FLw RX5 36 3 0 .int := ⟨by decide, RX1, TX1, 11, tyX1, rfl, by decide, iw_X1, tyX1_ok, nmX1, rfl, GW_q1 153 (by decide +kernel) rfl, rfl, rfl⟩
theorem fl_X6_9 : FL RX6 9 8 0 := ⟨by decide, RX6, TX6, 1, tyX6, rfl, by decide, iw_X6, tyX6_ok, nmX6, rfl, GW_q2 68 (by decide +kernel) rfl⟩
theorem fl_X6_24 : FL RX6 24 2 3 := ⟨by decide, RX0, TX0, 9, tyX0, rfl, by decide, iw_X0, tyX0_ok, nmX0, rfl, GW_q1 216 (by decide +kernel) rfl⟩
theorem fw_X6_24 : FLw RX6 24 2 3 .int := ⟨by decide, RX0, TX0, 9, tyX0, rfl, by decide, iw_X0, tyX0_ok, nmX0, rfl, GW_q1 216 (by decide +kernel) rfl, rfl, rfl⟩
theorem fl_X6_30 : FL RX6 30 2 0 := ⟨by decide, RX0, TX0, 9, tyX0, rfl, by decide, iw_X0, tyX0_ok, nmX0, rfl, GW_q1 209 (by decide +kernel) rfl⟩
theorem fl_X6_38 : FL RX6 38 6 0 := ⟨by decide, RX4, TX4, 10, tyX4, rfl, by decide, iw_X4, tyX4_ok, nmX4, rfl, GW_q1 44 (by decide +kernel) rfl⟩
theorem fw_X6_38 : FLw RX6 38 6 0 .int := ⟨by decide, RX4, TX4, 10, tyX4, rfl, by decide, iw_X4, tyX4_ok, nmX4, rfl, GW_q1 44 (by decide +kernel) rfl, rfl, rfl⟩
theorem fl_X6_43 : FL RX6 43 6 5 := ⟨by decide, RX4, TX4, 10, tyX4, rfl, by decide, iw_X4, tyX4_ok, nmX4, rfl, GW_q1 61 (by decide +kernel) rfl⟩
theorem fw_X6_43 : FLw RX6 43 6 5 .int := ⟨by decide, RX4, TX4, 10, tyX4, rfl, by decide, iw_X4, tyX4_ok, nmX4, rfl, GW_q1 61 (by decide +kernel) rfl, rfl, rfl⟩
theorem fl_X6_46 : FL RX6 46 6 1 := ⟨by decide, RX4, TX4, 10, tyX4, rfl, by decide, iw_X4, tyX4_ok, nmX4, rfl, GW_q1 48 (by decide +kernel) rfl⟩
theorem fw_X6_46 : FLw RX6 46 6 1 .int := ⟨by decide, RX4, TX4, 10, tyX4, rfl, by decide, iw_X4, tyX4_ok, nmX4, rfl, GW_q1 48 (by decide +kernel) rfl, rfl, rfl⟩
theorem fl_X6_57 : FL RX6 57 2 4 := ⟨by decide, RX0, TX0, 9, tyX0, rfl, by decide, iw_X0, tyX0_ok, nmX0, rfl, GW_q1 219 (by decide +kernel) rfl⟩
theorem fw_X6_57 : FLw RX6 57 2 4 .int := ⟨by decide, RX0, TX0, 9, tyX0, rfl, by decide, iw_X0, tyX0_ok, nmX0, rfl, GW_q1 219 (by decide +kernel) rfl, rfl, rfl⟩
theorem fl_X6_60 : FL RX6 60 2 1 := ⟨by decide, RX0, TX0, 9, tyX0, rfl, by decide, iw_X0, tyX0_ok, nmX0, rfl, GW_q1 211 (by decide +kernel) rfl⟩
theorem fl_X6_67 : FL RX6 67 7 0 := ⟨by decide, RX5, TX5, 8, tyX5, rfl, by decide, iw_X5, tyX5_ok, nmX5, rfl, GW_q1 104 (by decide +kernel) rfl⟩
theorem fw_X6_67 : FLw RX6 67 7 0 .int := ⟨by decide, RX5, TX5, 8, tyX5, rfl, by decide, iw_X5, tyX5_ok, nmX5, rfl, GW_q1 104 (by decide +kernel) rfl, rfl, rfl⟩
theorem fl_X6_76 : FL RX6 76 7 1 := ⟨by decide, RX5, TX5, 8, tyX5, rfl, by decide, iw_X5, tyX5_ok, nmX5, rfl, GW_q1 108 (by decide +kernel) rfl⟩
theorem fw_X6_76 : FLw RX6 76 7 1 .int := ⟨by decide, RX5, TX5, 8, tyX5, rfl, by decide, iw_X5, tyX5_ok, nmX5, rfl, GW_q1 108 (by decide +kernel) rfl, rfl, rfl⟩
theorem fl_X8_9 : FL RX8 9 10 0 := ⟨by decide, RX8, TX8, 20, tyX8, rfl, by decide, iw_X8, tyX8_ok, nmX8, rfl, GW_q5 206 (by decide +kernel) rfl⟩
theorem fl_X8_13 : FL RX8 13 10 1 := ⟨by decide, RX8, TX8, 20, tyX8, rfl, by decide, iw_X8, tyX8_ok, nmX8, rfl, GW_q5 207 (by decide +kernel) rfl⟩
theorem fl_X8_16 : FL RX8 16 10 3 := ⟨by decide, RX8, TX8, 20, tyX8, rfl, by decide, iw_X8, tyX8_ok, nmX8, rfl, GW_q5 209 (by decide +kernel) rfl⟩
theorem fl_X8_19 : FL RX8 19 10 8 := ⟨by decide, RX8, TX8, 20, tyX8, rfl, by decide, iw_X8, tyX8_ok, nmX8, rfl, GW_q5 214 (by decide +kernel) rfl⟩
theorem fl_X8_22 : FL RX8 22 10 9 := ⟨by decide, RX8, TX8, 20, tyX8, rfl, by decide, iw_X8, tyX8_ok, nmX8, rfl, GW_q5 215 (by decide +kernel) rfl⟩
theorem fl_X8_25 : FL RX8 25 10 11 := ⟨by decide, RX8, TX8, 20, tyX8, rfl, by decide, iw_X8, tyX8_ok, nmX8, rfl, GW_q5 217 (by decide +kernel) rfl⟩
theorem fl_X8_28 : FL RX8 28 10 17 := ⟨by decide, RX8, TX8, 20, tyX8, rfl, by decide, iw_X8, tyX8_ok, nmX8, rfl, GW_q5 223 (by decide +kernel) rfl⟩
theorem fl_X8_31 : FL RX8 31 10 18 := ⟨by decide, RX8, TX8, 20, tyX8, rfl, by decide, iw_X8, tyX8_ok, nmX8, rfl, GW_q5 224 (by decide +kernel) rfl⟩
theorem fl_X8_34 : FL RX8 34 10 19 := ⟨by decide, RX8, TX8, 20, tyX8, rfl, by decide, iw_X8, tyX8_ok, nmX8, rfl, GW_q5 225 (by decide +kernel) rfl⟩
theorem fl_X8_37 : FL RX8 37 10 5 := ⟨by decide, RX8, TX8, 20, tyX8, rfl, by decide, iw_X8, tyX8_ok, nmX8, rfl, GW_q5 211 (by decide +kernel) rfl⟩
theorem fw_X8_37 : FLw RX8 37 10 5 .int := ⟨by decide, RX8, TX8, 20, tyX8, rfl, by decide, iw_X8, tyX8_ok, nmX8, rfl, GW_q5 211 (by decide +kernel) rfl, rfl, rfl⟩
theorem fl_X8_41 : FL RX8 41 10 6 := ⟨by decide, RX8, TX8, 20, tyX8, rfl, by decide, iw_X8, tyX8_ok, nmX8, rfl, GW_q5 212 (by decide +kernel) rfl⟩
theorem fw_X8_41 : FLw RX8 41 10 6 .int := ⟨by decide, RX8, TX8, 20, tyX8, rfl, by decide, iw_X8, tyX8_ok, nmX8, rfl, GW_q5 212 (by decide +kernel) rfl, rfl, rfl⟩
theorem fl_X8_44 : FL RX8 44 10 4 := ⟨by decide, RX8, TX8, 20, tyX8, rfl, by decide, iw_X8, tyX8_ok, nmX8, rfl, GW_q5 210 (by decide +kernel) rfl⟩
theorem fw_X8_44 : FLw RX8 44 10 4 .int := ⟨by decide, RX8, TX8, 20, tyX8, rfl, by decide, iw_X8, tyX8_ok, nmX8, rfl, GW_q5 210 (by decide +kernel) rfl, rfl, rfl⟩
theorem fl_X8_124 : FL RX8 124 10 7 := ⟨by decide, RX8, TX8, 20, tyX8, rfl, by decide, iw_X8, tyX8_ok, nmX8, rfl, GW_q5 213 (by decide +kernel) rfl⟩
theorem fw_X8_124 : FLw RX8 124 10 7 .int := ⟨by decide, RX8, TX8, 20, tyX8, rfl, by decide, iw_X8, tyX8_ok, nmX8, rfl, GW_q5 213 (by decide +kernel) rfl, rfl, rfl⟩
theorem fl_X8_172 : FL RX8 172 10 10 := ⟨by decide, RX8, TX8, 20, tyX8, rfl, by decide, iw_X8, tyX8_ok, nmX8, rfl, GW_q5 216 (by decide +kernel) rfl⟩
theorem fw_X8_172 : FLw RX8 172 10 10 .int := ⟨by decide, RX8, TX8, 20, tyX8, rfl, by decide, iw_X8, tyX8_ok, nmX8, rfl, GW_q5 216 (by decide +kernel) rfl, rfl, rfl⟩
theorem fl_X8_175 : FL RX8 175 10 12 := ⟨by decide, RX8, TX8, 20, tyX8, rfl, by decide, iw_X8, tyX8_ok, nmX8, rfl, GW_q5 218 (by decide +kernel) rfl⟩
theorem fw_X8_175 : FLw RX8 175 10 12 .int := ⟨by decide, RX8, TX8, 20, tyX8, rfl, by decide, iw_X8, tyX8_ok, nmX8, rfl, GW_q5 218 (by decide +kernel) rfl, rfl, rfl⟩
theorem fl_X8_178 : FL RX8 178 10 13 := ⟨by decide, RX8, TX8, 20, tyX8, rfl, by decide, iw_X8, tyX8_ok, nmX8, rfl, GW_q5 219 (by decide +kernel) rfl⟩
theorem fw_X8_178 : FLw RX8 178 10 13 .boolean := ⟨by decide, RX8, TX8, 20, tyX8, rfl, by decide, iw_X8, tyX8_ok, nmX8, rfl, GW_q5 219 (by decide +kernel) rfl, rfl, rfl⟩
theorem fl_X8_188 : FL RX8 188 10 16 := ⟨by decide, RX8, TX8, 20, tyX8, rfl, by decide, iw_X8, tyX8_ok, nmX8, rfl, GW_q5 222 (by decide +kernel) rfl⟩
theorem fw_X8_188 : FLw RX8 188 10 16 .int := ⟨by decide, RX8, TX8, 20, tyX8, rfl, by decide, iw_X8, tyX8_ok, nmX8, rfl, GW_q5 222 (by decide +kernel) rfl, rfl, rfl⟩
theorem fl_X8_204 : FL RX8 204 10 14 := ⟨by decide, RX8, TX8, 20, tyX8, rfl, by decide, iw_X8, tyX8_ok, nmX8, rfl, GW_q5 220 (by decide +kernel) rfl⟩
theorem fw_X8_204 : FLw RX8 204 10 14 .boolean := ⟨by decide, RX8, TX8, 20, tyX8, rfl, by decide, iw_X8, tyX8_ok, nmX8, rfl, GW_q5 220 (by decide +kernel) rfl, rfl, rfl⟩
theorem fl_X8_207 : FL RX8 207 10 15 := ⟨by decide, RX8, TX8, 20, tyX8, rfl, by decide, iw_X8, tyX8_ok, nmX8, rfl, GW_q5 221 (by decide +kernel) rfl⟩
theorem fw_X8_207 : FLw RX8 207 10 15 .int := ⟨by decide, RX8, TX8, 20, tyX8, rfl, by decide, iw_X8, tyX8_ok, nmX8, rfl, GW_q5 221 (by decide +kernel) rfl, rfl, rfl⟩
theorem fl_X8_213 : FL RX8 213 10 2 := ⟨by decide, RX8, TX8, 20, tyX8, rfl, by decide, iw_X8, tyX8_ok, nmX8, rfl, GW_q5 208 (by decide +kernel) rfl⟩
theorem fw_X8_213 : FLw RX8 213 10 2 .boolean := ⟨by decide, RX8, TX8, 20, tyX8, rfl, by decide, iw_X8, tyX8_ok, nmX8, rfl, GW_q5 208 (by decide +kernel) rfl, rfl, rfl⟩
theorem mk_X0_becomeEmpty : MVok mX0_becomeEmpty 2 0 := ⟨by decide, ⟨TX0, 9, rfl⟩, GW_q2 106 (by decide +kernel) rfl, GW_q2 107 (by decide +kernel) rfl, ini_RX0, GW_q2 108 (by decide +kernel) rfl, by decide, by decide, by decide +kernel⟩
theorem lk_X7_57 : LKV RX7 57 mX0_becomeEmpty 2 0 := lkv mk_X0_becomeEmpty (GW_q2 105 (by decide +kernel) rfl)
theorem mk_X2_forgetAll : MVok mX2_forgetAll 4 0 := ⟨by decide, ⟨TX2, 3, rfl⟩, GW_q2 110 (by decide +kernel) rfl, GW_q2 111 (by decide +kernel) rfl, ini_RX2, GW_q2 112 (by decide +kernel) rfl, by decide, by decide, by decide +kernel⟩
theorem lk_X7_60 : LKV RX7 60 mX2_forgetAll 4 0 := lkv mk_X2_forgetAll (GW_q2 109 (by decide +kernel) rfl)
theorem mk_X7_isStation : MSok mX7_isStation 1 := ⟨GW_q2 238 (by decide +kernel) rfl, ini_RX7, GW_q2 239 (by decide +kernel) rfl, by decide, by decide, by decide +kernel⟩
theorem lk_X7_63 : LKS RX7 63 mX7_isStation 1 := ⟨GW_q2 237 (by decide +kernel) rfl, mk_X7_isStation⟩
theorem mk_X7_isBetween : MSok mX7_isBetween 3 := ⟨GW_q3 1 (by decide +kernel) rfl, ini_RX7, GW_q3 2 (by decide +kernel) rfl, by decide, by decide, by decide +kernel⟩
theorem lk_X7_74 : LKS RX7 74 mX7_isBetween 3 := ⟨GW_q3 0 (by decide +kernel) rfl, mk_X7_isBetween⟩
theorem mk_X2_remember : MVok mX2_remember 4 1 := ⟨by decide, ⟨TX2, 3, rfl⟩, GW_q3 49 (by decide +kernel) rfl, GW_q3 50 (by decide +kernel) rfl, ini_RX2, GW_q3 51 (by decide +kernel) rfl, by decide, by decide, by decide +kernel⟩
theorem lk_X7_91 : LKV RX7 91 mX2_remember 4 1 := lkv mk_X2_remember (GW_q3 48 (by decide +kernel) rfl)
theorem mk_X4_begin : MVok mX4_begin 6 6 := ⟨by decide, ⟨TX4, 10, rfl⟩, GW_q3 60 (by decide +kernel) rfl, GW_q3 61 (by decide +kernel) rfl, ini_RX4, GW_q3 62 (by decide +kernel) rfl, by decide, by decide, by decide +kernel⟩
theorem lk_X7_99 : LKV RX7 99 mX4_begin 6 6 := lkv mk_X4_begin (GW_q3 59 (by decide +kernel) rfl)
theorem mk_X5_begin : MVok mX5_begin 7 4 := ⟨by decide, ⟨TX5, 8, rfl⟩, GW_q3 73 (by decide +kernel) rfl, GW_q3 74 (by decide +kernel) rfl, ini_RX5, GW_q3 75 (by decide +kernel) rfl, by decide, by decide, by decide +kernel⟩
theorem lk_X7_116 : LKV RX7 116 mX5_begin 7 4 := lkv mk_X5_begin (GW_q3 72 (by decide +kernel) rfl)
theorem mk_X0_heldLifts : MVok mX0_heldLifts 2 0 := ⟨by decide, ⟨TX0, 9, rfl⟩, GW_q3 85 (by decide +kernel) rfl, GW_q3 86 (by decide +kernel) rfl, ini_RX0, GW_q3 87 (by decide +kernel) rfl, by decide, by decide, by decide +kernel⟩
theorem lk_X7_126 : LKV RX7 126 mX0_heldLifts 2 0 := lkv mk_X0_heldLifts (GW_q3 84 (by decide +kernel) rfl)
theorem mk_X0_liftAt : MVok mX0_liftAt 2 1 := ⟨by decide, ⟨TX0, 9, rfl⟩, GW_q3 104 (by decide +kernel) rfl, GW_q3 105 (by decide +kernel) rfl, ini_RX0, GW_q3 106 (by decide +kernel) rfl, by decide, by decide, by decide +kernel⟩
theorem lk_X7_130 : LKV RX7 130 mX0_liftAt 2 1 := lkv mk_X0_liftAt (GW_q3 103 (by decide +kernel) rfl)
theorem mk_X0_speedOf : MVok mX0_speedOf 2 1 := ⟨by decide, ⟨TX0, 9, rfl⟩, GW_q3 93 (by decide +kernel) rfl, GW_q3 94 (by decide +kernel) rfl, ini_RX0, GW_q3 95 (by decide +kernel) rfl, by decide, by decide, by decide +kernel⟩
theorem lk_X7_157 : LKV RX7 157 mX0_speedOf 2 1 := lkv mk_X0_speedOf (GW_q3 108 (by decide +kernel) rfl)
theorem mk_X0_guestsWith : MVok mX0_guestsWith 2 2 := ⟨by decide, ⟨TX0, 9, rfl⟩, GW_q3 110 (by decide +kernel) rfl, GW_q3 111 (by decide +kernel) rfl, ini_RX0, GW_q3 112 (by decide +kernel) rfl, by decide, by decide, by decide +kernel⟩
theorem lk_X7_164 : LKV RX7 164 mX0_guestsWith 2 2 := lkv mk_X0_guestsWith (GW_q3 109 (by decide +kernel) rfl)
theorem mk_X0_pisteAt : MVok mX0_pisteAt 2 1 := ⟨by decide, ⟨TX0, 9, rfl⟩, GW_q3 126 (by decide +kernel) rfl, GW_q3 127 (by decide +kernel) rfl, ini_RX0, GW_q3 128 (by decide +kernel) rfl, by decide, by decide, by decide +kernel⟩
theorem lk_X7_170 : LKV RX7 170 mX0_pisteAt 2 1 := lkv mk_X0_pisteAt (GW_q3 125 (by decide +kernel) rfl)
theorem mk_X0_guestsIn : MVok mX0_guestsIn 2 1 := ⟨by decide, ⟨TX0, 9, rfl⟩, GW_q3 155 (by decide +kernel) rfl, GW_q3 156 (by decide +kernel) rfl, ini_RX0, GW_q3 157 (by decide +kernel) rfl, by decide, by decide, by decide +kernel⟩
theorem lk_X7_209 : LKV RX7 209 mX0_guestsIn 2 1 := lkv mk_X0_guestsIn (GW_q3 154 (by decide +kernel) rfl)
theorem mk_X0_openPistes : MVok mX0_openPistes 2 0 := ⟨by decide, ⟨TX0, 9, rfl⟩, GW_q3 159 (by decide +kernel) rfl, GW_q3 160 (by decide +kernel) rfl, ini_RX0, GW_q3 161 (by decide +kernel) rfl, by decide, by decide, by decide +kernel⟩
theorem lk_X7_213 : LKV RX7 213 mX0_openPistes 2 0 := lkv mk_X0_openPistes (GW_q3 158 (by decide +kernel) rfl)
theorem mk_X0_welcome : MVok mX0_welcome 2 5 := ⟨by decide, ⟨TX0, 9, rfl⟩, GW_q3 173 (by decide +kernel) rfl, GW_q3 174 (by decide +kernel) rfl, ini_RX0, GW_q3 175 (by decide +kernel) rfl, by decide, by decide, by decide +kernel⟩
theorem lk_X7_222 : LKV RX7 222 mX0_welcome 2 5 := lkv mk_X0_welcome (GW_q3 172 (by decide +kernel) rfl)
theorem mk_X0_guestAt : MVok mX0_guestAt 2 1 := ⟨by decide, ⟨TX0, 9, rfl⟩, GW_q3 188 (by decide +kernel) rfl, GW_q3 189 (by decide +kernel) rfl, ini_RX0, GW_q3 190 (by decide +kernel) rfl, by decide, by decide, by decide +kernel⟩
theorem lk_X7_226 : LKV RX7 226 mX0_guestAt 2 1 := lkv mk_X0_guestAt (GW_q3 187 (by decide +kernel) rfl)
theorem mk_X0_queueRefusal : MVok mX0_queueRefusal 2 3 := ⟨by decide, ⟨TX0, 9, rfl⟩, GW_q3 203 (by decide +kernel) rfl, GW_q3 204 (by decide +kernel) rfl, ini_RX0, GW_q3 205 (by decide +kernel) rfl, by decide, by decide, by decide +kernel⟩
theorem lk_X7_258 : LKV RX7 258 mX0_queueRefusal 2 3 := lkv mk_X0_queueRefusal (GW_q3 202 (by decide +kernel) rfl)
theorem mk_X7_keepRefusal : MVok mX7_keepRefusal 9 2 := ⟨by decide, ⟨TX7, 9, rfl⟩, GW_q3 213 (by decide +kernel) rfl, GW_sel 1 (by decide +kernel) rfl, ini_RX7, GW_q3 214 (by decide +kernel) rfl, by decide, by decide, by decide +kernel⟩
theorem lk_X7_262 : LKV RX7 262 mX7_keepRefusal 9 2 := lkv mk_X7_keepRefusal (GW_q3 211 (by decide +kernel) rfl)
theorem mk_X0_joinQueue : MVok mX0_joinQueue 2 2 := ⟨by decide, ⟨TX0, 9, rfl⟩, GW_q3 232 (by decide +kernel) rfl, GW_q3 233 (by decide +kernel) rfl, ini_RX0, GW_q3 234 (by decide +kernel) rfl, by decide, by decide, by decide +kernel⟩
theorem lk_X7_271 : LKV RX7 271 mX0_joinQueue 2 2 := lkv mk_X0_joinQueue (GW_q3 231 (by decide +kernel) rfl)
theorem mk_X0_skiRefusal : MVok mX0_skiRefusal 2 2 := ⟨by decide, ⟨TX0, 9, rfl⟩, GW_q4 5 (by decide +kernel) rfl, GW_q4 6 (by decide +kernel) rfl, ini_RX0, GW_q4 7 (by decide +kernel) rfl, by decide, by decide, by decide +kernel⟩
theorem lk_X7_277 : LKV RX7 277 mX0_skiRefusal 2 2 := lkv mk_X0_skiRefusal (GW_q4 4 (by decide +kernel) rfl)
theorem mk_X0_startPiste : MVok mX0_startPiste 2 3 := ⟨by decide, ⟨TX0, 9, rfl⟩, GW_q4 13 (by decide +kernel) rfl, GW_q4 14 (by decide +kernel) rfl, ini_RX0, GW_q4 15 (by decide +kernel) rfl, by decide, by decide, by decide +kernel⟩
theorem lk_X7_281 : LKV RX7 281 mX0_startPiste 2 3 := lkv mk_X0_startPiste (GW_q4 12 (by decide +kernel) rfl)
theorem mk_X1_goAway : MVok mX1_goAway 3 0 := ⟨by decide, ⟨TX1, 11, rfl⟩, GW_q4 29 (by decide +kernel) rfl, GW_q4 30 (by decide +kernel) rfl, ini_RX1, GW_q4 31 (by decide +kernel) rfl, by decide, by decide, by decide +kernel⟩
theorem lk_X7_287 : LKV RX7 287 mX1_goAway 3 0 := lkv mk_X1_goAway (GW_q4 28 (by decide +kernel) rfl)
theorem mk_X0_leaveQueue : MVok mX0_leaveQueue 2 1 := ⟨by decide, ⟨TX0, 9, rfl⟩, GW_q4 33 (by decide +kernel) rfl, GW_q4 34 (by decide +kernel) rfl, ini_RX0, GW_q4 35 (by decide +kernel) rfl, by decide, by decide, by decide +kernel⟩
theorem lk_X7_290 : LKV RX7 290 mX0_leaveQueue 2 1 := lkv mk_X0_leaveQueue (GW_q4 32 (by decide +kernel) rfl)
theorem mk_X0_liftsOpenedFor : MVok mX0_liftsOpenedFor 2 1 := ⟨by decide, ⟨TX0, 9, rfl⟩, GW_q4 87 (by decide +kernel) rfl, GW_q4 88 (by decide +kernel) rfl, ini_RX0, GW_q4 89 (by decide +kernel) rfl, by decide, by decide, by decide +kernel⟩
theorem lk_X7_299 : LKV RX7 299 mX0_liftsOpenedFor 2 1 := lkv mk_X0_liftsOpenedFor (GW_q4 86 (by decide +kernel) rfl)
theorem mk_X0_guestInQueue : MVok mX0_guestInQueue 2 2 := ⟨by decide, ⟨TX0, 9, rfl⟩, GW_q4 98 (by decide +kernel) rfl, GW_q4 99 (by decide +kernel) rfl, ini_RX0, GW_q4 100 (by decide +kernel) rfl, by decide, by decide, by decide +kernel⟩
theorem lk_X7_303 : LKV RX7 303 mX0_guestInQueue 2 2 := lkv mk_X0_guestInQueue (GW_q4 97 (by decide +kernel) rfl)
theorem mk_X0_passTicks : MVok mX0_passTicks 2 1 := ⟨by decide, ⟨TX0, 9, rfl⟩, GW_q4 112 (by decide +kernel) rfl, GW_q4 113 (by decide +kernel) rfl, ini_RX0, GW_q4 114 (by decide +kernel) rfl, by decide, by decide, by decide +kernel⟩
theorem lk_X7_312 : LKV RX7 312 mX0_passTicks 2 1 := lkv mk_X0_passTicks (GW_q4 111 (by decide +kernel) rfl)
theorem mk_X0_closeDay : MVok mX0_closeDay 2 0 := ⟨by decide, ⟨TX0, 9, rfl⟩, GW_q4 161 (by decide +kernel) rfl, GW_q4 162 (by decide +kernel) rfl, ini_RX0, GW_q4 163 (by decide +kernel) rfl, by decide, by decide, by decide +kernel⟩
theorem lk_X7_317 : LKV RX7 317 mX0_closeDay 2 0 := lkv mk_X0_closeDay (GW_q4 160 (by decide +kernel) rfl)
theorem mk_X0_ticksToStation : MVok mX0_ticksToStation 2 1 := ⟨by decide, ⟨TX0, 9, rfl⟩, GW_q4 174 (by decide +kernel) rfl, GW_q4 175 (by decide +kernel) rfl, ini_RX0, GW_q4 176 (by decide +kernel) rfl, by decide, by decide, by decide +kernel⟩
theorem lk_X7_320 : LKV RX7 320 mX0_ticksToStation 2 1 := lkv mk_X0_ticksToStation (GW_q4 173 (by decide +kernel) rfl)
theorem mk_X4_stepsToCabin : MVok mX4_stepsToCabin 6 1 := ⟨by decide, ⟨TX4, 10, rfl⟩, GW_q4 129 (by decide +kernel) rfl, GW_q4 130 (by decide +kernel) rfl, ini_RX4, GW_q4 131 (by decide +kernel) rfl, by decide, by decide, by decide +kernel⟩
theorem lk_X7_327 : LKV RX7 327 mX4_stepsToCabin 6 1 := lkv mk_X4_stepsToCabin (GW_q4 197 (by decide +kernel) rfl)
theorem mk_X7_ticksFor : MSok mX7_ticksFor 2 := ⟨GW_q4 182 (by decide +kernel) rfl, ini_RX7, GW_q4 183 (by decide +kernel) rfl, by decide, by decide, by decide +kernel⟩
theorem lk_X7_330 : LKS RX7 330 mX7_ticksFor 2 := ⟨GW_q4 198 (by decide +kernel) rfl, mk_X7_ticksFor⟩
theorem mk_X6_measure : MVok mX6_measure 8 3 := ⟨by decide, ⟨TX6, 1, rfl⟩, GW_q4 208 (by decide +kernel) rfl, GW_q4 209 (by decide +kernel) rfl, ini_RX6, GW_q4 210 (by decide +kernel) rfl, by decide, by decide, by decide +kernel⟩
theorem lk_X7_335 : LKV RX7 335 mX6_measure 8 3 := lkv mk_X6_measure (GW_q4 207 (by decide +kernel) rfl)
theorem mk_X6_durationFrom : MVok mX6_durationFrom 8 1 := ⟨by decide, ⟨TX6, 1, rfl⟩, GW_q4 221 (by decide +kernel) rfl, GW_q4 222 (by decide +kernel) rfl, ini_RX6, GW_q4 223 (by decide +kernel) rfl, by decide, by decide, by decide +kernel⟩
theorem lk_X7_339 : LKV RX7 339 mX6_durationFrom 8 1 := lkv mk_X6_durationFrom (GW_q4 234 (by decide +kernel) rfl)
theorem mk_X6_bestPartFrom : MVok mX6_bestPartFrom 8 3 := ⟨by decide, ⟨TX6, 1, rfl⟩, GW_q5 5 (by decide +kernel) rfl, GW_q5 6 (by decide +kernel) rfl, ini_RX6, GW_q5 7 (by decide +kernel) rfl, by decide, by decide, by decide +kernel⟩
theorem lk_X7_345 : LKV RX7 345 mX6_bestPartFrom 8 3 := lkv mk_X6_bestPartFrom (GW_q5 4 (by decide +kernel) rfl)
theorem mk_X6_stationsFrom : MVok mX6_stationsFrom 8 3 := ⟨by decide, ⟨TX6, 1, rfl⟩, GW_q5 16 (by decide +kernel) rfl, GW_q5 17 (by decide +kernel) rfl, ini_RX6, GW_q5 18 (by decide +kernel) rfl, by decide, by decide, by decide +kernel⟩
theorem lk_X7_349 : LKV RX7 349 mX6_stationsFrom 8 3 := lkv mk_X6_stationsFrom (GW_q5 15 (by decide +kernel) rfl)
theorem mk_X6_stationsWithoutWay : MVok mX6_stationsWithoutWay 8 0 := ⟨by decide, ⟨TX6, 1, rfl⟩, GW_q5 31 (by decide +kernel) rfl, GW_q5 32 (by decide +kernel) rfl, ini_RX6, GW_q5 33 (by decide +kernel) rfl, by decide, by decide, by decide +kernel⟩
theorem lk_X7_352 : LKV RX7 352 mX6_stationsWithoutWay 8 0 := lkv mk_X6_stationsWithoutWay (GW_q5 30 (by decide +kernel) rfl)
theorem mk_X0_accountsGap : MVok mX0_accountsGap 2 0 := ⟨by decide, ⟨TX0, 9, rfl⟩, GW_q2 118 (by decide +kernel) rfl, GW_q2 119 (by decide +kernel) rfl, ini_RX0, GW_q2 120 (by decide +kernel) rfl, by decide, by decide, by decide +kernel⟩
theorem lk_X7_377 : LKV RX7 377 mX0_accountsGap 2 0 := lkv mk_X0_accountsGap (GW_q2 117 (by decide +kernel) rfl)
theorem mk_X0_liftWithMostRiders : MVok mX0_liftWithMostRiders 2 0 := ⟨by decide, ⟨TX0, 9, rfl⟩, GW_q5 65 (by decide +kernel) rfl, GW_q5 66 (by decide +kernel) rfl, ini_RX0, GW_q5 67 (by decide +kernel) rfl, by decide, by decide, by decide +kernel⟩
theorem lk_X7_380 : LKV RX7 380 mX0_liftWithMostRiders 2 0 := lkv mk_X0_liftWithMostRiders (GW_q5 64 (by decide +kernel) rfl)
theorem mk_X3_put : MVok mX3_put 5 1 := ⟨by decide, ⟨TX3, 7, rfl⟩, GW_q5 103 (by decide +kernel) rfl, GW_q5 104 (by decide +kernel) rfl, ini_RX3, GW_q5 105 (by decide +kernel) rfl, by decide, by decide, by decide +kernel⟩
theorem lk_X7_395 : LKV RX7 395 mX3_put 5 1 := lkv mk_X3_put (GW_q5 102 (by decide +kernel) rfl)
theorem mk_X3_isText : MVok mX3_isText 5 0 := ⟨by decide, ⟨TX3, 7, rfl⟩, GW_q5 114 (by decide +kernel) rfl, GW_q5 115 (by decide +kernel) rfl, ini_RX3, GW_q5 116 (by decide +kernel) rfl, by decide, by decide, by decide +kernel⟩
theorem lk_X7_399 : LKV RX7 399 mX3_isText 5 0 := lkv mk_X3_isText (GW_q5 113 (by decide +kernel) rfl)
theorem mk_X3_becomeEmpty : MVok mX3_becomeEmpty 5 0 := ⟨by decide, ⟨TX3, 7, rfl⟩, GW_q5 146 (by decide +kernel) rfl, GW_q5 147 (by decide +kernel) rfl, ini_RX3, GW_q5 148 (by decide +kernel) rfl, by decide, by decide, by decide +kernel⟩
theorem lk_X7_406 : LKV RX7 406 mX3_becomeEmpty 5 0 := lkv mk_X3_becomeEmpty (GW_q5 145 (by decide +kernel) rfl)
theorem mk_X0_copyFrom : MVok mX0_copyFrom 2 1 := ⟨by decide, ⟨TX0, 9, rfl⟩, GW_q2 129 (by decide +kernel) rfl, GW_q2 130 (by decide +kernel) rfl, ini_RX0, GW_q2 131 (by decide +kernel) rfl, by decide, by decide, by decide +kernel⟩
theorem lk_X7_412 : LKV RX7 412 mX0_copyFrom 2 1 := lkv mk_X0_copyFrom (GW_q2 128 (by decide +kernel) rfl)
theorem mk_X7_doEntries : MVok mX7_doEntries 9 1 := ⟨by decide, ⟨TX7, 9, rfl⟩, GW_q5 152 (by decide +kernel) rfl, GW_sel 19 (by decide +kernel) rfl, ini_RX7, GW_q5 153 (by decide +kernel) rfl, by decide, by decide, by decide +kernel⟩
theorem lk_X7_415 : LKV RX7 415 mX7_doEntries 9 1 := lkv mk_X7_doEntries (GW_q5 150 (by decide +kernel) rfl)
theorem mk_X2_takeBack : MVok mX2_takeBack 4 1 := ⟨by decide, ⟨TX2, 3, rfl⟩, GW_q5 189 (by decide +kernel) rfl, GW_q5 190 (by decide +kernel) rfl, ini_RX2, GW_q5 191 (by decide +kernel) rfl, by decide, by decide, by decide +kernel⟩
theorem lk_X7_427 : LKV RX7 427 mX2_takeBack 4 1 := lkv mk_X2_takeBack (GW_q5 188 (by decide +kernel) rfl)
theorem mk_X3_takeEntry : MVok mX3_takeEntry 5 0 := ⟨by decide, ⟨TX3, 7, rfl⟩, GW_q5 118 (by decide +kernel) rfl, GW_q5 119 (by decide +kernel) rfl, ini_RX3, GW_q5 120 (by decide +kernel) rfl, by decide, by decide, by decide +kernel⟩
theorem lk_X7_432 : LKV RX7 432 mX3_takeEntry 5 0 := lkv mk_X3_takeEntry (GW_q5 154 (by decide +kernel) rfl)
theorem mk_X7_doEntry : MVok mX7_doEntry 9 3 := ⟨by decide, ⟨TX7, 9, rfl⟩, GW_q5 157 (by decide +kernel) rfl, GW_sel 20 (by decide +kernel) rfl, ini_RX7, GW_q5 158 (by decide +kernel) rfl, by decide, by decide, by decide +kernel⟩
theorem lk_X7_444 : LKV RX7 444 mX7_doEntry 9 3 := lkv mk_X7_doEntry (GW_q5 155 (by decide +kernel) rfl)
theorem mk_X7_addGuestByText : MVok mX7_addGuestByText 9 2 := ⟨by decide, ⟨TX7, 9, rfl⟩, GW_q5 161 (by decide +kernel) rfl, GW_sel 21 (by decide +kernel) rfl, ini_RX7, GW_q5 162 (by decide +kernel) rfl, by decide, by decide, by decide +kernel⟩
theorem lk_X7_448 : LKV RX7 448 mX7_addGuestByText 9 2 := lkv mk_X7_addGuestByText (GW_q5 159 (by decide +kernel) rfl)
theorem mk_X7_queueByText : MVok mX7_queueByText 9 2 := ⟨by decide, ⟨TX7, 9, rfl⟩, GW_q5 165 (by decide +kernel) rfl, GW_sel 22 (by decide +kernel) rfl, ini_RX7, GW_q5 166 (by decide +kernel) rfl, by decide, by decide, by decide +kernel⟩
theorem lk_X7_451 : LKV RX7 451 mX7_queueByText 9 2 := lkv mk_X7_queueByText (GW_q5 163 (by decide +kernel) rfl)
theorem mk_X7_skiByText : MVok mX7_skiByText 9 2 := ⟨by decide, ⟨TX7, 9, rfl⟩, GW_q5 169 (by decide +kernel) rfl, GW_sel 23 (by decide +kernel) rfl, ini_RX7, GW_q5 170 (by decide +kernel) rfl, by decide, by decide, by decide +kernel⟩
theorem lk_X7_454 : LKV RX7 454 mX7_skiByText 9 2 := lkv mk_X7_skiByText (GW_q5 167 (by decide +kernel) rfl)
theorem mk_X4_copyFrom : MVok mX4_copyFrom 6 1 := ⟨by decide, ⟨TX4, 10, rfl⟩, GW_q2 133 (by decide +kernel) rfl, GW_q2 134 (by decide +kernel) rfl, ini_RX4, GW_q2 135 (by decide +kernel) rfl, by decide, by decide, by decide +kernel⟩
theorem lk_X0_51 : LKV RX0 51 mX4_copyFrom 6 1 := lkv mk_X4_copyFrom (GW_q2 132 (by decide +kernel) rfl)
theorem mk_X5_copyFrom : MVok mX5_copyFrom 7 1 := ⟨by decide, ⟨TX5, 8, rfl⟩, GW_q2 137 (by decide +kernel) rfl, GW_q2 138 (by decide +kernel) rfl, ini_RX5, GW_q2 139 (by decide +kernel) rfl, by decide, by decide, by decide +kernel⟩
theorem lk_X0_55 : LKV RX0 55 mX5_copyFrom 7 1 := lkv mk_X5_copyFrom (GW_q2 136 (by decide +kernel) rfl)
theorem mk_X1_copyFrom : MVok mX1_copyFrom 3 1 := ⟨by decide, ⟨TX1, 11, rfl⟩, GW_q2 141 (by decide +kernel) rfl, GW_q2 142 (by decide +kernel) rfl, ini_RX1, GW_q2 143 (by decide +kernel) rfl, by decide, by decide, by decide +kernel⟩
theorem lk_X0_58 : LKV RX0 58 mX1_copyFrom 3 1 := lkv mk_X1_copyFrom (GW_q2 140 (by decide +kernel) rfl)
theorem lk_X0_64 : LKV RX0 64 mX0_speedOf 2 1 := lkv mk_X0_speedOf (GW_q3 92 (by decide +kernel) rfl)
theorem mk_X0_isOpenedFor : MVok mX0_isOpenedFor 2 2 := ⟨by decide, ⟨TX0, 9, rfl⟩, GW_q3 207 (by decide +kernel) rfl, GW_q3 208 (by decide +kernel) rfl, ini_RX0, GW_q3 209 (by decide +kernel) rfl, by decide, by decide, by decide +kernel⟩
theorem lk_X0_80 : LKV RX0 80 mX0_isOpenedFor 2 2 := lkv mk_X0_isOpenedFor (GW_q3 206 (by decide +kernel) rfl)
theorem mk_X0_isHeld : MVok mX0_isHeld 2 1 := ⟨by decide, ⟨TX0, 9, rfl⟩, GW_q3 89 (by decide +kernel) rfl, GW_q3 90 (by decide +kernel) rfl, ini_RX0, GW_q3 91 (by decide +kernel) rfl, by decide, by decide, by decide +kernel⟩
theorem lk_X0_84 : LKV RX0 84 mX0_isHeld 2 1 := lkv mk_X0_isHeld (GW_q3 88 (by decide +kernel) rfl)
theorem mk_X5_isTooDifficultFor : MVok mX5_isTooDifficultFor 7 1 := ⟨by decide, ⟨TX5, 8, rfl⟩, GW_q4 9 (by decide +kernel) rfl, GW_q4 10 (by decide +kernel) rfl, ini_RX5, GW_q4 11 (by decide +kernel) rfl, by decide, by decide, by decide +kernel⟩
theorem lk_X0_91 : LKV RX0 91 mX5_isTooDifficultFor 7 1 := lkv mk_X5_isTooDifficultFor (GW_q4 8 (by decide +kernel) rfl)
theorem mk_X1_is : MVok mX1_is 3 2 := ⟨by decide, ⟨TX1, 11, rfl⟩, GW_q3 114 (by decide +kernel) rfl, GW_q3 115 (by decide +kernel) rfl, ini_RX1, GW_q3 116 (by decide +kernel) rfl, by decide, by decide, by decide +kernel⟩
theorem lk_X0_96 : LKV RX0 96 mX1_is 3 2 := lkv mk_X1_is (GW_q3 113 (by decide +kernel) rfl)
theorem mk_X1_begin : MVok mX1_begin 3 5 := ⟨by decide, ⟨TX1, 11, rfl⟩, GW_q3 177 (by decide +kernel) rfl, GW_q3 178 (by decide +kernel) rfl, ini_RX1, GW_q3 179 (by decide +kernel) rfl, by decide, by decide, by decide +kernel⟩
theorem lk_X0_103 : LKV RX0 103 mX1_begin 3 5 := lkv mk_X1_begin (GW_q3 176 (by decide +kernel) rfl)
theorem lk_X0_113 : LKV RX0 113 mX0_guestsWith 2 2 := lkv mk_X0_guestsWith (GW_q3 210 (by decide +kernel) rfl)
theorem mk_X1_become : MVok mX1_become 3 4 := ⟨by decide, ⟨TX1, 11, rfl⟩, GW_q2 145 (by decide +kernel) rfl, GW_q2 146 (by decide +kernel) rfl, ini_RX1, GW_q2 147 (by decide +kernel) rfl, by decide, by decide, by decide +kernel⟩
theorem lk_X0_120 : LKV RX0 120 mX1_become 3 4 := lkv mk_X1_become (GW_q3 235 (by decide +kernel) rfl)
theorem lk_X0_124 : LKV RX0 124 mX0_liftAt 2 1 := lkv mk_X0_liftAt (GW_q4 36 (by decide +kernel) rfl)
theorem mk_X1_standAt : MVok mX1_standAt 3 1 := ⟨by decide, ⟨TX1, 11, rfl⟩, GW_q4 38 (by decide +kernel) rfl, GW_q4 39 (by decide +kernel) rfl, ini_RX1, GW_q4 40 (by decide +kernel) rfl, by decide, by decide, by decide +kernel⟩
theorem lk_X0_128 : LKV RX0 128 mX1_standAt 3 1 := lkv mk_X1_standAt (GW_q4 37 (by decide +kernel) rfl)
theorem mk_X5_restFor : MVok mX5_restFor 7 1 := ⟨by decide, ⟨TX5, 8, rfl⟩, GW_q4 17 (by decide +kernel) rfl, GW_q4 18 (by decide +kernel) rfl, ini_RX5, GW_q4 19 (by decide +kernel) rfl, by decide, by decide, by decide +kernel⟩
theorem lk_X0_132 : LKV RX0 132 mX5_restFor 7 1 := lkv mk_X5_restFor (GW_q4 16 (by decide +kernel) rfl)
theorem mk_X0_moveRiders : MVok mX0_moveRiders 2 0 := ⟨by decide, ⟨TX0, 9, rfl⟩, GW_q4 117 (by decide +kernel) rfl, GW_sel 2 (by decide +kernel) rfl, ini_RX0, GW_q4 118 (by decide +kernel) rfl, by decide, by decide, by decide +kernel⟩
theorem lk_X0_151 : LKV RX0 151 mX0_moveRiders 2 0 := lkv mk_X0_moveRiders (GW_q4 115 (by decide +kernel) rfl)
theorem mk_X0_moveSkiers : MVok mX0_moveSkiers 2 0 := ⟨by decide, ⟨TX0, 9, rfl⟩, GW_q4 121 (by decide +kernel) rfl, GW_sel 3 (by decide +kernel) rfl, ini_RX0, GW_q4 122 (by decide +kernel) rfl, by decide, by decide, by decide +kernel⟩
theorem lk_X0_155 : LKV RX0 155 mX0_moveSkiers 2 0 := lkv mk_X0_moveSkiers (GW_q4 119 (by decide +kernel) rfl)
theorem mk_X0_turnLifts : MVok mX0_turnLifts 2 0 := ⟨by decide, ⟨TX0, 9, rfl⟩, GW_q4 126 (by decide +kernel) rfl, GW_sel 4 (by decide +kernel) rfl, ini_RX0, GW_q4 127 (by decide +kernel) rfl, by decide, by decide, by decide +kernel⟩
theorem lk_X0_158 : LKV RX0 158 mX0_turnLifts 2 0 := lkv mk_X0_turnLifts (GW_q4 124 (by decide +kernel) rfl)
theorem mk_X0_groomPistes : MVok mX0_groomPistes 2 0 := ⟨by decide, ⟨TX0, 9, rfl⟩, GW_q4 142 (by decide +kernel) rfl, GW_sel 6 (by decide +kernel) rfl, ini_RX0, GW_q4 143 (by decide +kernel) rfl, by decide, by decide, by decide +kernel⟩
theorem lk_X0_161 : LKV RX0 161 mX0_groomPistes 2 0 := lkv mk_X0_groomPistes (GW_q4 140 (by decide +kernel) rfl)
theorem mk_X0_closeWornPistes : MVok mX0_closeWornPistes 2 0 := ⟨by decide, ⟨TX0, 9, rfl⟩, GW_q4 150 (by decide +kernel) rfl, GW_sel 7 (by decide +kernel) rfl, ini_RX0, GW_q4 151 (by decide +kernel) rfl, by decide, by decide, by decide +kernel⟩
theorem lk_X0_164 : LKV RX0 164 mX0_closeWornPistes 2 0 := lkv mk_X0_closeWornPistes (GW_q4 148 (by decide +kernel) rfl)
theorem lk_X0_170 : LKV RX0 170 mX0_pisteAt 2 1 := lkv mk_X0_pisteAt (GW_q4 123 (by decide +kernel) rfl)
theorem lk_X0_180 : LKV RX0 180 mX4_stepsToCabin 6 1 := lkv mk_X4_stepsToCabin (GW_q4 128 (by decide +kernel) rfl)
theorem mk_X0_boardCabin : MVok mX0_boardCabin 2 2 := ⟨by decide, ⟨TX0, 9, rfl⟩, GW_q4 134 (by decide +kernel) rfl, GW_sel 5 (by decide +kernel) rfl, ini_RX0, GW_q4 135 (by decide +kernel) rfl, by decide, by decide, by decide +kernel⟩
theorem lk_X0_190 : LKV RX0 190 mX0_boardCabin 2 2 := lkv mk_X0_boardCabin (GW_q4 132 (by decide +kernel) rfl)
theorem mk_X4_restOfRide : MVok mX4_restOfRide 6 0 := ⟨by decide, ⟨TX4, 10, rfl⟩, GW_q4 137 (by decide +kernel) rfl, GW_q4 138 (by decide +kernel) rfl, ini_RX4, GW_q4 139 (by decide +kernel) rfl, by decide, by decide, by decide +kernel⟩
theorem lk_X0_197 : LKV RX0 197 mX4_restOfRide 6 0 := lkv mk_X4_restOfRide (GW_q4 136 (by decide +kernel) rfl)
theorem mk_X5_becomeFresh : MVok mX5_becomeFresh 7 0 := ⟨by decide, ⟨TX5, 8, rfl⟩, GW_q4 145 (by decide +kernel) rfl, GW_q4 146 (by decide +kernel) rfl, ini_RX5, GW_q4 147 (by decide +kernel) rfl, by decide, by decide, by decide +kernel⟩
theorem lk_X0_207 : LKV RX0 207 mX5_becomeFresh 7 0 := lkv mk_X5_becomeFresh (GW_q4 144 (by decide +kernel) rfl)
theorem lk_X0_210 : LKV RX0 210 mX0_guestsIn 2 1 := lkv mk_X0_guestsIn (GW_q4 164 (by decide +kernel) rfl)
theorem lk_X0_213 : LKV RX0 213 mX1_goAway 3 0 := lkv mk_X1_goAway (GW_q4 165 (by decide +kernel) rfl)
theorem mk_X0_ticksOnLift : MVok mX0_ticksOnLift 2 2 := ⟨by decide, ⟨TX0, 9, rfl⟩, GW_q4 179 (by decide +kernel) rfl, GW_sel 8 (by decide +kernel) rfl, ini_RX0, GW_q4 180 (by decide +kernel) rfl, by decide, by decide, by decide +kernel⟩
theorem lk_X0_216 : LKV RX0 216 mX0_ticksOnLift 2 2 := lkv mk_X0_ticksOnLift (GW_q4 177 (by decide +kernel) rfl)
theorem mk_X0_ticksFromQueue : MVok mX0_ticksFromQueue 2 2 := ⟨by decide, ⟨TX0, 9, rfl⟩, GW_q4 186 (by decide +kernel) rfl, GW_sel 9 (by decide +kernel) rfl, ini_RX0, GW_q4 187 (by decide +kernel) rfl, by decide, by decide, by decide +kernel⟩
theorem lk_X0_220 : LKV RX0 220 mX0_ticksFromQueue 2 2 := lkv mk_X0_ticksFromQueue (GW_q4 184 (by decide +kernel) rfl)
theorem mk_J9_abs_0f7a4 : MSok mJ9_abs_0f7a4 1 := ⟨GW_q2 122 (by decide +kernel) rfl, ini_JMath, GW_q2 123 (by decide +kernel) rfl, by decide, by decide, by decide +kernel⟩
theorem lk_X0_226 : LKS RX0 226 mJ9_abs_0f7a4 1 := ⟨GW_q2 121 (by decide +kernel) rfl, mk_J9_abs_0f7a4⟩
theorem lk_X1_33 : LKV RX1 33 mX1_become 3 4 := lkv mk_X1_become (GW_q2 144 (by decide +kernel) rfl)
theorem mk_J9_floorMod_7cf53 : MSok mJ9_floorMod_7cf53 2 := ⟨GW_q3 53 (by decide +kernel) rfl, ini_JMath, GW_q3 54 (by decide +kernel) rfl, by decide, by decide, by decide +kernel⟩
theorem lk_X2_25 : LKS RX2 25 mJ9_floorMod_7cf53 2 := ⟨GW_q3 52 (by decide +kernel) rfl, mk_J9_floorMod_7cf53⟩
theorem lk_X2_31 : LKV RX2 31 mX0_copyFrom 2 1 := lkv mk_X0_copyFrom (GW_q3 55 (by decide +kernel) rfl)
theorem mk_J9_min_7cf53 : MSok mJ9_min_7cf53 2 := ⟨GW_q3 57 (by decide +kernel) rfl, ini_JMath, GW_q3 58 (by decide +kernel) rfl, by decide, by decide, by decide +kernel⟩
theorem lk_X2_35 : LKS RX2 35 mJ9_min_7cf53 2 := ⟨GW_q3 56 (by decide +kernel) rfl, mk_J9_min_7cf53⟩
theorem lk_X3_25 : LKV RX3 25 mX3_takeEntry 5 0 := lkv mk_X3_takeEntry (GW_q5 117 (by decide +kernel) rfl)
theorem mk_X3_isHere : MVok mX3_isHere 5 2 := ⟨by decide, ⟨TX3, 7, rfl⟩, GW_q5 123 (by decide +kernel) rfl, GW_sel 13 (by decide +kernel) rfl, ini_RX3, GW_q5 124 (by decide +kernel) rfl, by decide, by decide, by decide +kernel⟩
theorem lk_X3_29 : LKV RX3 29 mX3_isHere 5 2 := lkv mk_X3_isHere (GW_q5 121 (by decide +kernel) rfl)
theorem mk_X3_takeNumber : MVok mX3_takeNumber 5 2 := ⟨by decide, ⟨TX3, 7, rfl⟩, GW_q5 127 (by decide +kernel) rfl, GW_sel 14 (by decide +kernel) rfl, ini_RX3, GW_q5 128 (by decide +kernel) rfl, by decide, by decide, by decide +kernel⟩
theorem lk_X3_36 : LKV RX3 36 mX3_takeNumber 5 2 := lkv mk_X3_takeNumber (GW_q5 125 (by decide +kernel) rfl)
theorem mk_X3_takeTarget : MVok mX3_takeTarget 5 2 := ⟨by decide, ⟨TX3, 7, rfl⟩, GW_q5 135 (by decide +kernel) rfl, GW_sel 16 (by decide +kernel) rfl, ini_RX3, GW_q5 136 (by decide +kernel) rfl, by decide, by decide, by decide +kernel⟩
theorem lk_X3_39 : LKV RX3 39 mX3_takeTarget 5 2 := lkv mk_X3_takeTarget (GW_q5 133 (by decide +kernel) rfl)
theorem mk_X3_takeSign : MVok mX3_takeSign 5 1 := ⟨by decide, ⟨TX3, 7, rfl⟩, GW_q5 139 (by decide +kernel) rfl, GW_sel 17 (by decide +kernel) rfl, ini_RX3, GW_q5 140 (by decide +kernel) rfl, by decide, by decide, by decide +kernel⟩
theorem lk_X3_42 : LKV RX3 42 mX3_takeSign 5 1 := lkv mk_X3_takeSign (GW_q5 137 (by decide +kernel) rfl)
theorem mk_X3_takeGuest : MVok mX3_takeGuest 5 0 := ⟨by decide, ⟨TX3, 7, rfl⟩, GW_q5 143 (by decide +kernel) rfl, GW_sel 18 (by decide +kernel) rfl, ini_RX3, GW_q5 144 (by decide +kernel) rfl, by decide, by decide, by decide +kernel⟩
theorem lk_X3_46 : LKV RX3 46 mX3_takeGuest 5 0 := lkv mk_X3_takeGuest (GW_q5 141 (by decide +kernel) rfl)
theorem mk_X3_takeDigit : MVok mX3_takeDigit 5 2 := ⟨by decide, ⟨TX3, 7, rfl⟩, GW_q5 131 (by decide +kernel) rfl, GW_sel 15 (by decide +kernel) rfl, ini_RX3, GW_q5 132 (by decide +kernel) rfl, by decide, by decide, by decide +kernel⟩
theorem lk_X3_49 : LKV RX3 49 mX3_takeDigit 5 2 := lkv mk_X3_takeDigit (GW_q5 129 (by decide +kernel) rfl)
theorem mk_X6_shorten : MVok mX6_shorten 8 2 := ⟨by decide, ⟨TX6, 1, rfl⟩, GW_q4 214 (by decide +kernel) rfl, GW_sel 10 (by decide +kernel) rfl, ini_RX6, GW_q4 215 (by decide +kernel) rfl, by decide, by decide, by decide +kernel⟩
theorem lk_X6_20 : LKV RX6 20 mX6_shorten 8 2 := lkv mk_X6_shorten (GW_q4 212 (by decide +kernel) rfl)
theorem mk_X0_isWayFor : MVok mX0_isWayFor 2 2 := ⟨by decide, ⟨TX0, 9, rfl⟩, GW_q4 217 (by decide +kernel) rfl, GW_q4 218 (by decide +kernel) rfl, ini_RX0, GW_q4 219 (by decide +kernel) rfl, by decide, by decide, by decide +kernel⟩
theorem lk_X6_34 : LKV RX6 34 mX0_isWayFor 2 2 := lkv mk_X0_isWayFor (GW_q4 216 (by decide +kernel) rfl)
theorem lk_X6_49 : LKV RX6 49 mX6_durationFrom 8 1 := lkv mk_X6_durationFrom (GW_q4 220 (by decide +kernel) rfl)
theorem mk_X6_shortenFrom : MVok mX6_shortenFrom 8 2 := ⟨by decide, ⟨TX6, 1, rfl⟩, GW_q4 227 (by decide +kernel) rfl, GW_sel 11 (by decide +kernel) rfl, ini_RX6, GW_q4 228 (by decide +kernel) rfl, by decide, by decide, by decide +kernel⟩
theorem lk_X6_53 : LKV RX6 53 mX6_shortenFrom 8 2 := lkv mk_X6_shortenFrom (GW_q4 225 (by decide +kernel) rfl)
theorem mk_X0_isWayFor_ : MVok mX0_isWayFor_ 2 2 := ⟨by decide, ⟨TX0, 9, rfl⟩, GW_q4 230 (by decide +kernel) rfl, GW_q4 231 (by decide +kernel) rfl, ini_RX0, GW_q4 232 (by decide +kernel) rfl, by decide, by decide, by decide +kernel⟩
theorem lk_X6_64 : LKV RX6 64 mX0_isWayFor_ 2 2 := lkv mk_X0_isWayFor_ (GW_q4 229 (by decide +kernel) rfl)
theorem lk_X6_72 : LKV RX6 72 mX5_restFor 7 1 := lkv mk_X5_restFor (GW_q4 233 (by decide +kernel) rfl)
theorem mk_X6_spread : MVok mX6_spread 8 3 := ⟨by decide, ⟨TX6, 1, rfl⟩, GW_q5 21 (by decide +kernel) rfl, GW_sel 12 (by decide +kernel) rfl, ini_RX6, GW_q5 22 (by decide +kernel) rfl, by decide, by decide, by decide +kernel⟩
theorem lk_X6_79 : LKV RX6 79 mX6_spread 8 3 := lkv mk_X6_spread (GW_q5 19 (by decide +kernel) rfl)
theorem mk_X7_addLift : MVok mX7_addLift 9 6 := ⟨by decide, ⟨TX7, 9, rfl⟩, GW_q2 234 (by decide +kernel) rfl, GW_q2 235 (by decide +kernel) rfl, ini_RX7, GW_q2 236 (by decide +kernel) rfl, by decide, by decide, by decide +kernel⟩
theorem lk_L_7 : LKV RL 7 mX7_addLift 9 6 := lkv mk_X7_addLift (GW_q2 233 (by decide +kernel) rfl)
theorem mk_X7_addPiste : MVok mX7_addPiste 9 4 := ⟨by decide, ⟨TX7, 9, rfl⟩, GW_q3 67 (by decide +kernel) rfl, GW_q3 68 (by decide +kernel) rfl, ini_RX7, GW_q3 69 (by decide +kernel) rfl, by decide, by decide, by decide +kernel⟩
theorem lk_L_19 : LKV RL 19 mX7_addPiste 9 4 := lkv mk_X7_addPiste (GW_q3 66 (by decide +kernel) rfl)
theorem mk_X7_setWind : MVok mX7_setWind 9 1 := ⟨by decide, ⟨TX7, 9, rfl⟩, GW_q3 80 (by decide +kernel) rfl, GW_q3 81 (by decide +kernel) rfl, ini_RX7, GW_q3 82 (by decide +kernel) rfl, by decide, by decide, by decide +kernel⟩
theorem lk_L_23 : LKV RL 23 mX7_setWind 9 1 := lkv mk_X7_setWind (GW_q3 79 (by decide +kernel) rfl)
theorem mk_X7_lift : MVok mX7_lift 9 2 := ⟨by decide, ⟨TX7, 9, rfl⟩, GW_q3 100 (by decide +kernel) rfl, GW_q3 101 (by decide +kernel) rfl, ini_RX7, GW_q3 102 (by decide +kernel) rfl, by decide, by decide, by decide +kernel⟩
theorem lk_L_27 : LKV RL 27 mX7_lift 9 2 := lkv mk_X7_lift (GW_q3 99 (by decide +kernel) rfl)
theorem mk_X7_piste : MVok mX7_piste 9 2 := ⟨by decide, ⟨TX7, 9, rfl⟩, GW_q3 122 (by decide +kernel) rfl, GW_q3 123 (by decide +kernel) rfl, ini_RX7, GW_q3 124 (by decide +kernel) rfl, by decide, by decide, by decide +kernel⟩
theorem lk_L_31 : LKV RL 31 mX7_piste 9 2 := lkv mk_X7_piste (GW_q3 121 (by decide +kernel) rfl)
theorem mk_X7_open : MVok mX7_open 9 2 := ⟨by decide, ⟨TX7, 9, rfl⟩, GW_q3 135 (by decide +kernel) rfl, GW_q3 136 (by decide +kernel) rfl, ini_RX7, GW_q3 137 (by decide +kernel) rfl, by decide, by decide, by decide +kernel⟩
theorem lk_L_34 : LKV RL 34 mX7_open 9 2 := lkv mk_X7_open (GW_q3 134 (by decide +kernel) rfl)
theorem mk_X7_groom : MVok mX7_groom 9 1 := ⟨by decide, ⟨TX7, 9, rfl⟩, GW_q3 143 (by decide +kernel) rfl, GW_q3 144 (by decide +kernel) rfl, ini_RX7, GW_q3 145 (by decide +kernel) rfl, by decide, by decide, by decide +kernel⟩
theorem lk_L_38 : LKV RL 38 mX7_groom 9 1 := lkv mk_X7_groom (GW_q3 142 (by decide +kernel) rfl)
theorem mk_X7_count : MVok mX7_count 9 1 := ⟨by decide, ⟨TX7, 9, rfl⟩, GW_q3 151 (by decide +kernel) rfl, GW_q3 152 (by decide +kernel) rfl, ini_RX7, GW_q3 153 (by decide +kernel) rfl, by decide, by decide, by decide +kernel⟩
theorem lk_L_41 : LKV RL 41 mX7_count 9 1 := lkv mk_X7_count (GW_q3 150 (by decide +kernel) rfl)
theorem mk_X7_addGuest : MVok mX7_addGuest 9 5 := ⟨by decide, ⟨TX7, 9, rfl⟩, GW_q3 167 (by decide +kernel) rfl, GW_q3 168 (by decide +kernel) rfl, ini_RX7, GW_q3 169 (by decide +kernel) rfl, by decide, by decide, by decide +kernel⟩
theorem lk_L_44 : LKV RL 44 mX7_addGuest 9 5 := lkv mk_X7_addGuest (GW_q3 166 (by decide +kernel) rfl)
theorem mk_X7_guest : MVok mX7_guest 9 2 := ⟨by decide, ⟨TX7, 9, rfl⟩, GW_q3 184 (by decide +kernel) rfl, GW_q3 185 (by decide +kernel) rfl, ini_RX7, GW_q3 186 (by decide +kernel) rfl, by decide, by decide, by decide +kernel⟩
theorem lk_L_48 : LKV RL 48 mX7_guest 9 2 := lkv mk_X7_guest (GW_q3 183 (by decide +kernel) rfl)
theorem mk_X7_queue : MVok mX7_queue 9 2 := ⟨by decide, ⟨TX7, 9, rfl⟩, GW_q3 198 (by decide +kernel) rfl, GW_q3 199 (by decide +kernel) rfl, ini_RX7, GW_q3 200 (by decide +kernel) rfl, by decide, by decide, by decide +kernel⟩
theorem lk_L_51 : LKV RL 51 mX7_queue 9 2 := lkv mk_X7_queue (GW_q3 197 (by decide +kernel) rfl)
theorem mk_X7_ski : MVok mX7_ski 9 2 := ⟨by decide, ⟨TX7, 9, rfl⟩, GW_q4 0 (by decide +kernel) rfl, GW_q4 1 (by decide +kernel) rfl, ini_RX7, GW_q4 2 (by decide +kernel) rfl, by decide, by decide, by decide +kernel⟩
theorem lk_L_56 : LKV RL 56 mX7_ski 9 2 := lkv mk_X7_ski (GW_q3 239 (by decide +kernel) rfl)
theorem mk_X7_leave : MVok mX7_leave 9 1 := ⟨by decide, ⟨TX7, 9, rfl⟩, GW_q4 24 (by decide +kernel) rfl, GW_q4 25 (by decide +kernel) rfl, ini_RX7, GW_q4 26 (by decide +kernel) rfl, by decide, by decide, by decide +kernel⟩
theorem lk_L_59 : LKV RL 59 mX7_leave 9 1 := lkv mk_X7_leave (GW_q4 23 (by decide +kernel) rfl)
theorem mk_X7_whyNotQueue : MVok mX7_whyNotQueue 9 2 := ⟨by decide, ⟨TX7, 9, rfl⟩, GW_q4 45 (by decide +kernel) rfl, GW_q4 46 (by decide +kernel) rfl, ini_RX7, GW_q4 47 (by decide +kernel) rfl, by decide, by decide, by decide +kernel⟩
theorem lk_L_62 : LKV RL 62 mX7_whyNotQueue 9 2 := lkv mk_X7_whyNotQueue (GW_q4 44 (by decide +kernel) rfl)
theorem mk_X7_whyNotSki : MVok mX7_whyNotSki 9 2 := ⟨by decide, ⟨TX7, 9, rfl⟩, GW_q4 52 (by decide +kernel) rfl, GW_q4 53 (by decide +kernel) rfl, ini_RX7, GW_q4 54 (by decide +kernel) rfl, by decide, by decide, by decide +kernel⟩
theorem lk_L_65 : LKV RL 65 mX7_whyNotSki 9 2 := lkv mk_X7_whyNotSki (GW_q4 51 (by decide +kernel) rfl)
theorem mk_X7_reason : MVok mX7_reason 9 0 := ⟨by decide, ⟨TX7, 9, rfl⟩, GW_q4 60 (by decide +kernel) rfl, GW_q4 61 (by decide +kernel) rfl, ini_RX7, GW_q4 62 (by decide +kernel) rfl, by decide, by decide, by decide +kernel⟩
theorem lk_L_68 : LKV RL 68 mX7_reason 9 0 := lkv mk_X7_reason (GW_q4 59 (by decide +kernel) rfl)
theorem mk_X7_opened : MVok mX7_opened 9 1 := ⟨by decide, ⟨TX7, 9, rfl⟩, GW_q4 83 (by decide +kernel) rfl, GW_q4 84 (by decide +kernel) rfl, ini_RX7, GW_q4 85 (by decide +kernel) rfl, by decide, by decide, by decide +kernel⟩
theorem lk_L_74 : LKV RL 74 mX7_opened 9 1 := lkv mk_X7_opened (GW_q4 82 (by decide +kernel) rfl)
theorem mk_X7_queued : MVok mX7_queued 9 2 := ⟨by decide, ⟨TX7, 9, rfl⟩, GW_q4 94 (by decide +kernel) rfl, GW_q4 95 (by decide +kernel) rfl, ini_RX7, GW_q4 96 (by decide +kernel) rfl, by decide, by decide, by decide +kernel⟩
theorem lk_L_77 : LKV RL 77 mX7_queued 9 2 := lkv mk_X7_queued (GW_q4 93 (by decide +kernel) rfl)
theorem mk_X7_advance : MVok mX7_advance 9 1 := ⟨by decide, ⟨TX7, 9, rfl⟩, GW_q4 106 (by decide +kernel) rfl, GW_q4 107 (by decide +kernel) rfl, ini_RX7, GW_q4 108 (by decide +kernel) rfl, by decide, by decide, by decide +kernel⟩
theorem lk_L_80 : LKV RL 80 mX7_advance 9 1 := lkv mk_X7_advance (GW_q4 105 (by decide +kernel) rfl)
theorem mk_X7_endDay : MVok mX7_endDay 9 0 := ⟨by decide, ⟨TX7, 9, rfl⟩, GW_q4 156 (by decide +kernel) rfl, GW_q4 157 (by decide +kernel) rfl, ini_RX7, GW_q4 158 (by decide +kernel) rfl, by decide, by decide, by decide +kernel⟩
theorem lk_L_83 : LKV RL 83 mX7_endDay 9 0 := lkv mk_X7_endDay (GW_q4 155 (by decide +kernel) rfl)
theorem mk_X7_arrival : MVok mX7_arrival 9 1 := ⟨by decide, ⟨TX7, 9, rfl⟩, GW_q4 170 (by decide +kernel) rfl, GW_q4 171 (by decide +kernel) rfl, ini_RX7, GW_q4 172 (by decide +kernel) rfl, by decide, by decide, by decide +kernel⟩
theorem lk_L_86 : LKV RL 86 mX7_arrival 9 1 := lkv mk_X7_arrival (GW_q4 169 (by decide +kernel) rfl)
theorem mk_X7_nextCabin : MVok mX7_nextCabin 9 1 := ⟨by decide, ⟨TX7, 9, rfl⟩, GW_q4 193 (by decide +kernel) rfl, GW_q4 194 (by decide +kernel) rfl, ini_RX7, GW_q4 195 (by decide +kernel) rfl, by decide, by decide, by decide +kernel⟩
theorem lk_L_89 : LKV RL 89 mX7_nextCabin 9 1 := lkv mk_X7_nextCabin (GW_q4 192 (by decide +kernel) rfl)
theorem mk_X7_duration : MVok mX7_duration 9 3 := ⟨by decide, ⟨TX7, 9, rfl⟩, GW_q4 203 (by decide +kernel) rfl, GW_q4 204 (by decide +kernel) rfl, ini_RX7, GW_q4 205 (by decide +kernel) rfl, by decide, by decide, by decide +kernel⟩
theorem lk_L_92 : LKV RL 92 mX7_duration 9 3 := lkv mk_X7_duration (GW_q4 202 (by decide +kernel) rfl)
theorem mk_X7_firstPart : MVok mX7_firstPart 9 3 := ⟨by decide, ⟨TX7, 9, rfl⟩, GW_q5 1 (by decide +kernel) rfl, GW_q5 2 (by decide +kernel) rfl, ini_RX7, GW_q5 3 (by decide +kernel) rfl, by decide, by decide, by decide +kernel⟩
theorem lk_L_96 : LKV RL 96 mX7_firstPart 9 3 := lkv mk_X7_firstPart (GW_q5 0 (by decide +kernel) rfl)
theorem mk_X7_reachable : MVok mX7_reachable 9 2 := ⟨by decide, ⟨TX7, 9, rfl⟩, GW_q5 12 (by decide +kernel) rfl, GW_q5 13 (by decide +kernel) rfl, ini_RX7, GW_q5 14 (by decide +kernel) rfl, by decide, by decide, by decide +kernel⟩
theorem lk_L_99 : LKV RL 99 mX7_reachable 9 2 := lkv mk_X7_reachable (GW_q5 11 (by decide +kernel) rfl)
theorem mk_X7_stranded : MVok mX7_stranded 9 2 := ⟨by decide, ⟨TX7, 9, rfl⟩, GW_q5 27 (by decide +kernel) rfl, GW_q5 28 (by decide +kernel) rfl, ini_RX7, GW_q5 29 (by decide +kernel) rfl, by decide, by decide, by decide +kernel⟩
theorem lk_L_102 : LKV RL 102 mX7_stranded 9 2 := lkv mk_X7_stranded (GW_q5 26 (by decide +kernel) rfl)
theorem mk_X7_liftAccount : MVok mX7_liftAccount 9 2 := ⟨by decide, ⟨TX7, 9, rfl⟩, GW_q5 38 (by decide +kernel) rfl, GW_q5 39 (by decide +kernel) rfl, ini_RX7, GW_q5 40 (by decide +kernel) rfl, by decide, by decide, by decide +kernel⟩
theorem lk_L_105 : LKV RL 105 mX7_liftAccount 9 2 := lkv mk_X7_liftAccount (GW_q5 37 (by decide +kernel) rfl)
theorem mk_X7_guestAccount : MVok mX7_guestAccount 9 2 := ⟨by decide, ⟨TX7, 9, rfl⟩, GW_q5 46 (by decide +kernel) rfl, GW_q5 47 (by decide +kernel) rfl, ini_RX7, GW_q5 48 (by decide +kernel) rfl, by decide, by decide, by decide +kernel⟩
theorem lk_L_108 : LKV RL 108 mX7_guestAccount 9 2 := lkv mk_X7_guestAccount (GW_q5 45 (by decide +kernel) rfl)
theorem mk_X7_pisteAccount : MVok mX7_pisteAccount 9 1 := ⟨by decide, ⟨TX7, 9, rfl⟩, GW_q5 54 (by decide +kernel) rfl, GW_q5 55 (by decide +kernel) rfl, ini_RX7, GW_q5 56 (by decide +kernel) rfl, by decide, by decide, by decide +kernel⟩
theorem lk_L_111 : LKV RL 111 mX7_pisteAccount 9 1 := lkv mk_X7_pisteAccount (GW_q5 53 (by decide +kernel) rfl)
theorem mk_X7_busiest : MVok mX7_busiest 9 0 := ⟨by decide, ⟨TX7, 9, rfl⟩, GW_q5 61 (by decide +kernel) rfl, GW_q5 62 (by decide +kernel) rfl, ini_RX7, GW_q5 63 (by decide +kernel) rfl, by decide, by decide, by decide +kernel⟩
theorem lk_L_114 : LKV RL 114 mX7_busiest 9 0 := lkv mk_X7_busiest (GW_q5 60 (by decide +kernel) rfl)
theorem mk_X7_load : MVok mX7_load 9 1 := ⟨by decide, ⟨TX7, 9, rfl⟩, GW_q5 87 (by decide +kernel) rfl, GW_q5 88 (by decide +kernel) rfl, ini_RX7, GW_q5 89 (by decide +kernel) rfl, by decide, by decide, by decide +kernel⟩
theorem lk_L_117 : LKV RL 117 mX7_load 9 1 := lkv mk_X7_load (GW_q5 86 (by decide +kernel) rfl)
theorem mk_X7_append : MVok mX7_append 9 1 := ⟨by decide, ⟨TX7, 9, rfl⟩, GW_q5 97 (by decide +kernel) rfl, GW_q5 98 (by decide +kernel) rfl, ini_RX7, GW_q5 99 (by decide +kernel) rfl, by decide, by decide, by decide +kernel⟩
theorem lk_L_123 : LKV RL 123 mX7_append 9 1 := lkv mk_X7_append (GW_q5 96 (by decide +kernel) rfl)
theorem mk_X7_read : MVok mX7_read 9 0 := ⟨by decide, ⟨TX7, 9, rfl⟩, GW_q5 110 (by decide +kernel) rfl, GW_q5 111 (by decide +kernel) rfl, ini_RX7, GW_q5 112 (by decide +kernel) rfl, by decide, by decide, by decide +kernel⟩
theorem lk_L_127 : LKV RL 127 mX7_read 9 0 := lkv mk_X7_read (GW_q5 109 (by decide +kernel) rfl)
theorem mk_X7_errorPosition : MVok mX7_errorPosition 9 0 := ⟨by decide, ⟨TX7, 9, rfl⟩, GW_q5 176 (by decide +kernel) rfl, GW_q5 177 (by decide +kernel) rfl, ini_RX7, GW_q5 178 (by decide +kernel) rfl, by decide, by decide, by decide +kernel⟩
theorem lk_L_130 : LKV RL 130 mX7_errorPosition 9 0 := lkv mk_X7_errorPosition (GW_q5 175 (by decide +kernel) rfl)
theorem mk_X7_undo : MVok mX7_undo 9 0 := ⟨by decide, ⟨TX7, 9, rfl⟩, GW_q5 184 (by decide +kernel) rfl, GW_q5 185 (by decide +kernel) rfl, ini_RX7, GW_q5 186 (by decide +kernel) rfl, by decide, by decide, by decide +kernel⟩
theorem lk_L_133 : LKV RL 133 mX7_undo 9 0 := lkv mk_X7_undo (GW_q5 183 (by decide +kernel) rfl)
theorem mk_X7_restore : MVok mX7_restore 9 0 := ⟨by decide, ⟨TX7, 9, rfl⟩, GW_q5 196 (by decide +kernel) rfl, GW_q5 197 (by decide +kernel) rfl, ini_RX7, GW_q5 198 (by decide +kernel) rfl, by decide, by decide, by decide +kernel⟩
theorem lk_L_136 : LKV RL 136 mX7_restore 9 0 := lkv mk_X7_restore (GW_q5 195 (by decide +kernel) rfl)
theorem mk_X7_clear : MVok mX7_clear 9 0 := ⟨by decide, ⟨TX7, 9, rfl⟩, GW_q2 102 (by decide +kernel) rfl, GW_q2 103 (by decide +kernel) rfl, ini_RX7, GW_q2 104 (by decide +kernel) rfl, by decide, by decide, by decide +kernel⟩
theorem lk_L_143 : LKV RL 143 mX7_clear 9 0 := lkv mk_X7_clear (GW_q2 101 (by decide +kernel) rfl)
theorem mk_X8_clear : MVok mX8_clear 10 0 := ⟨by decide, ⟨TX8, 20, rfl⟩, GW_q6 32 (by decide +kernel) rfl, GW_q6 33 (by decide +kernel) rfl, ini_RX8, GW_q6 34 (by decide +kernel) rfl, by decide, by decide, by decide +kernel⟩
theorem lk_L_146 : LKV RL 146 mX8_clear 10 0 := lkv mk_X8_clear (GW_q6 31 (by decide +kernel) rfl)
theorem mk_L_addLift : MHok mL_addLift 8 := ⟨GW_q2 149 (by decide +kernel) rfl, ini_RL, GW_q2 150 (by decide +kernel) rfl, by decide, by decide, by decide +kernel⟩
theorem lk_L_147 : LKH RL 147 mL_addLift 8 := ⟨GW_q2 148 (by decide +kernel) rfl, mk_L_addLift⟩
theorem mk_X8_addLift : MVok mX8_addLift 10 6 := ⟨by decide, ⟨TX8, 20, rfl⟩, GW_q6 36 (by decide +kernel) rfl, GW_q6 37 (by decide +kernel) rfl, ini_RX8, GW_q6 38 (by decide +kernel) rfl, by decide, by decide, by decide +kernel⟩
theorem lk_L_152 : LKV RL 152 mX8_addLift 10 6 := lkv mk_X8_addLift (GW_q6 35 (by decide +kernel) rfl)
theorem mk_X8_thrown : MVok mX8_thrown 10 0 := ⟨by decide, ⟨TX8, 20, rfl⟩, GW_q6 28 (by decide +kernel) rfl, GW_q6 29 (by decide +kernel) rfl, ini_RX8, GW_q6 30 (by decide +kernel) rfl, by decide, by decide, by decide +kernel⟩
theorem lk_L_153 : LKV RL 153 mX8_thrown 10 0 := lkv mk_X8_thrown (GW_q6 27 (by decide +kernel) rfl)
theorem mk_L_addPiste : MHok mL_addPiste 6 := ⟨GW_q3 64 (by decide +kernel) rfl, ini_RL, GW_q3 65 (by decide +kernel) rfl, by decide, by decide, by decide +kernel⟩
theorem lk_L_156 : LKH RL 156 mL_addPiste 6 := ⟨GW_q3 63 (by decide +kernel) rfl, mk_L_addPiste⟩
theorem mk_X8_addPiste : MVok mX8_addPiste 10 4 := ⟨by decide, ⟨TX8, 20, rfl⟩, GW_q6 57 (by decide +kernel) rfl, GW_q6 58 (by decide +kernel) rfl, ini_RX8, GW_q6 59 (by decide +kernel) rfl, by decide, by decide, by decide +kernel⟩
theorem lk_L_159 : LKV RL 159 mX8_addPiste 10 4 := lkv mk_X8_addPiste (GW_q6 56 (by decide +kernel) rfl)
theorem mk_L_setWind : MHok mL_setWind 3 := ⟨GW_q3 77 (by decide +kernel) rfl, ini_RL, GW_q3 78 (by decide +kernel) rfl, by decide, by decide, by decide +kernel⟩
theorem lk_L_160 : LKH RL 160 mL_setWind 3 := ⟨GW_q3 76 (by decide +kernel) rfl, mk_L_setWind⟩
theorem mk_X8_setWind : MVok mX8_setWind 10 1 := ⟨by decide, ⟨TX8, 20, rfl⟩, GW_q6 64 (by decide +kernel) rfl, GW_q6 65 (by decide +kernel) rfl, ini_RX8, GW_q6 66 (by decide +kernel) rfl, by decide, by decide, by decide +kernel⟩
theorem lk_L_163 : LKV RL 163 mX8_setWind 10 1 := lkv mk_X8_setWind (GW_q6 63 (by decide +kernel) rfl)
theorem mk_L_lift : MHok mL_lift 4 := ⟨GW_q3 97 (by decide +kernel) rfl, ini_RL, GW_q3 98 (by decide +kernel) rfl, by decide, by decide, by decide +kernel⟩
theorem lk_L_164 : LKH RL 164 mL_lift 4 := ⟨GW_q3 96 (by decide +kernel) rfl, mk_L_lift⟩
theorem mk_X8_lift : MVok mX8_lift 10 2 := ⟨by decide, ⟨TX8, 20, rfl⟩, GW_q6 72 (by decide +kernel) rfl, GW_q6 73 (by decide +kernel) rfl, ini_RX8, GW_q6 74 (by decide +kernel) rfl, by decide, by decide, by decide +kernel⟩
theorem lk_L_167 : LKV RL 167 mX8_lift 10 2 := lkv mk_X8_lift (GW_q6 71 (by decide +kernel) rfl)
theorem mk_L_piste : MHok mL_piste 4 := ⟨GW_q3 119 (by decide +kernel) rfl, ini_RL, GW_q3 120 (by decide +kernel) rfl, by decide, by decide, by decide +kernel⟩
theorem lk_L_168 : LKH RL 168 mL_piste 4 := ⟨GW_q3 118 (by decide +kernel) rfl, mk_L_piste⟩
theorem mk_X8_piste : MVok mX8_piste 10 2 := ⟨by decide, ⟨TX8, 20, rfl⟩, GW_q6 87 (by decide +kernel) rfl, GW_q6 88 (by decide +kernel) rfl, ini_RX8, GW_q6 89 (by decide +kernel) rfl, by decide, by decide, by decide +kernel⟩
theorem lk_L_170 : LKV RL 170 mX8_piste 10 2 := lkv mk_X8_piste (GW_q6 86 (by decide +kernel) rfl)
theorem mk_L_open : MHok mL_open 4 := ⟨GW_q3 132 (by decide +kernel) rfl, ini_RL, GW_q3 133 (by decide +kernel) rfl, by decide, by decide, by decide +kernel⟩
theorem lk_L_171 : LKH RL 171 mL_open 4 := ⟨GW_q3 131 (by decide +kernel) rfl, mk_L_open⟩
theorem mk_X8_open : MVok mX8_open 10 2 := ⟨by decide, ⟨TX8, 20, rfl⟩, GW_q6 95 (by decide +kernel) rfl, GW_q6 96 (by decide +kernel) rfl, ini_RX8, GW_q6 97 (by decide +kernel) rfl, by decide, by decide, by decide +kernel⟩
theorem lk_L_174 : LKV RL 174 mX8_open 10 2 := lkv mk_X8_open (GW_q6 94 (by decide +kernel) rfl)
theorem mk_L_groom : MHok mL_groom 3 := ⟨GW_q3 140 (by decide +kernel) rfl, ini_RL, GW_q3 141 (by decide +kernel) rfl, by decide, by decide, by decide +kernel⟩
theorem lk_L_175 : LKH RL 175 mL_groom 3 := ⟨GW_q3 139 (by decide +kernel) rfl, mk_L_groom⟩
theorem mk_X8_groom : MVok mX8_groom 10 1 := ⟨by decide, ⟨TX8, 20, rfl⟩, GW_q6 99 (by decide +kernel) rfl, GW_q6 100 (by decide +kernel) rfl, ini_RX8, GW_q6 101 (by decide +kernel) rfl, by decide, by decide, by decide +kernel⟩
theorem lk_L_177 : LKV RL 177 mX8_groom 10 1 := lkv mk_X8_groom (GW_q6 98 (by decide +kernel) rfl)
theorem mk_L_count : MHok mL_count 3 := ⟨GW_q3 148 (by decide +kernel) rfl, ini_RL, GW_q3 149 (by decide +kernel) rfl, by decide, by decide, by decide +kernel⟩
theorem lk_L_178 : LKH RL 178 mL_count 3 := ⟨GW_q3 147 (by decide +kernel) rfl, mk_L_count⟩
theorem mk_X8_count : MVok mX8_count 10 1 := ⟨by decide, ⟨TX8, 20, rfl⟩, GW_q6 103 (by decide +kernel) rfl, GW_q6 104 (by decide +kernel) rfl, ini_RX8, GW_q6 105 (by decide +kernel) rfl, by decide, by decide, by decide +kernel⟩
theorem lk_L_180 : LKV RL 180 mX8_count 10 1 := lkv mk_X8_count (GW_q6 102 (by decide +kernel) rfl)
theorem mk_L_addGuest : MHok mL_addGuest 7 := ⟨GW_q3 164 (by decide +kernel) rfl, ini_RL, GW_q3 165 (by decide +kernel) rfl, by decide, by decide, by decide +kernel⟩
theorem lk_L_181 : LKH RL 181 mL_addGuest 7 := ⟨GW_q3 163 (by decide +kernel) rfl, mk_L_addGuest⟩
theorem mk_X8_addGuest : MVok mX8_addGuest 10 5 := ⟨by decide, ⟨TX8, 20, rfl⟩, GW_q6 111 (by decide +kernel) rfl, GW_q6 112 (by decide +kernel) rfl, ini_RX8, GW_q6 113 (by decide +kernel) rfl, by decide, by decide, by decide +kernel⟩
theorem lk_L_184 : LKV RL 184 mX8_addGuest 10 5 := lkv mk_X8_addGuest (GW_q6 110 (by decide +kernel) rfl)
theorem mk_L_guest : MHok mL_guest 4 := ⟨GW_q3 181 (by decide +kernel) rfl, ini_RL, GW_q3 182 (by decide +kernel) rfl, by decide, by decide, by decide +kernel⟩
theorem lk_L_185 : LKH RL 185 mL_guest 4 := ⟨GW_q3 180 (by decide +kernel) rfl, mk_L_guest⟩
theorem mk_X8_guest : MVok mX8_guest 10 2 := ⟨by decide, ⟨TX8, 20, rfl⟩, GW_q6 119 (by decide +kernel) rfl, GW_q6 120 (by decide +kernel) rfl, ini_RX8, GW_q6 121 (by decide +kernel) rfl, by decide, by decide, by decide +kernel⟩
theorem lk_L_187 : LKV RL 187 mX8_guest 10 2 := lkv mk_X8_guest (GW_q6 118 (by decide +kernel) rfl)
theorem mk_L_queue : MHok mL_queue 4 := ⟨GW_q3 194 (by decide +kernel) rfl, ini_RL, GW_q3 195 (by decide +kernel) rfl, by decide, by decide, by decide +kernel⟩
theorem lk_L_188 : LKH RL 188 mL_queue 4 := ⟨GW_q3 193 (by decide +kernel) rfl, mk_L_queue⟩
theorem mk_X8_queue : MVok mX8_queue 10 2 := ⟨by decide, ⟨TX8, 20, rfl⟩, GW_q6 131 (by decide +kernel) rfl, GW_q6 132 (by decide +kernel) rfl, ini_RX8, GW_q6 133 (by decide +kernel) rfl, by decide, by decide, by decide +kernel⟩
theorem lk_L_190 : LKV RL 190 mX8_queue 10 2 := lkv mk_X8_queue (GW_q6 130 (by decide +kernel) rfl)
theorem mk_L_ski : MHok mL_ski 4 := ⟨GW_q3 237 (by decide +kernel) rfl, ini_RL, GW_q3 238 (by decide +kernel) rfl, by decide, by decide, by decide +kernel⟩
theorem lk_L_191 : LKH RL 191 mL_ski 4 := ⟨GW_q3 236 (by decide +kernel) rfl, mk_L_ski⟩
theorem mk_X8_ski : MVok mX8_ski 10 2 := ⟨by decide, ⟨TX8, 20, rfl⟩, GW_q6 151 (by decide +kernel) rfl, GW_q6 152 (by decide +kernel) rfl, ini_RX8, GW_q6 153 (by decide +kernel) rfl, by decide, by decide, by decide +kernel⟩
theorem lk_L_193 : LKV RL 193 mX8_ski 10 2 := lkv mk_X8_ski (GW_q6 150 (by decide +kernel) rfl)
theorem mk_L_leave : MHok mL_leave 3 := ⟨GW_q4 21 (by decide +kernel) rfl, ini_RL, GW_q4 22 (by decide +kernel) rfl, by decide, by decide, by decide +kernel⟩
theorem lk_L_194 : LKH RL 194 mL_leave 3 := ⟨GW_q4 20 (by decide +kernel) rfl, mk_L_leave⟩
theorem mk_X8_leave : MVok mX8_leave 10 1 := ⟨by decide, ⟨TX8, 20, rfl⟩, GW_q6 167 (by decide +kernel) rfl, GW_q6 168 (by decide +kernel) rfl, ini_RX8, GW_q6 169 (by decide +kernel) rfl, by decide, by decide, by decide +kernel⟩
theorem lk_L_196 : LKV RL 196 mX8_leave 10 1 := lkv mk_X8_leave (GW_q6 166 (by decide +kernel) rfl)
theorem mk_L_whyNotQueue : MHok mL_whyNotQueue 4 := ⟨GW_q4 42 (by decide +kernel) rfl, ini_RL, GW_q4 43 (by decide +kernel) rfl, by decide, by decide, by decide +kernel⟩
theorem lk_L_197 : LKH RL 197 mL_whyNotQueue 4 := ⟨GW_q4 41 (by decide +kernel) rfl, mk_L_whyNotQueue⟩
theorem mk_X8_whyNotQueue : MVok mX8_whyNotQueue 10 2 := ⟨by decide, ⟨TX8, 20, rfl⟩, GW_q6 175 (by decide +kernel) rfl, GW_q6 176 (by decide +kernel) rfl, ini_RX8, GW_q6 177 (by decide +kernel) rfl, by decide, by decide, by decide +kernel⟩
theorem lk_L_199 : LKV RL 199 mX8_whyNotQueue 10 2 := lkv mk_X8_whyNotQueue (GW_q6 174 (by decide +kernel) rfl)
theorem mk_L_whyNotSki : MHok mL_whyNotSki 4 := ⟨GW_q4 49 (by decide +kernel) rfl, ini_RL, GW_q4 50 (by decide +kernel) rfl, by decide, by decide, by decide +kernel⟩
theorem lk_L_200 : LKH RL 200 mL_whyNotSki 4 := ⟨GW_q4 48 (by decide +kernel) rfl, mk_L_whyNotSki⟩
theorem mk_X8_whyNotSki : MVok mX8_whyNotSki 10 2 := ⟨by decide, ⟨TX8, 20, rfl⟩, GW_q6 179 (by decide +kernel) rfl, GW_q6 180 (by decide +kernel) rfl, ini_RX8, GW_q6 181 (by decide +kernel) rfl, by decide, by decide, by decide +kernel⟩
theorem lk_L_202 : LKV RL 202 mX8_whyNotSki 10 2 := lkv mk_X8_whyNotSki (GW_q6 178 (by decide +kernel) rfl)
theorem mk_L_reason : MHok mL_reason 2 := ⟨GW_q4 56 (by decide +kernel) rfl, ini_RL, GW_q4 57 (by decide +kernel) rfl, by decide, by decide, by decide +kernel⟩
theorem lk_L_203 : LKH RL 203 mL_reason 2 := ⟨GW_q4 55 (by decide +kernel) rfl, mk_L_reason⟩
theorem mk_X8_reason : MVok mX8_reason 10 0 := ⟨by decide, ⟨TX8, 20, rfl⟩, GW_q6 183 (by decide +kernel) rfl, GW_q6 184 (by decide +kernel) rfl, ini_RX8, GW_q6 185 (by decide +kernel) rfl, by decide, by decide, by decide +kernel⟩
theorem lk_L_206 : LKV RL 206 mX8_reason 10 0 := lkv mk_X8_reason (GW_q6 182 (by decide +kernel) rfl)
theorem mk_L_opened : MHok mL_opened 3 := ⟨GW_q4 80 (by decide +kernel) rfl, ini_RL, GW_q4 81 (by decide +kernel) rfl, by decide, by decide, by decide +kernel⟩
theorem lk_L_207 : LKH RL 207 mL_opened 3 := ⟨GW_q4 79 (by decide +kernel) rfl, mk_L_opened⟩
theorem mk_X8_opened : MVok mX8_opened 10 1 := ⟨by decide, ⟨TX8, 20, rfl⟩, GW_q6 187 (by decide +kernel) rfl, GW_q6 188 (by decide +kernel) rfl, ini_RX8, GW_q6 189 (by decide +kernel) rfl, by decide, by decide, by decide +kernel⟩
theorem lk_L_209 : LKV RL 209 mX8_opened 10 1 := lkv mk_X8_opened (GW_q6 186 (by decide +kernel) rfl)
theorem mk_L_queued : MHok mL_queued 4 := ⟨GW_q4 91 (by decide +kernel) rfl, ini_RL, GW_q4 92 (by decide +kernel) rfl, by decide, by decide, by decide +kernel⟩
theorem lk_L_210 : LKH RL 210 mL_queued 4 := ⟨GW_q4 90 (by decide +kernel) rfl, mk_L_queued⟩
theorem mk_X8_queued : MVok mX8_queued 10 2 := ⟨by decide, ⟨TX8, 20, rfl⟩, GW_q6 191 (by decide +kernel) rfl, GW_q6 192 (by decide +kernel) rfl, ini_RX8, GW_q6 193 (by decide +kernel) rfl, by decide, by decide, by decide +kernel⟩
theorem lk_L_212 : LKV RL 212 mX8_queued 10 2 := lkv mk_X8_queued (GW_q6 190 (by decide +kernel) rfl)
theorem mk_L_advance : MHok mL_advance 3 := ⟨GW_q4 103 (by decide +kernel) rfl, ini_RL, GW_q4 104 (by decide +kernel) rfl, by decide, by decide, by decide +kernel⟩
theorem lk_L_213 : LKH RL 213 mL_advance 3 := ⟨GW_q4 102 (by decide +kernel) rfl, mk_L_advance⟩
theorem mk_X8_advance : MVok mX8_advance 10 1 := ⟨by decide, ⟨TX8, 20, rfl⟩, GW_q6 195 (by decide +kernel) rfl, GW_q6 196 (by decide +kernel) rfl, ini_RX8, GW_q6 197 (by decide +kernel) rfl, by decide, by decide, by decide +kernel⟩
theorem lk_L_215 : LKV RL 215 mX8_advance 10 1 := lkv mk_X8_advance (GW_q6 194 (by decide +kernel) rfl)
theorem mk_L_endDay : MHok mL_endDay 2 := ⟨GW_q4 153 (by decide +kernel) rfl, ini_RL, GW_q4 154 (by decide +kernel) rfl, by decide, by decide, by decide +kernel⟩
theorem lk_L_216 : LKH RL 216 mL_endDay 2 := ⟨GW_q4 152 (by decide +kernel) rfl, mk_L_endDay⟩
theorem mk_X8_endDay : MVok mX8_endDay 10 0 := ⟨by decide, ⟨TX8, 20, rfl⟩, GW_q6 220 (by decide +kernel) rfl, GW_q6 221 (by decide +kernel) rfl, ini_RX8, GW_q6 222 (by decide +kernel) rfl, by decide, by decide, by decide +kernel⟩
theorem lk_L_218 : LKV RL 218 mX8_endDay 10 0 := lkv mk_X8_endDay (GW_q6 219 (by decide +kernel) rfl)
theorem mk_L_arrival : MHok mL_arrival 3 := ⟨GW_q4 167 (by decide +kernel) rfl, ini_RL, GW_q4 168 (by decide +kernel) rfl, by decide, by decide, by decide +kernel⟩
theorem lk_L_219 : LKH RL 219 mL_arrival 3 := ⟨GW_q4 166 (by decide +kernel) rfl, mk_L_arrival⟩
theorem mk_X8_arrival : MVok mX8_arrival 10 1 := ⟨by decide, ⟨TX8, 20, rfl⟩, GW_q6 224 (by decide +kernel) rfl, GW_q6 225 (by decide +kernel) rfl, ini_RX8, GW_q6 226 (by decide +kernel) rfl, by decide, by decide, by decide +kernel⟩
theorem lk_L_221 : LKV RL 221 mX8_arrival 10 1 := lkv mk_X8_arrival (GW_q6 223 (by decide +kernel) rfl)
theorem mk_L_nextCabin : MHok mL_nextCabin 3 := ⟨GW_q4 190 (by decide +kernel) rfl, ini_RL, GW_q4 191 (by decide +kernel) rfl, by decide, by decide, by decide +kernel⟩
theorem lk_L_222 : LKH RL 222 mL_nextCabin 3 := ⟨GW_q4 189 (by decide +kernel) rfl, mk_L_nextCabin⟩
theorem mk_X8_nextCabin : MVok mX8_nextCabin 10 1 := ⟨by decide, ⟨TX8, 20, rfl⟩, GW_q6 236 (by decide +kernel) rfl, GW_q6 237 (by decide +kernel) rfl, ini_RX8, GW_q6 238 (by decide +kernel) rfl, by decide, by decide, by decide +kernel⟩
theorem lk_L_224 : LKV RL 224 mX8_nextCabin 10 1 := lkv mk_X8_nextCabin (GW_q6 235 (by decide +kernel) rfl)
theorem mk_L_duration : MHok mL_duration 5 := ⟨GW_q4 200 (by decide +kernel) rfl, ini_RL, GW_q4 201 (by decide +kernel) rfl, by decide, by decide, by decide +kernel⟩
theorem lk_L_225 : LKH RL 225 mL_duration 5 := ⟨GW_q4 199 (by decide +kernel) rfl, mk_L_duration⟩
theorem mk_X8_duration : MVok mX8_duration 10 3 := ⟨by decide, ⟨TX8, 20, rfl⟩, GW_q7 0 (by decide +kernel) rfl, GW_q7 1 (by decide +kernel) rfl, ini_RX8, GW_q7 2 (by decide +kernel) rfl, by decide, by decide, by decide +kernel⟩
theorem lk_L_228 : LKV RL 228 mX8_duration 10 3 := lkv mk_X8_duration (GW_q6 239 (by decide +kernel) rfl)
theorem mk_L_firstPart : MHok mL_firstPart 5 := ⟨GW_q4 238 (by decide +kernel) rfl, ini_RL, GW_q4 239 (by decide +kernel) rfl, by decide, by decide, by decide +kernel⟩
theorem lk_L_229 : LKH RL 229 mL_firstPart 5 := ⟨GW_q4 237 (by decide +kernel) rfl, mk_L_firstPart⟩
theorem mk_X8_firstPart : MVok mX8_firstPart 10 3 := ⟨by decide, ⟨TX8, 20, rfl⟩, GW_q7 21 (by decide +kernel) rfl, GW_q7 22 (by decide +kernel) rfl, ini_RX8, GW_q7 23 (by decide +kernel) rfl, by decide, by decide, by decide +kernel⟩
theorem lk_L_231 : LKV RL 231 mX8_firstPart 10 3 := lkv mk_X8_firstPart (GW_q7 20 (by decide +kernel) rfl)
theorem mk_L_reachable : MHok mL_reachable 4 := ⟨GW_q5 9 (by decide +kernel) rfl, ini_RL, GW_q5 10 (by decide +kernel) rfl, by decide, by decide, by decide +kernel⟩
theorem lk_L_232 : LKH RL 232 mL_reachable 4 := ⟨GW_q5 8 (by decide +kernel) rfl, mk_L_reachable⟩
theorem mk_X8_reachable : MVok mX8_reachable 10 2 := ⟨by decide, ⟨TX8, 20, rfl⟩, GW_q7 25 (by decide +kernel) rfl, GW_q7 26 (by decide +kernel) rfl, ini_RX8, GW_q7 27 (by decide +kernel) rfl, by decide, by decide, by decide +kernel⟩
theorem lk_L_234 : LKV RL 234 mX8_reachable 10 2 := lkv mk_X8_reachable (GW_q7 24 (by decide +kernel) rfl)
theorem mk_L_stranded : MHok mL_stranded 4 := ⟨GW_q5 24 (by decide +kernel) rfl, ini_RL, GW_q5 25 (by decide +kernel) rfl, by decide, by decide, by decide +kernel⟩
theorem lk_L_235 : LKH RL 235 mL_stranded 4 := ⟨GW_q5 23 (by decide +kernel) rfl, mk_L_stranded⟩
theorem mk_X8_stranded : MVok mX8_stranded 10 2 := ⟨by decide, ⟨TX8, 20, rfl⟩, GW_q7 29 (by decide +kernel) rfl, GW_q7 30 (by decide +kernel) rfl, ini_RX8, GW_q7 31 (by decide +kernel) rfl, by decide, by decide, by decide +kernel⟩
theorem lk_L_237 : LKV RL 237 mX8_stranded 10 2 := lkv mk_X8_stranded (GW_q7 28 (by decide +kernel) rfl)
theorem mk_L_liftAccount : MHok mL_liftAccount 4 := ⟨GW_q5 35 (by decide +kernel) rfl, ini_RL, GW_q5 36 (by decide +kernel) rfl, by decide, by decide, by decide +kernel⟩
theorem lk_L_238 : LKH RL 238 mL_liftAccount 4 := ⟨GW_q5 34 (by decide +kernel) rfl, mk_L_liftAccount⟩
theorem mk_X8_liftAccount : MVok mX8_liftAccount 10 2 := ⟨by decide, ⟨TX8, 20, rfl⟩, GW_q7 33 (by decide +kernel) rfl, GW_q7 34 (by decide +kernel) rfl, ini_RX8, GW_q7 35 (by decide +kernel) rfl, by decide, by decide, by decide +kernel⟩
theorem lk_L_240 : LKV RL 240 mX8_liftAccount 10 2 := lkv mk_X8_liftAccount (GW_q7 32 (by decide +kernel) rfl)
theorem mk_L_guestAccount : MHok mL_guestAccount 4 := ⟨GW_q5 43 (by decide +kernel) rfl, ini_RL, GW_q5 44 (by decide +kernel) rfl, by decide, by decide, by decide +kernel⟩
theorem lk_L_241 : LKH RL 241 mL_guestAccount 4 := ⟨GW_q5 42 (by decide +kernel) rfl, mk_L_guestAccount⟩
theorem mk_X8_guestAccount : MVok mX8_guestAccount 10 2 := ⟨by decide, ⟨TX8, 20, rfl⟩, GW_q7 37 (by decide +kernel) rfl, GW_q7 38 (by decide +kernel) rfl, ini_RX8, GW_q7 39 (by decide +kernel) rfl, by decide, by decide, by decide +kernel⟩
theorem lk_L_243 : LKV RL 243 mX8_guestAccount 10 2 := lkv mk_X8_guestAccount (GW_q7 36 (by decide +kernel) rfl)
theorem mk_L_pisteAccount : MHok mL_pisteAccount 3 := ⟨GW_q5 51 (by decide +kernel) rfl, ini_RL, GW_q5 52 (by decide +kernel) rfl, by decide, by decide, by decide +kernel⟩
theorem lk_L_244 : LKH RL 244 mL_pisteAccount 3 := ⟨GW_q5 50 (by decide +kernel) rfl, mk_L_pisteAccount⟩
theorem mk_X8_pisteAccount : MVok mX8_pisteAccount 10 1 := ⟨by decide, ⟨TX8, 20, rfl⟩, GW_q7 41 (by decide +kernel) rfl, GW_q7 42 (by decide +kernel) rfl, ini_RX8, GW_q7 43 (by decide +kernel) rfl, by decide, by decide, by decide +kernel⟩
theorem lk_L_246 : LKV RL 246 mX8_pisteAccount 10 1 := lkv mk_X8_pisteAccount (GW_q7 40 (by decide +kernel) rfl)
theorem mk_X7_audit : MVok mX7_audit 9 0 := ⟨by decide, ⟨TX7, 9, rfl⟩, GW_q2 114 (by decide +kernel) rfl, GW_q2 115 (by decide +kernel) rfl, ini_RX7, GW_q2 116 (by decide +kernel) rfl, by decide, by decide, by decide +kernel⟩
theorem lk_L_247 : LKV RL 247 mX7_audit 9 0 := lkv mk_X7_audit (GW_q2 113 (by decide +kernel) rfl)
theorem mk_X8_audit : MVok mX8_audit 10 0 := ⟨by decide, ⟨TX8, 20, rfl⟩, GW_q7 45 (by decide +kernel) rfl, GW_q7 46 (by decide +kernel) rfl, ini_RX8, GW_q7 47 (by decide +kernel) rfl, by decide, by decide, by decide +kernel⟩
theorem lk_L_250 : LKV RL 250 mX8_audit 10 0 := lkv mk_X8_audit (GW_q7 44 (by decide +kernel) rfl)
theorem mk_L_busiest : MHok mL_busiest 2 := ⟨GW_q5 58 (by decide +kernel) rfl, ini_RL, GW_q5 59 (by decide +kernel) rfl, by decide, by decide, by decide +kernel⟩
theorem lk_L_251 : LKH RL 251 mL_busiest 2 := ⟨GW_q5 57 (by decide +kernel) rfl, mk_L_busiest⟩
theorem mk_X8_busiest : MVok mX8_busiest 10 0 := ⟨by decide, ⟨TX8, 20, rfl⟩, GW_q7 50 (by decide +kernel) rfl, GW_q7 51 (by decide +kernel) rfl, ini_RX8, GW_q7 52 (by decide +kernel) rfl, by decide, by decide, by decide +kernel⟩
theorem lk_L_253 : LKV RL 253 mX8_busiest 10 0 := lkv mk_X8_busiest (GW_q7 49 (by decide +kernel) rfl)
theorem mk_L_load : MHok mL_load 3 := ⟨GW_q5 70 (by decide +kernel) rfl, ini_RL, GW_q5 71 (by decide +kernel) rfl, by decide, by decide, by decide +kernel⟩
theorem lk_L_254 : LKH RL 254 mL_load 3 := ⟨GW_q5 69 (by decide +kernel) rfl, mk_L_load⟩
theorem mk_X8_load : MVok mX8_load 10 1 := ⟨by decide, ⟨TX8, 20, rfl⟩, GW_q7 54 (by decide +kernel) rfl, GW_q7 55 (by decide +kernel) rfl, ini_RX8, GW_q7 56 (by decide +kernel) rfl, by decide, by decide, by decide +kernel⟩
theorem lk_L_257 : LKV RL 257 mX8_load 10 1 := lkv mk_X8_load (GW_q7 53 (by decide +kernel) rfl)
theorem mk_L_append : MHok mL_append 3 := ⟨GW_q5 94 (by decide +kernel) rfl, ini_RL, GW_q5 95 (by decide +kernel) rfl, by decide, by decide, by decide +kernel⟩
theorem lk_L_258 : LKH RL 258 mL_append 3 := ⟨GW_q5 93 (by decide +kernel) rfl, mk_L_append⟩
theorem mk_X8_append : MVok mX8_append 10 1 := ⟨by decide, ⟨TX8, 20, rfl⟩, GW_q7 58 (by decide +kernel) rfl, GW_q7 59 (by decide +kernel) rfl, ini_RX8, GW_q7 60 (by decide +kernel) rfl, by decide, by decide, by decide +kernel⟩
theorem lk_L_261 : LKV RL 261 mX8_append 10 1 := lkv mk_X8_append (GW_q7 57 (by decide +kernel) rfl)
theorem mk_L_read : MHok mL_read 2 := ⟨GW_q5 107 (by decide +kernel) rfl, ini_RL, GW_q5 108 (by decide +kernel) rfl, by decide, by decide, by decide +kernel⟩
theorem lk_L_262 : LKH RL 262 mL_read 2 := ⟨GW_q5 106 (by decide +kernel) rfl, mk_L_read⟩
theorem mk_X8_read : MVok mX8_read 10 0 := ⟨by decide, ⟨TX8, 20, rfl⟩, GW_q7 62 (by decide +kernel) rfl, GW_q7 63 (by decide +kernel) rfl, ini_RX8, GW_q7 64 (by decide +kernel) rfl, by decide, by decide, by decide +kernel⟩
theorem lk_L_264 : LKV RL 264 mX8_read 10 0 := lkv mk_X8_read (GW_q7 61 (by decide +kernel) rfl)
theorem mk_L_errorPosition : MHok mL_errorPosition 2 := ⟨GW_q5 173 (by decide +kernel) rfl, ini_RL, GW_q5 174 (by decide +kernel) rfl, by decide, by decide, by decide +kernel⟩
theorem lk_L_265 : LKH RL 265 mL_errorPosition 2 := ⟨GW_q5 172 (by decide +kernel) rfl, mk_L_errorPosition⟩
theorem mk_X8_errorPosition : MVok mX8_errorPosition 10 0 := ⟨by decide, ⟨TX8, 20, rfl⟩, GW_q7 94 (by decide +kernel) rfl, GW_q7 95 (by decide +kernel) rfl, ini_RX8, GW_q7 96 (by decide +kernel) rfl, by decide, by decide, by decide +kernel⟩
theorem lk_L_267 : LKV RL 267 mX8_errorPosition 10 0 := lkv mk_X8_errorPosition (GW_q7 93 (by decide +kernel) rfl)
theorem mk_L_undo : MHok mL_undo 2 := ⟨GW_q5 181 (by decide +kernel) rfl, ini_RL, GW_q5 182 (by decide +kernel) rfl, by decide, by decide, by decide +kernel⟩
theorem lk_L_268 : LKH RL 268 mL_undo 2 := ⟨GW_q5 180 (by decide +kernel) rfl, mk_L_undo⟩
theorem mk_X8_undo : MVok mX8_undo 10 0 := ⟨by decide, ⟨TX8, 20, rfl⟩, GW_q7 98 (by decide +kernel) rfl, GW_q7 99 (by decide +kernel) rfl, ini_RX8, GW_q7 100 (by decide +kernel) rfl, by decide, by decide, by decide +kernel⟩
theorem lk_L_270 : LKV RL 270 mX8_undo 10 0 := lkv mk_X8_undo (GW_q7 97 (by decide +kernel) rfl)
theorem mk_X7_save : MVok mX7_save 9 0 := ⟨by decide, ⟨TX7, 9, rfl⟩, GW_q2 125 (by decide +kernel) rfl, GW_q2 126 (by decide +kernel) rfl, ini_RX7, GW_q2 127 (by decide +kernel) rfl, by decide, by decide, by decide +kernel⟩
theorem lk_L_271 : LKV RL 271 mX7_save 9 0 := lkv mk_X7_save (GW_q2 124 (by decide +kernel) rfl)
theorem mk_X8_save : MVok mX8_save 10 0 := ⟨by decide, ⟨TX8, 20, rfl⟩, GW_q7 102 (by decide +kernel) rfl, GW_q7 103 (by decide +kernel) rfl, ini_RX8, GW_q7 104 (by decide +kernel) rfl, by decide, by decide, by decide +kernel⟩
theorem lk_L_274 : LKV RL 274 mX8_save 10 0 := lkv mk_X8_save (GW_q7 101 (by decide +kernel) rfl)
theorem mk_L_restore : MHok mL_restore 2 := ⟨GW_q5 193 (by decide +kernel) rfl, ini_RL, GW_q5 194 (by decide +kernel) rfl, by decide, by decide, by decide +kernel⟩
theorem lk_L_275 : LKH RL 275 mL_restore 2 := ⟨GW_q5 192 (by decide +kernel) rfl, mk_L_restore⟩
theorem mk_X8_restore : MVok mX8_restore 10 0 := ⟨by decide, ⟨TX8, 20, rfl⟩, GW_q7 106 (by decide +kernel) rfl, GW_q7 107 (by decide +kernel) rfl, ini_RX8, GW_q7 108 (by decide +kernel) rfl, by decide, by decide, by decide +kernel⟩
theorem lk_L_277 : LKV RL 277 mX8_restore 10 0 := lkv mk_X8_restore (GW_q7 105 (by decide +kernel) rfl)
theorem mk_X8_in : MSok mX8_in 3 := ⟨GW_q6 43 (by decide +kernel) rfl, ini_RX8, GW_q6 44 (by decide +kernel) rfl, by decide, by decide, by decide +kernel⟩
theorem lk_X8_47 : LKS RX8 47 mX8_in 3 := ⟨GW_q6 42 (by decide +kernel) rfl, mk_X8_in⟩
theorem mk_X8_lift0 : MSok mX8_lift0 1 := ⟨GW_q6 54 (by decide +kernel) rfl, ini_RX8, GW_q6 55 (by decide +kernel) rfl, by decide, by decide, by decide +kernel⟩
theorem lk_X8_51 : LKS RX8 51 mX8_lift0 1 := ⟨GW_q6 53 (by decide +kernel) rfl, mk_X8_lift0⟩
theorem mk_X8_stateOf : MVok mX8_stateOf 10 1 := ⟨by decide, ⟨TX8, 20, rfl⟩, GW_q6 69 (by decide +kernel) rfl, GW_sel 26 (by decide +kernel) rfl, ini_RX8, GW_q6 70 (by decide +kernel) rfl, by decide, by decide, by decide +kernel⟩
theorem lk_X8_55 : LKV RX8 55 mX8_stateOf 10 1 := lkv mk_X8_stateOf (GW_q6 67 (by decide +kernel) rfl)
theorem mk_X8_isStation : MSok mX8_isStation 1 := ⟨GW_q6 40 (by decide +kernel) rfl, ini_RX8, GW_q6 41 (by decide +kernel) rfl, by decide, by decide, by decide +kernel⟩
theorem lk_X8_58 : LKS RX8 58 mX8_isStation 1 := ⟨GW_q6 39 (by decide +kernel) rfl, mk_X8_isStation⟩
theorem mk_X8_refuse : MVok mX8_refuse 10 1 := ⟨by decide, ⟨TX8, 20, rfl⟩, GW_q6 47 (by decide +kernel) rfl, GW_sel 24 (by decide +kernel) rfl, ini_RX8, GW_q6 48 (by decide +kernel) rfl, by decide, by decide, by decide +kernel⟩
theorem lk_X8_62 : LKV RX8 62 mX8_refuse 10 1 := lkv mk_X8_refuse (GW_q6 45 (by decide +kernel) rfl)
theorem mk_X8_keep : MVok mX8_keep 10 0 := ⟨by decide, ⟨TX8, 20, rfl⟩, GW_q6 51 (by decide +kernel) rfl, GW_sel 25 (by decide +kernel) rfl, ini_RX8, GW_q6 52 (by decide +kernel) rfl, by decide, by decide, by decide +kernel⟩
theorem lk_X8_65 : LKV RX8 65 mX8_keep 10 0 := lkv mk_X8_keep (GW_q6 49 (by decide +kernel) rfl)
theorem mk_X8_piste0 : MSok mX8_piste0 1 := ⟨GW_q6 61 (by decide +kernel) rfl, ini_RX8, GW_q6 62 (by decide +kernel) rfl, by decide, by decide, by decide +kernel⟩
theorem lk_X8_68 : LKS RX8 68 mX8_piste0 1 := ⟨GW_q6 60 (by decide +kernel) rfl, mk_X8_piste0⟩
theorem mk_X8_guest0 : MSok mX8_guest0 1 := ⟨GW_q6 84 (by decide +kernel) rfl, ini_RX8, GW_q6 85 (by decide +kernel) rfl, by decide, by decide, by decide +kernel⟩
theorem lk_X8_71 : LKS RX8 71 mX8_guest0 1 := ⟨GW_q6 83 (by decide +kernel) rfl, mk_X8_guest0⟩
theorem mk_X8_isLift : MVok mX8_isLift 10 1 := ⟨by decide, ⟨TX8, 20, rfl⟩, GW_q6 77 (by decide +kernel) rfl, GW_sel 27 (by decide +kernel) rfl, ini_RX8, GW_q6 78 (by decide +kernel) rfl, by decide, by decide, by decide +kernel⟩
theorem lk_X8_74 : LKV RX8 74 mX8_isLift 10 1 := lkv mk_X8_isLift (GW_q6 75 (by decide +kernel) rfl)
theorem mk_X8_guestsWho : MVok mX8_guestsWho 10 2 := ⟨by decide, ⟨TX8, 20, rfl⟩, GW_q6 81 (by decide +kernel) rfl, GW_sel 28 (by decide +kernel) rfl, ini_RX8, GW_q6 82 (by decide +kernel) rfl, by decide, by decide, by decide +kernel⟩
theorem lk_X8_77 : LKV RX8 77 mX8_guestsWho 10 2 := lkv mk_X8_guestsWho (GW_q6 79 (by decide +kernel) rfl)
theorem mk_X8_isPiste : MVok mX8_isPiste 10 1 := ⟨by decide, ⟨TX8, 20, rfl⟩, GW_q6 92 (by decide +kernel) rfl, GW_sel 29 (by decide +kernel) rfl, ini_RX8, GW_q6 93 (by decide +kernel) rfl, by decide, by decide, by decide +kernel⟩
theorem lk_X8_81 : LKV RX8 81 mX8_isPiste 10 1 := lkv mk_X8_isPiste (GW_q6 90 (by decide +kernel) rfl)
theorem mk_X8_openPistes : MVok mX8_openPistes 10 0 := ⟨by decide, ⟨TX8, 20, rfl⟩, GW_q6 108 (by decide +kernel) rfl, GW_sel 30 (by decide +kernel) rfl, ini_RX8, GW_q6 109 (by decide +kernel) rfl, by decide, by decide, by decide +kernel⟩
theorem lk_X8_84 : LKV RX8 84 mX8_openPistes 10 0 := lkv mk_X8_openPistes (GW_q6 106 (by decide +kernel) rfl)
theorem mk_X8_arrives : MVok mX8_arrives 10 5 := ⟨by decide, ⟨TX8, 20, rfl⟩, GW_q6 116 (by decide +kernel) rfl, GW_sel 31 (by decide +kernel) rfl, ini_RX8, GW_q6 117 (by decide +kernel) rfl, by decide, by decide, by decide +kernel⟩
theorem lk_X8_88 : LKV RX8 88 mX8_arrives 10 5 := lkv mk_X8_arrives (GW_q6 114 (by decide +kernel) rfl)
theorem mk_X8_isGuest : MVok mX8_isGuest 10 1 := ⟨by decide, ⟨TX8, 20, rfl⟩, GW_q6 124 (by decide +kernel) rfl, GW_sel 32 (by decide +kernel) rfl, ini_RX8, GW_q6 125 (by decide +kernel) rfl, by decide, by decide, by decide +kernel⟩
theorem lk_X8_92 : LKV RX8 92 mX8_isGuest 10 1 := lkv mk_X8_isGuest (GW_q6 122 (by decide +kernel) rfl)
theorem mk_X8_placeOf : MVok mX8_placeOf 10 1 := ⟨by decide, ⟨TX8, 20, rfl⟩, GW_q6 128 (by decide +kernel) rfl, GW_sel 33 (by decide +kernel) rfl, ini_RX8, GW_q6 129 (by decide +kernel) rfl, by decide, by decide, by decide +kernel⟩
theorem lk_X8_95 : LKV RX8 95 mX8_placeOf 10 1 := lkv mk_X8_placeOf (GW_q6 126 (by decide +kernel) rfl)
theorem mk_X8_isOpenTo : MVok mX8_isOpenTo 10 2 := ⟨by decide, ⟨TX8, 20, rfl⟩, GW_q6 140 (by decide +kernel) rfl, GW_sel 35 (by decide +kernel) rfl, ini_RX8, GW_q6 141 (by decide +kernel) rfl, by decide, by decide, by decide +kernel⟩
theorem lk_X8_98 : LKV RX8 98 mX8_isOpenTo 10 2 := lkv mk_X8_isOpenTo (GW_q6 138 (by decide +kernel) rfl)
theorem mk_X8_skiTime : MVok mX8_skiTime 10 2 := ⟨by decide, ⟨TX8, 20, rfl⟩, GW_q6 164 (by decide +kernel) rfl, GW_sel 40 (by decide +kernel) rfl, ini_RX8, GW_q6 165 (by decide +kernel) rfl, by decide, by decide, by decide +kernel⟩
theorem lk_X8_102 : LKV RX8 102 mX8_skiTime 10 2 := lkv mk_X8_skiTime (GW_q6 162 (by decide +kernel) rfl)
theorem mk_X8_whyNoLift : MVok mX8_whyNoLift 10 2 := ⟨by decide, ⟨TX8, 20, rfl⟩, GW_q6 136 (by decide +kernel) rfl, GW_sel 34 (by decide +kernel) rfl, ini_RX8, GW_q6 137 (by decide +kernel) rfl, by decide, by decide, by decide +kernel⟩
theorem lk_X8_105 : LKV RX8 105 mX8_whyNoLift 10 2 := lkv mk_X8_whyNoLift (GW_q6 134 (by decide +kernel) rfl)
theorem mk_X8_refuses : MVok mX8_refuses 10 2 := ⟨by decide, ⟨TX8, 20, rfl⟩, GW_q6 144 (by decide +kernel) rfl, GW_sel 36 (by decide +kernel) rfl, ini_RX8, GW_q6 145 (by decide +kernel) rfl, by decide, by decide, by decide +kernel⟩
theorem lk_X8_108 : LKV RX8 108 mX8_refuses 10 2 := lkv mk_X8_refuses (GW_q6 142 (by decide +kernel) rfl)
theorem mk_X8_standIn : MVok mX8_standIn 10 2 := ⟨by decide, ⟨TX8, 20, rfl⟩, GW_q6 148 (by decide +kernel) rfl, GW_sel 37 (by decide +kernel) rfl, ini_RX8, GW_q6 149 (by decide +kernel) rfl, by decide, by decide, by decide +kernel⟩
theorem lk_X8_111 : LKV RX8 111 mX8_standIn 10 2 := lkv mk_X8_standIn (GW_q6 146 (by decide +kernel) rfl)
theorem mk_X8_whyNoPiste : MVok mX8_whyNoPiste 10 2 := ⟨by decide, ⟨TX8, 20, rfl⟩, GW_q6 156 (by decide +kernel) rfl, GW_sel 38 (by decide +kernel) rfl, ini_RX8, GW_q6 157 (by decide +kernel) rfl, by decide, by decide, by decide +kernel⟩
theorem lk_X8_114 : LKV RX8 114 mX8_whyNoPiste 10 2 := lkv mk_X8_whyNoPiste (GW_q6 154 (by decide +kernel) rfl)
theorem mk_X8_goDown : MVok mX8_goDown 10 2 := ⟨by decide, ⟨TX8, 20, rfl⟩, GW_q6 160 (by decide +kernel) rfl, GW_sel 39 (by decide +kernel) rfl, ini_RX8, GW_q6 161 (by decide +kernel) rfl, by decide, by decide, by decide +kernel⟩
theorem lk_X8_117 : LKV RX8 117 mX8_goDown 10 2 := lkv mk_X8_goDown (GW_q6 158 (by decide +kernel) rfl)
theorem mk_X8_drops : MVok mX8_drops 10 3 := ⟨by decide, ⟨TX8, 20, rfl⟩, GW_q6 172 (by decide +kernel) rfl, GW_sel 41 (by decide +kernel) rfl, ini_RX8, GW_q6 173 (by decide +kernel) rfl, by decide, by decide, by decide +kernel⟩
theorem lk_X8_120 : LKV RX8 120 mX8_drops 10 3 := lkv mk_X8_drops (GW_q6 170 (by decide +kernel) rfl)
theorem lk_X8_127 : LKS RX8 127 mJ9_min_7cf53 2 := ⟨GW_q6 218 (by decide +kernel) rfl, mk_J9_min_7cf53⟩
theorem mk_X8_stepOf : MVok mX8_stepOf 10 1 := ⟨by decide, ⟨TX8, 20, rfl⟩, GW_q6 208 (by decide +kernel) rfl, GW_sel 44 (by decide +kernel) rfl, ini_RX8, GW_q6 209 (by decide +kernel) rfl, by decide, by decide, by decide +kernel⟩
theorem lk_X8_132 : LKV RX8 132 mX8_stepOf 10 1 := lkv mk_X8_stepOf (GW_q6 206 (by decide +kernel) rfl)
theorem mk_X8_comesTo : MVok mX8_comesTo 10 2 := ⟨by decide, ⟨TX8, 20, rfl⟩, GW_q6 212 (by decide +kernel) rfl, GW_sel 45 (by decide +kernel) rfl, ini_RX8, GW_q6 213 (by decide +kernel) rfl, by decide, by decide, by decide +kernel⟩
theorem lk_X8_135 : LKV RX8 135 mX8_comesTo 10 2 := lkv mk_X8_comesTo (GW_q6 210 (by decide +kernel) rfl)
theorem mk_X8_cabin : MVok mX8_cabin 10 1 := ⟨by decide, ⟨TX8, 20, rfl⟩, GW_q6 216 (by decide +kernel) rfl, GW_sel 46 (by decide +kernel) rfl, ini_RX8, GW_q6 217 (by decide +kernel) rfl, by decide, by decide, by decide +kernel⟩
theorem lk_X8_139 : LKV RX8 139 mX8_cabin 10 1 := lkv mk_X8_cabin (GW_q6 214 (by decide +kernel) rfl)
theorem mk_X8_tick : MVok mX8_tick 10 0 := ⟨by decide, ⟨TX8, 20, rfl⟩, GW_q6 204 (by decide +kernel) rfl, GW_sel 43 (by decide +kernel) rfl, ini_RX8, GW_q6 205 (by decide +kernel) rfl, by decide, by decide, by decide +kernel⟩
theorem lk_X8_143 : LKV RX8 143 mX8_tick 10 0 := lkv mk_X8_tick (GW_q6 202 (by decide +kernel) rfl)
theorem mk_X8_ticks : MVok mX8_ticks 10 1 := ⟨by decide, ⟨TX8, 20, rfl⟩, GW_q6 200 (by decide +kernel) rfl, GW_sel 42 (by decide +kernel) rfl, ini_RX8, GW_q6 201 (by decide +kernel) rfl, by decide, by decide, by decide +kernel⟩
theorem lk_X8_146 : LKV RX8 146 mX8_ticks 10 1 := lkv mk_X8_ticks (GW_q6 198 (by decide +kernel) rfl)
theorem mk_X8_layAside : MVok mX8_layAside 10 0 := ⟨by decide, ⟨TX8, 20, rfl⟩, GW_q6 229 (by decide +kernel) rfl, GW_sel 47 (by decide +kernel) rfl, ini_RX8, GW_q6 230 (by decide +kernel) rfl, by decide, by decide, by decide +kernel⟩
theorem lk_X8_149 : LKV RX8 149 mX8_layAside 10 0 := lkv mk_X8_layAside (GW_q6 227 (by decide +kernel) rfl)
theorem mk_X8_takeBack : MVok mX8_takeBack 10 0 := ⟨by decide, ⟨TX8, 20, rfl⟩, GW_q6 233 (by decide +kernel) rfl, GW_sel 48 (by decide +kernel) rfl, ini_RX8, GW_q6 234 (by decide +kernel) rfl, by decide, by decide, by decide +kernel⟩
theorem lk_X8_152 : LKV RX8 152 mX8_takeBack 10 0 := lkv mk_X8_takeBack (GW_q6 231 (by decide +kernel) rfl)
theorem mk_X8_isWayLift : MVok mX8_isWayLift 10 2 := ⟨by decide, ⟨TX8, 20, rfl⟩, GW_q7 14 (by decide +kernel) rfl, GW_sel 51 (by decide +kernel) rfl, ini_RX8, GW_q7 15 (by decide +kernel) rfl, by decide, by decide, by decide +kernel⟩
theorem lk_X8_156 : LKV RX8 156 mX8_isWayLift 10 2 := lkv mk_X8_isWayLift (GW_q7 12 (by decide +kernel) rfl)
theorem mk_X8_isWayPiste : MVok mX8_isWayPiste 10 2 := ⟨by decide, ⟨TX8, 20, rfl⟩, GW_q7 18 (by decide +kernel) rfl, GW_sel 52 (by decide +kernel) rfl, ini_RX8, GW_q7 19 (by decide +kernel) rfl, by decide, by decide, by decide +kernel⟩
theorem lk_X8_159 : LKV RX8 159 mX8_isWayPiste 10 2 := lkv mk_X8_isWayPiste (GW_q7 16 (by decide +kernel) rfl)
theorem mk_X8_lacks : MVok mX8_lacks 10 3 := ⟨by decide, ⟨TX8, 20, rfl⟩, GW_q7 5 (by decide +kernel) rfl, GW_sel 49 (by decide +kernel) rfl, ini_RX8, GW_q7 6 (by decide +kernel) rfl, by decide, by decide, by decide +kernel⟩
theorem lk_X8_162 : LKV RX8 162 mX8_lacks 10 3 := lkv mk_X8_lacks (GW_q7 3 (by decide +kernel) rfl)
theorem mk_X8_layWays : MVok mX8_layWays 10 2 := ⟨by decide, ⟨TX8, 20, rfl⟩, GW_q7 9 (by decide +kernel) rfl, GW_sel 50 (by decide +kernel) rfl, ini_RX8, GW_q7 10 (by decide +kernel) rfl, by decide, by decide, by decide +kernel⟩
theorem lk_X8_166 : LKV RX8 166 mX8_layWays 10 2 := lkv mk_X8_layWays (GW_q7 7 (by decide +kernel) rfl)
theorem lk_X8_169 : LKS RX8 169 mJ9_abs_0f7a4 1 := ⟨GW_q7 48 (by decide +kernel) rfl, mk_J9_abs_0f7a4⟩
theorem mk_X8_here : MVok mX8_here 10 0 := ⟨by decide, ⟨TX8, 20, rfl⟩, GW_q7 75 (by decide +kernel) rfl, GW_sel 55 (by decide +kernel) rfl, ini_RX8, GW_q7 76 (by decide +kernel) rfl, by decide, by decide, by decide +kernel⟩
theorem lk_X8_182 : LKV RX8 182 mX8_here 10 0 := lkv mk_X8_here (GW_q7 73 (by decide +kernel) rfl)
theorem mk_X8_digit : MVok mX8_digit 10 2 := ⟨by decide, ⟨TX8, 20, rfl⟩, GW_q7 83 (by decide +kernel) rfl, GW_sel 57 (by decide +kernel) rfl, ini_RX8, GW_q7 84 (by decide +kernel) rfl, by decide, by decide, by decide +kernel⟩
theorem lk_X8_185 : LKV RX8 185 mX8_digit 10 2 := lkv mk_X8_digit (GW_q7 81 (by decide +kernel) rfl)
theorem mk_X8_guestNumber : MVok mX8_guestNumber 10 0 := ⟨by decide, ⟨TX8, 20, rfl⟩, GW_q7 79 (by decide +kernel) rfl, GW_sel 56 (by decide +kernel) rfl, ini_RX8, GW_q7 80 (by decide +kernel) rfl, by decide, by decide, by decide +kernel⟩
theorem lk_X8_191 : LKV RX8 191 mX8_guestNumber 10 0 := lkv mk_X8_guestNumber (GW_q7 77 (by decide +kernel) rfl)
theorem mk_X8_take : MVok mX8_take 10 1 := ⟨by decide, ⟨TX8, 20, rfl⟩, GW_q7 87 (by decide +kernel) rfl, GW_sel 58 (by decide +kernel) rfl, ini_RX8, GW_q7 88 (by decide +kernel) rfl, by decide, by decide, by decide +kernel⟩
theorem lk_X8_194 : LKV RX8 194 mX8_take 10 1 := lkv mk_X8_take (GW_q7 85 (by decide +kernel) rfl)
theorem mk_X8_entry : MVok mX8_entry 10 0 := ⟨by decide, ⟨TX8, 20, rfl⟩, GW_q7 71 (by decide +kernel) rfl, GW_sel 54 (by decide +kernel) rfl, ini_RX8, GW_q7 72 (by decide +kernel) rfl, by decide, by decide, by decide +kernel⟩
theorem lk_X8_197 : LKV RX8 197 mX8_entry 10 0 := lkv mk_X8_entry (GW_q7 69 (by decide +kernel) rfl)
theorem mk_X8_isText : MVok mX8_isText 10 0 := ⟨by decide, ⟨TX8, 20, rfl⟩, GW_q7 67 (by decide +kernel) rfl, GW_sel 53 (by decide +kernel) rfl, ini_RX8, GW_q7 68 (by decide +kernel) rfl, by decide, by decide, by decide +kernel⟩
theorem lk_X8_200 : LKV RX8 200 mX8_isText 10 0 := lkv mk_X8_isText (GW_q7 65 (by decide +kernel) rfl)
theorem mk_X8_does : MVok mX8_does 10 1 := ⟨by decide, ⟨TX8, 20, rfl⟩, GW_q7 91 (by decide +kernel) rfl, GW_sel 59 (by decide +kernel) rfl, ini_RX8, GW_q7 92 (by decide +kernel) rfl, by decide, by decide, by decide +kernel⟩
theorem lk_X8_210 : LKV RX8 210 mX8_does 10 1 := lkv mk_X8_does (GW_q7 89 (by decide +kernel) rfl)
theorem lk_X0_223 : LKN RX0 223 "SlopeOperator" mX7_ticksFor 2 := ⟨TB_q4 181 (by decide +kernel), mk_X7_ticksFor⟩
theorem lk_X6_15 : LKN RX6 15 "SlopeOperator" mX7_isStation 1 := ⟨TB_q4 224 (by decide +kernel), mk_X7_isStation⟩
theorem lt_at_IndexOutOfBoundsException : ∀ w ∈ vx_atS RX7 71 "java/lang/IndexOutOfBoundsException" ["java/lang/RuntimeException", "java/lang/Exception"], w ∈ lw_tbl ∧ (goodWord w = true ∨ zNw w = true) := by decide +kernel
theorem lt_ot_IndexOutOfBoundsException : ∀ w ∈ Cond.classLink RX7 67 "java/lang/IndexOutOfBoundsException" :: Cond.initialized "java/lang/IndexOutOfBoundsException" :: vx_atS RX7 71 "java/lang/IndexOutOfBoundsException" ["java/lang/RuntimeException", "java/lang/Exception"], vx_ot w = true := by decide +kernel
theorem lt_at_IllegalArgumentException : ∀ w ∈ vx_atS RX7 82 "java/lang/IllegalArgumentException" ["java/lang/RuntimeException", "java/lang/Exception"], w ∈ lw_tbl ∧ (goodWord w = true ∨ zNw w = true) := by decide +kernel
theorem lt_ot_IllegalArgumentException : ∀ w ∈ Cond.classLink RX7 78 "java/lang/IllegalArgumentException" :: Cond.initialized "java/lang/IllegalArgumentException" :: vx_atS RX7 82 "java/lang/IllegalArgumentException" ["java/lang/RuntimeException", "java/lang/Exception"], vx_ot w = true := by decide +kernel
theorem lt_at_IllegalStateException : ∀ w ∈ vx_atS RX7 90 "java/lang/IllegalStateException" ["java/lang/RuntimeException", "java/lang/Exception"], w ∈ lw_tbl ∧ (goodWord w = true ∨ zNw w = true) := by decide +kernel
theorem lt_ot_IllegalStateException : ∀ w ∈ Cond.classLink RX7 86 "java/lang/IllegalStateException" :: Cond.initialized "java/lang/IllegalStateException" :: vx_atS RX7 90 "java/lang/IllegalStateException" ["java/lang/RuntimeException", "java/lang/Exception"], vx_ot w = true := by decide +kernel
theorem lt_at_UnsupportedOperationException : ∀ w ∈ vx_atS RX7 270 "java/lang/UnsupportedOperationException" ["java/lang/RuntimeException", "java/lang/Exception"], w ∈ lw_tbl ∧ (goodWord w = true ∨ zNw w = true) := by decide +kernel
theorem lt_ot_UnsupportedOperationException : ∀ w ∈ Cond.classLink RX7 266 "java/lang/UnsupportedOperationException" :: Cond.initialized "java/lang/UnsupportedOperationException" :: vx_atS RX7 270 "java/lang/UnsupportedOperationException" ["java/lang/RuntimeException", "java/lang/Exception"], vx_ot w = true := by decide +kernel
theorem lt_at_NoSuchElementException : ∀ w ∈ zn_at RX7 298, w ∈ lw_tbl ∧ (goodWord w = true ∨ zNw w = true) := by decide +kernel
theorem lt_ot_NoSuchElementException : ∀ w ∈ Cond.classLink RX7 294 "java/util/NoSuchElementException" :: Cond.initialized "java/util/NoSuchElementException" :: zn_at RX7 298, vx_ot w = true := by decide +kernel
theorem lt_at_ArithmeticException : ∀ w ∈ vx_atS RX7 389 "java/lang/ArithmeticException" ["java/lang/RuntimeException", "java/lang/Exception"], w ∈ lw_tbl ∧ (goodWord w = true ∨ zNw w = true) := by decide +kernel
theorem lt_ot_ArithmeticException : ∀ w ∈ Cond.classLink RX7 385 "java/lang/ArithmeticException" :: Cond.initialized "java/lang/ArithmeticException" :: vx_atS RX7 389 "java/lang/ArithmeticException" ["java/lang/RuntimeException", "java/lang/Exception"], vx_ot w = true := by decide +kernel
theorem lt_ArithmeticException_387 : LT RX7 "java/lang/ArithmeticException" "no cabin departed" 385 387 389 := ⟨GW_q5 90 (by decide +kernel) rfl, ini_JArithmeticException, TB_q5 91 (by decide +kernel), by decide +kernel, by decide +kernel, lt_at_ArithmeticException, lt_ot_ArithmeticException⟩
theorem lt_IllegalArgumentException_80 : LT RX7 "java/lang/IllegalArgumentException" "no such lift is possible" 78 80 82 := ⟨GW_q3 16 (by decide +kernel) rfl, ini_JIllegalArgumentException, TB_q3 25 (by decide +kernel), by decide +kernel, by decide +kernel, lt_at_IllegalArgumentException, lt_ot_IllegalArgumentException⟩
theorem lt_IllegalArgumentException_105 : LT RX7 "java/lang/IllegalArgumentException" "no such piste is possible" 78 105 82 := ⟨GW_q3 16 (by decide +kernel) rfl, ini_JIllegalArgumentException, TB_q3 70 (by decide +kernel), by decide +kernel, by decide +kernel, lt_at_IllegalArgumentException, lt_ot_IllegalArgumentException⟩
theorem lt_IllegalArgumentException_121 : LT RX7 "java/lang/IllegalArgumentException" "the wind is 0 to 9" 78 121 82 := ⟨GW_q3 16 (by decide +kernel) rfl, ini_JIllegalArgumentException, TB_q3 83 (by decide +kernel), by decide +kernel, by decide +kernel, lt_at_IllegalArgumentException, lt_ot_IllegalArgumentException⟩
theorem lt_IllegalArgumentException_168 : LT RX7 "java/lang/IllegalArgumentException" "what is 0 to 10" 78 168 82 := ⟨GW_q3 16 (by decide +kernel) rfl, ini_JIllegalArgumentException, TB_q3 117 (by decide +kernel), by decide +kernel, by decide +kernel, lt_at_IllegalArgumentException, lt_ot_IllegalArgumentException⟩
theorem lt_IllegalArgumentException_197 : LT RX7 "java/lang/IllegalArgumentException" "what is 0 to 7" 78 197 82 := ⟨GW_q3 16 (by decide +kernel) rfl, ini_JIllegalArgumentException, TB_q3 130 (by decide +kernel), by decide +kernel, by decide +kernel, lt_at_IllegalArgumentException, lt_ot_IllegalArgumentException⟩
theorem lt_IllegalArgumentException_216 : LT RX7 "java/lang/IllegalArgumentException" "what is 0 to 11" 78 216 82 := ⟨GW_q3 16 (by decide +kernel) rfl, ini_JIllegalArgumentException, TB_q3 162 (by decide +kernel), by decide +kernel, by decide +kernel, lt_at_IllegalArgumentException, lt_ot_IllegalArgumentException⟩
theorem lt_IllegalArgumentException_218 : LT RX7 "java/lang/IllegalArgumentException" "no such guest is possible" 78 218 82 := ⟨GW_q3 16 (by decide +kernel) rfl, ini_JIllegalArgumentException, TB_q3 170 (by decide +kernel), by decide +kernel, by decide +kernel, lt_at_IllegalArgumentException, lt_ot_IllegalArgumentException⟩
theorem lt_IllegalArgumentException_254 : LT RX7 "java/lang/IllegalArgumentException" "what is 0 to 6" 78 254 82 := ⟨GW_q3 16 (by decide +kernel) rfl, ini_JIllegalArgumentException, TB_q3 192 (by decide +kernel), by decide +kernel, by decide +kernel, lt_at_IllegalArgumentException, lt_ot_IllegalArgumentException⟩
theorem lt_IllegalArgumentException_308 : LT RX7 "java/lang/IllegalArgumentException" "the ticks are 1 to 50" 78 308 82 := ⟨GW_q3 16 (by decide +kernel) rfl, ini_JIllegalArgumentException, TB_q4 109 (by decide +kernel), by decide +kernel, by decide +kernel, lt_at_IllegalArgumentException, lt_ot_IllegalArgumentException⟩
theorem lt_IllegalArgumentException_361 : LT RX7 "java/lang/IllegalArgumentException" "the account is 0 or 1" 78 361 82 := ⟨GW_q3 16 (by decide +kernel) rfl, ini_JIllegalArgumentException, TB_q5 41 (by decide +kernel), by decide +kernel, by decide +kernel, lt_at_IllegalArgumentException, lt_ot_IllegalArgumentException⟩
theorem lt_IllegalArgumentException_372 : LT RX7 "java/lang/IllegalArgumentException" "the account is 0 to 2" 78 372 82 := ⟨GW_q3 16 (by decide +kernel) rfl, ini_JIllegalArgumentException, TB_q5 49 (by decide +kernel), by decide +kernel, by decide +kernel, lt_at_IllegalArgumentException, lt_ot_IllegalArgumentException⟩
theorem lt_IllegalArgumentException_390 : LT RX7 "java/lang/IllegalArgumentException" "the character code is 32 to 126" 78 390 82 := ⟨GW_q3 16 (by decide +kernel) rfl, ini_JIllegalArgumentException, TB_q5 100 (by decide +kernel), by decide +kernel, by decide +kernel, lt_at_IllegalArgumentException, lt_ot_IllegalArgumentException⟩
theorem lt_IllegalArgumentException_407 : LT RX7 "java/lang/IllegalArgumentException" "the input is not a text" 78 407 82 := ⟨GW_q3 16 (by decide +kernel) rfl, ini_JIllegalArgumentException, TB_q5 149 (by decide +kernel), by decide +kernel, by decide +kernel, lt_at_IllegalArgumentException, lt_ot_IllegalArgumentException⟩
theorem lt_IllegalStateException_88 : LT RX7 "java/lang/IllegalStateException" "there are 6 lifts" 86 88 90 := ⟨GW_q3 32 (by decide +kernel) rfl, ini_JIllegalStateException, TB_q3 41 (by decide +kernel), by decide +kernel, by decide +kernel, lt_at_IllegalStateException, lt_ot_IllegalStateException⟩
theorem lt_IllegalStateException_110 : LT RX7 "java/lang/IllegalStateException" "there are 10 pistes" 86 110 90 := ⟨GW_q3 32 (by decide +kernel) rfl, ini_JIllegalStateException, TB_q3 71 (by decide +kernel), by decide +kernel, by decide +kernel, lt_at_IllegalStateException, lt_ot_IllegalStateException⟩
theorem lt_IllegalStateException_199 : LT RX7 "java/lang/IllegalStateException" "the piste is worn out" 86 199 90 := ⟨GW_q3 32 (by decide +kernel) rfl, ini_JIllegalStateException, TB_q3 138 (by decide +kernel), by decide +kernel, by decide +kernel, lt_at_IllegalStateException, lt_ot_IllegalStateException⟩
theorem lt_IllegalStateException_201 : LT RX7 "java/lang/IllegalStateException" "the piste is not closed" 86 201 90 := ⟨GW_q3 32 (by decide +kernel) rfl, ini_JIllegalStateException, TB_q3 146 (by decide +kernel), by decide +kernel, by decide +kernel, lt_at_IllegalStateException, lt_ot_IllegalStateException⟩
theorem lt_IllegalStateException_220 : LT RX7 "java/lang/IllegalStateException" "there are 16 guests" 86 220 90 := ⟨GW_q3 32 (by decide +kernel) rfl, ini_JIllegalStateException, TB_q3 171 (by decide +kernel), by decide +kernel, by decide +kernel, lt_at_IllegalStateException, lt_ot_IllegalStateException⟩
theorem lt_IllegalStateException_285 : LT RX7 "java/lang/IllegalStateException" "the guest rides, skis or is away" 86 285 90 := ⟨GW_q3 32 (by decide +kernel) rfl, ini_JIllegalStateException, TB_q4 27 (by decide +kernel), by decide +kernel, by decide +kernel, lt_at_IllegalStateException, lt_ot_IllegalStateException⟩
theorem lt_IllegalStateException_310 : LT RX7 "java/lang/IllegalStateException" "the tick number would be greater than 1000" 86 310 90 := ⟨GW_q3 32 (by decide +kernel) rfl, ini_JIllegalStateException, TB_q4 110 (by decide +kernel), by decide +kernel, by decide +kernel, lt_at_IllegalStateException, lt_ot_IllegalStateException⟩
theorem lt_IllegalStateException_315 : LT RX7 "java/lang/IllegalStateException" "the day number is 1000" 86 315 90 := ⟨GW_q3 32 (by decide +kernel) rfl, ini_JIllegalStateException, TB_q4 159 (by decide +kernel), by decide +kernel, by decide +kernel, lt_at_IllegalStateException, lt_ot_IllegalStateException⟩
theorem lt_IllegalStateException_393 : LT RX7 "java/lang/IllegalStateException" "the input has 60 characters" 86 393 90 := ⟨GW_q3 32 (by decide +kernel) rfl, ini_JIllegalStateException, TB_q5 101 (by decide +kernel), by decide +kernel, by decide +kernel, lt_at_IllegalStateException, lt_ot_IllegalStateException⟩
theorem lt_IllegalStateException_418 : LT RX7 "java/lang/IllegalStateException" "an entry cannot be done" 86 418 90 := ⟨GW_q3 32 (by decide +kernel) rfl, ini_JIllegalStateException, TB_q5 171 (by decide +kernel), by decide +kernel, by decide +kernel, lt_at_IllegalStateException, lt_ot_IllegalStateException⟩
theorem lt_IllegalStateException_430 : LT RX7 "java/lang/IllegalStateException" "nothing was saved" 86 430 90 := ⟨GW_q3 32 (by decide +kernel) rfl, ini_JIllegalStateException, TB_q5 199 (by decide +kernel), by decide +kernel, by decide +kernel, lt_at_IllegalStateException, lt_ot_IllegalStateException⟩
theorem lt_IndexOutOfBoundsException_69 : LT RX7 "java/lang/IndexOutOfBoundsException" "no such station" 67 69 71 := ⟨GW_q3 3 (by decide +kernel) rfl, ini_JIndexOutOfBoundsException, TB_q3 12 (by decide +kernel), by decide +kernel, by decide +kernel, lt_at_IndexOutOfBoundsException, lt_ot_IndexOutOfBoundsException⟩
theorem lt_IndexOutOfBoundsException_134 : LT RX7 "java/lang/IndexOutOfBoundsException" "no such lift" 67 134 71 := ⟨GW_q3 3 (by decide +kernel) rfl, ini_JIndexOutOfBoundsException, TB_q3 107 (by decide +kernel), by decide +kernel, by decide +kernel, lt_at_IndexOutOfBoundsException, lt_ot_IndexOutOfBoundsException⟩
theorem lt_IndexOutOfBoundsException_174 : LT RX7 "java/lang/IndexOutOfBoundsException" "no such piste" 67 174 71 := ⟨GW_q3 3 (by decide +kernel) rfl, ini_JIndexOutOfBoundsException, TB_q3 129 (by decide +kernel), by decide +kernel, by decide +kernel, lt_at_IndexOutOfBoundsException, lt_ot_IndexOutOfBoundsException⟩
theorem lt_IndexOutOfBoundsException_230 : LT RX7 "java/lang/IndexOutOfBoundsException" "no such guest" 67 230 71 := ⟨GW_q3 3 (by decide +kernel) rfl, ini_JIndexOutOfBoundsException, TB_q3 191 (by decide +kernel), by decide +kernel, by decide +kernel, lt_at_IndexOutOfBoundsException, lt_ot_IndexOutOfBoundsException⟩
theorem lt_IndexOutOfBoundsException_256 : LT RX7 "java/lang/IndexOutOfBoundsException" "no such guest or lift" 67 256 71 := ⟨GW_q3 3 (by decide +kernel) rfl, ini_JIndexOutOfBoundsException, TB_q3 201 (by decide +kernel), by decide +kernel, by decide +kernel, lt_at_IndexOutOfBoundsException, lt_ot_IndexOutOfBoundsException⟩
theorem lt_IndexOutOfBoundsException_275 : LT RX7 "java/lang/IndexOutOfBoundsException" "no such guest or piste" 67 275 71 := ⟨GW_q3 3 (by decide +kernel) rfl, ini_JIndexOutOfBoundsException, TB_q4 3 (by decide +kernel), by decide +kernel, by decide +kernel, lt_at_IndexOutOfBoundsException, lt_ot_IndexOutOfBoundsException⟩
theorem lt_IndexOutOfBoundsException_333 : LT RX7 "java/lang/IndexOutOfBoundsException" "no such guest or station" 67 333 71 := ⟨GW_q3 3 (by decide +kernel) rfl, ini_JIndexOutOfBoundsException, TB_q4 206 (by decide +kernel), by decide +kernel, by decide +kernel, lt_at_IndexOutOfBoundsException, lt_ot_IndexOutOfBoundsException⟩
theorem lt_UnsupportedOperationException_268 : LT RX7 "java/lang/UnsupportedOperationException" "refused" 266 268 270 := ⟨GW_q3 215 (by decide +kernel) rfl, ini_JUnsupportedOperationException, TB_q3 224 (by decide +kernel), by decide +kernel, by decide +kernel, lt_at_UnsupportedOperationException, lt_ot_UnsupportedOperationException⟩
theorem lt_NoSuchElementException_296 : LTN RX7 "no reason was kept" 294 296 298 := ⟨GW_q4 63 (by decide +kernel) rfl, ini_JNoSuchElementException, TB_q4 72 (by decide +kernel), lt_at_NoSuchElementException, lt_ot_NoSuchElementException⟩
theorem lt_NoSuchElementException_306 : LTN RX7 "no such place in the queue" 294 306 298 := ⟨GW_q4 63 (by decide +kernel) rfl, ini_JNoSuchElementException, TB_q4 101 (by decide +kernel), lt_at_NoSuchElementException, lt_ot_NoSuchElementException⟩
theorem lt_NoSuchElementException_323 : LTN RX7 "the guest does not come to a station" 294 323 298 := ⟨GW_q4 63 (by decide +kernel) rfl, ini_JNoSuchElementException, TB_q4 188 (by decide +kernel), lt_at_NoSuchElementException, lt_ot_NoSuchElementException⟩
theorem lt_NoSuchElementException_325 : LTN RX7 "the lift is held" 294 325 298 := ⟨GW_q4 63 (by decide +kernel) rfl, ini_JNoSuchElementException, TB_q4 196 (by decide +kernel), lt_at_NoSuchElementException, lt_ot_NoSuchElementException⟩
theorem lt_NoSuchElementException_343 : LTN RX7 "there is no way" 294 343 298 := ⟨GW_q4 63 (by decide +kernel) rfl, ini_JNoSuchElementException, TB_q4 236 (by decide +kernel), lt_at_NoSuchElementException, lt_ot_NoSuchElementException⟩
theorem lt_NoSuchElementException_383 : LTN RX7 "no guest rode" 294 383 298 := ⟨GW_q4 63 (by decide +kernel) rfl, ini_JNoSuchElementException, TB_q5 68 (by decide +kernel), lt_at_NoSuchElementException, lt_ot_NoSuchElementException⟩
theorem lt_NoSuchElementException_420 : LTN RX7 "no error position was kept" 294 420 298 := ⟨GW_q4 63 (by decide +kernel) rfl, ini_JNoSuchElementException, TB_q5 179 (by decide +kernel), lt_at_NoSuchElementException, lt_ot_NoSuchElementException⟩
theorem lt_NoSuchElementException_425 : LTN RX7 "no change is remembered" 294 425 298 := ⟨GW_q4 63 (by decide +kernel) rfl, ini_JNoSuchElementException, TB_q5 187 (by decide +kernel), lt_at_NoSuchElementException, lt_ot_NoSuchElementException⟩
theorem lc_X7_342 : Cond.constant RX7 342 1000000 ∈ GW := GW_q4 235 (by decide +kernel) rfl
theorem lc_X6_19 : Cond.constant RX6 19 1000000 ∈ GW := GW_q4 211 (by decide +kernel) rfl
theorem lc_X8_155 : Cond.constant RX8 155 1000000 ∈ GW := GW_q7 11 (by decide +kernel) rfl
end
