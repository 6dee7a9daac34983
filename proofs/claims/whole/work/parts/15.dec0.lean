theorem dX0_init_0 : decode cX0_init 0 = .ok (.aload_n 0, 1) := by decide +kernel
theorem dX0_init_1 : decode cX0_init 1 = .ok (.invokespecial 3, 3) := by decide +kernel
theorem dX0_init_4 : decode cX0_init 4 = .ok (.aload_n 0, 1) := by decide +kernel
theorem dX0_init_5 : decode cX0_init 5 = .ok (.bipush 6, 2) := by decide +kernel
theorem dX0_init_7 : decode cX0_init 7 = .ok (.anewarray 9, 3) := by decide +kernel
theorem dX0_init_10 : decode cX0_init 10 = .ok (.putfield 11, 3) := by decide +kernel
theorem dX0_init_13 : decode cX0_init 13 = .ok (.iconst 0, 1) := by decide +kernel
theorem dX0_init_14 : decode cX0_init 14 = .ok (.istore_n 1, 1) := by decide +kernel
theorem dX0_init_15 : decode cX0_init 15 = .ok (.iload_n 1, 1) := by decide +kernel
theorem dX0_init_16 : decode cX0_init 16 = .ok (.bipush 6, 2) := by decide +kernel
theorem dX0_init_18 : decode cX0_init 18 = .ok (.if_icmp .ge 22, 3) := by decide +kernel
theorem dX0_init_21 : decode cX0_init 21 = .ok (.aload_n 0, 1) := by decide +kernel
theorem dX0_init_22 : decode cX0_init 22 = .ok (.getfield 11, 3) := by decide +kernel
theorem dX0_init_25 : decode cX0_init 25 = .ok (.iload_n 1, 1) := by decide +kernel
theorem dX0_init_26 : decode cX0_init 26 = .ok (.new 9, 3) := by decide +kernel
theorem dX0_init_29 : decode cX0_init 29 = .ok (.dup, 1) := by decide +kernel
theorem dX0_init_30 : decode cX0_init 30 = .ok (.invokespecial 17, 3) := by decide +kernel
theorem dX0_init_33 : decode cX0_init 33 = .ok (.aastore, 1) := by decide +kernel
theorem dX0_init_34 : decode cX0_init 34 = .ok (.iinc 1 1, 3) := by decide +kernel
theorem dX0_init_37 : decode cX0_init 37 = .ok (.goto (-22), 3) := by decide +kernel
theorem dX0_init_40 : decode cX0_init 40 = .ok (.aload_n 0, 1) := by decide +kernel
theorem dX0_init_41 : decode cX0_init 41 = .ok (.bipush 10, 2) := by decide +kernel
theorem dX0_init_43 : decode cX0_init 43 = .ok (.anewarray 18, 3) := by decide +kernel
theorem dX0_init_46 : decode cX0_init 46 = .ok (.putfield 20, 3) := by decide +kernel
theorem dX0_init_49 : decode cX0_init 49 = .ok (.iconst 0, 1) := by decide +kernel
theorem dX0_init_50 : decode cX0_init 50 = .ok (.istore_n 1, 1) := by decide +kernel
theorem dX0_init_51 : decode cX0_init 51 = .ok (.iload_n 1, 1) := by decide +kernel
theorem dX0_init_52 : decode cX0_init 52 = .ok (.bipush 10, 2) := by decide +kernel
theorem dX0_init_54 : decode cX0_init 54 = .ok (.if_icmp .ge 22, 3) := by decide +kernel
theorem dX0_init_57 : decode cX0_init 57 = .ok (.aload_n 0, 1) := by decide +kernel
theorem dX0_init_58 : decode cX0_init 58 = .ok (.getfield 20, 3) := by decide +kernel
theorem dX0_init_61 : decode cX0_init 61 = .ok (.iload_n 1, 1) := by decide +kernel
theorem dX0_init_62 : decode cX0_init 62 = .ok (.new 18, 3) := by decide +kernel
theorem dX0_init_65 : decode cX0_init 65 = .ok (.dup, 1) := by decide +kernel
theorem dX0_init_66 : decode cX0_init 66 = .ok (.invokespecial 24, 3) := by decide +kernel
theorem dX0_init_69 : decode cX0_init 69 = .ok (.aastore, 1) := by decide +kernel
theorem dX0_init_70 : decode cX0_init 70 = .ok (.iinc 1 1, 3) := by decide +kernel
theorem dX0_init_73 : decode cX0_init 73 = .ok (.goto (-22), 3) := by decide +kernel
theorem dX0_init_76 : decode cX0_init 76 = .ok (.aload_n 0, 1) := by decide +kernel
theorem dX0_init_77 : decode cX0_init 77 = .ok (.bipush 16, 2) := by decide +kernel
theorem dX0_init_79 : decode cX0_init 79 = .ok (.anewarray 25, 3) := by decide +kernel
theorem dX0_init_82 : decode cX0_init 82 = .ok (.putfield 27, 3) := by decide +kernel
theorem dX0_init_85 : decode cX0_init 85 = .ok (.iconst 0, 1) := by decide +kernel
theorem dX0_init_86 : decode cX0_init 86 = .ok (.istore_n 1, 1) := by decide +kernel
theorem dX0_init_87 : decode cX0_init 87 = .ok (.iload_n 1, 1) := by decide +kernel
theorem dX0_init_88 : decode cX0_init 88 = .ok (.bipush 16, 2) := by decide +kernel
theorem dX0_init_90 : decode cX0_init 90 = .ok (.if_icmp .ge 22, 3) := by decide +kernel
theorem dX0_init_93 : decode cX0_init 93 = .ok (.aload_n 0, 1) := by decide +kernel
theorem dX0_init_94 : decode cX0_init 94 = .ok (.getfield 27, 3) := by decide +kernel
theorem dX0_init_97 : decode cX0_init 97 = .ok (.iload_n 1, 1) := by decide +kernel
theorem dX0_init_98 : decode cX0_init 98 = .ok (.new 25, 3) := by decide +kernel
theorem dX0_init_101 : decode cX0_init 101 = .ok (.dup, 1) := by decide +kernel
theorem dX0_init_102 : decode cX0_init 102 = .ok (.invokespecial 31, 3) := by decide +kernel
theorem dX0_init_105 : decode cX0_init 105 = .ok (.aastore, 1) := by decide +kernel
theorem dX0_init_106 : decode cX0_init 106 = .ok (.iinc 1 1, 3) := by decide +kernel
theorem dX0_init_109 : decode cX0_init 109 = .ok (.goto (-22), 3) := by decide +kernel
theorem dX0_init_112 : decode cX0_init 112 = .ok (.return_, 1) := by decide +kernel
theorem dX0_becomeEmpty_0 : decode cX0_becomeEmpty 0 = .ok (.aload_n 0, 1) := by decide +kernel
theorem dX0_becomeEmpty_1 : decode cX0_becomeEmpty 1 = .ok (.iconst 0, 1) := by decide +kernel
theorem dX0_becomeEmpty_2 : decode cX0_becomeEmpty 2 = .ok (.putfield 32, 3) := by decide +kernel
theorem dX0_becomeEmpty_5 : decode cX0_becomeEmpty 5 = .ok (.aload_n 0, 1) := by decide +kernel
theorem dX0_becomeEmpty_6 : decode cX0_becomeEmpty 6 = .ok (.iconst 0, 1) := by decide +kernel
theorem dX0_becomeEmpty_7 : decode cX0_becomeEmpty 7 = .ok (.putfield 36, 3) := by decide +kernel
theorem dX0_becomeEmpty_10 : decode cX0_becomeEmpty 10 = .ok (.aload_n 0, 1) := by decide +kernel
theorem dX0_becomeEmpty_11 : decode cX0_becomeEmpty 11 = .ok (.iconst 0, 1) := by decide +kernel
theorem dX0_becomeEmpty_12 : decode cX0_becomeEmpty 12 = .ok (.putfield 39, 3) := by decide +kernel
theorem dX0_becomeEmpty_15 : decode cX0_becomeEmpty 15 = .ok (.aload_n 0, 1) := by decide +kernel
theorem dX0_becomeEmpty_16 : decode cX0_becomeEmpty 16 = .ok (.iconst 0, 1) := by decide +kernel
theorem dX0_becomeEmpty_17 : decode cX0_becomeEmpty 17 = .ok (.putfield 42, 3) := by decide +kernel
theorem dX0_becomeEmpty_20 : decode cX0_becomeEmpty 20 = .ok (.aload_n 0, 1) := by decide +kernel
theorem dX0_becomeEmpty_21 : decode cX0_becomeEmpty 21 = .ok (.iconst 0, 1) := by decide +kernel
theorem dX0_becomeEmpty_22 : decode cX0_becomeEmpty 22 = .ok (.putfield 45, 3) := by decide +kernel
theorem dX0_becomeEmpty_25 : decode cX0_becomeEmpty 25 = .ok (.aload_n 0, 1) := by decide +kernel
theorem dX0_becomeEmpty_26 : decode cX0_becomeEmpty 26 = .ok (.iconst 0, 1) := by decide +kernel
theorem dX0_becomeEmpty_27 : decode cX0_becomeEmpty 27 = .ok (.putfield 48, 3) := by decide +kernel
theorem dX0_becomeEmpty_30 : decode cX0_becomeEmpty 30 = .ok (.return_, 1) := by decide +kernel
theorem dX0_copyFrom_0 : decode cX0_copyFrom 0 = .ok (.iconst 0, 1) := by decide +kernel
theorem dX0_copyFrom_1 : decode cX0_copyFrom 1 = .ok (.istore_n 2, 1) := by decide +kernel
theorem dX0_copyFrom_2 : decode cX0_copyFrom 2 = .ok (.iload_n 2, 1) := by decide +kernel
theorem dX0_copyFrom_3 : decode cX0_copyFrom 3 = .ok (.aload_n 1, 1) := by decide +kernel
theorem dX0_copyFrom_4 : decode cX0_copyFrom 4 = .ok (.getfield 32, 3) := by decide +kernel
theorem dX0_copyFrom_7 : decode cX0_copyFrom 7 = .ok (.if_icmp .ge 24, 3) := by decide +kernel
theorem dX0_copyFrom_10 : decode cX0_copyFrom 10 = .ok (.aload_n 0, 1) := by decide +kernel
theorem dX0_copyFrom_11 : decode cX0_copyFrom 11 = .ok (.getfield 11, 3) := by decide +kernel
theorem dX0_copyFrom_14 : decode cX0_copyFrom 14 = .ok (.iload_n 2, 1) := by decide +kernel
theorem dX0_copyFrom_15 : decode cX0_copyFrom 15 = .ok (.aaload, 1) := by decide +kernel
theorem dX0_copyFrom_16 : decode cX0_copyFrom 16 = .ok (.aload_n 1, 1) := by decide +kernel
theorem dX0_copyFrom_17 : decode cX0_copyFrom 17 = .ok (.getfield 11, 3) := by decide +kernel
theorem dX0_copyFrom_20 : decode cX0_copyFrom 20 = .ok (.iload_n 2, 1) := by decide +kernel
theorem dX0_copyFrom_21 : decode cX0_copyFrom 21 = .ok (.aaload, 1) := by decide +kernel
theorem dX0_copyFrom_22 : decode cX0_copyFrom 22 = .ok (.invokevirtual 51, 3) := by decide +kernel
theorem dX0_copyFrom_25 : decode cX0_copyFrom 25 = .ok (.iinc 2 1, 3) := by decide +kernel
theorem dX0_copyFrom_28 : decode cX0_copyFrom 28 = .ok (.goto (-26), 3) := by decide +kernel
theorem dX0_copyFrom_31 : decode cX0_copyFrom 31 = .ok (.iconst 0, 1) := by decide +kernel
theorem dX0_copyFrom_32 : decode cX0_copyFrom 32 = .ok (.istore_n 2, 1) := by decide +kernel
theorem dX0_copyFrom_33 : decode cX0_copyFrom 33 = .ok (.iload_n 2, 1) := by decide +kernel
theorem dX0_copyFrom_34 : decode cX0_copyFrom 34 = .ok (.aload_n 1, 1) := by decide +kernel
theorem dX0_copyFrom_35 : decode cX0_copyFrom 35 = .ok (.getfield 36, 3) := by decide +kernel
theorem dX0_copyFrom_38 : decode cX0_copyFrom 38 = .ok (.if_icmp .ge 24, 3) := by decide +kernel
theorem dX0_copyFrom_41 : decode cX0_copyFrom 41 = .ok (.aload_n 0, 1) := by decide +kernel
theorem dX0_copyFrom_42 : decode cX0_copyFrom 42 = .ok (.getfield 20, 3) := by decide +kernel
theorem dX0_copyFrom_45 : decode cX0_copyFrom 45 = .ok (.iload_n 2, 1) := by decide +kernel
theorem dX0_copyFrom_46 : decode cX0_copyFrom 46 = .ok (.aaload, 1) := by decide +kernel
theorem dX0_copyFrom_47 : decode cX0_copyFrom 47 = .ok (.aload_n 1, 1) := by decide +kernel
theorem dX0_copyFrom_48 : decode cX0_copyFrom 48 = .ok (.getfield 20, 3) := by decide +kernel
theorem dX0_copyFrom_51 : decode cX0_copyFrom 51 = .ok (.iload_n 2, 1) := by decide +kernel
theorem dX0_copyFrom_52 : decode cX0_copyFrom 52 = .ok (.aaload, 1) := by decide +kernel
theorem dX0_copyFrom_53 : decode cX0_copyFrom 53 = .ok (.invokevirtual 55, 3) := by decide +kernel
theorem dX0_copyFrom_56 : decode cX0_copyFrom 56 = .ok (.iinc 2 1, 3) := by decide +kernel
theorem dX0_copyFrom_59 : decode cX0_copyFrom 59 = .ok (.goto (-26), 3) := by decide +kernel
theorem dX0_copyFrom_62 : decode cX0_copyFrom 62 = .ok (.iconst 0, 1) := by decide +kernel
theorem dX0_copyFrom_63 : decode cX0_copyFrom 63 = .ok (.istore_n 2, 1) := by decide +kernel
theorem dX0_copyFrom_64 : decode cX0_copyFrom 64 = .ok (.iload_n 2, 1) := by decide +kernel
theorem dX0_copyFrom_65 : decode cX0_copyFrom 65 = .ok (.aload_n 1, 1) := by decide +kernel
theorem dX0_copyFrom_66 : decode cX0_copyFrom 66 = .ok (.getfield 39, 3) := by decide +kernel
theorem dX0_copyFrom_69 : decode cX0_copyFrom 69 = .ok (.if_icmp .ge 24, 3) := by decide +kernel
theorem dX0_copyFrom_72 : decode cX0_copyFrom 72 = .ok (.aload_n 0, 1) := by decide +kernel
theorem dX0_copyFrom_73 : decode cX0_copyFrom 73 = .ok (.getfield 27, 3) := by decide +kernel
theorem dX0_copyFrom_76 : decode cX0_copyFrom 76 = .ok (.iload_n 2, 1) := by decide +kernel
theorem dX0_copyFrom_77 : decode cX0_copyFrom 77 = .ok (.aaload, 1) := by decide +kernel
theorem dX0_copyFrom_78 : decode cX0_copyFrom 78 = .ok (.aload_n 1, 1) := by decide +kernel
theorem dX0_copyFrom_79 : decode cX0_copyFrom 79 = .ok (.getfield 27, 3) := by decide +kernel
theorem dX0_copyFrom_82 : decode cX0_copyFrom 82 = .ok (.iload_n 2, 1) := by decide +kernel
theorem dX0_copyFrom_83 : decode cX0_copyFrom 83 = .ok (.aaload, 1) := by decide +kernel
theorem dX0_copyFrom_84 : decode cX0_copyFrom 84 = .ok (.invokevirtual 58, 3) := by decide +kernel
theorem dX0_copyFrom_87 : decode cX0_copyFrom 87 = .ok (.iinc 2 1, 3) := by decide +kernel
theorem dX0_copyFrom_90 : decode cX0_copyFrom 90 = .ok (.goto (-26), 3) := by decide +kernel
theorem dX0_copyFrom_93 : decode cX0_copyFrom 93 = .ok (.aload_n 0, 1) := by decide +kernel
theorem dX0_copyFrom_94 : decode cX0_copyFrom 94 = .ok (.aload_n 1, 1) := by decide +kernel
theorem dX0_copyFrom_95 : decode cX0_copyFrom 95 = .ok (.getfield 32, 3) := by decide +kernel
theorem dX0_copyFrom_98 : decode cX0_copyFrom 98 = .ok (.putfield 32, 3) := by decide +kernel
theorem dX0_copyFrom_101 : decode cX0_copyFrom 101 = .ok (.aload_n 0, 1) := by decide +kernel
theorem dX0_copyFrom_102 : decode cX0_copyFrom 102 = .ok (.aload_n 1, 1) := by decide +kernel
theorem dX0_copyFrom_103 : decode cX0_copyFrom 103 = .ok (.getfield 36, 3) := by decide +kernel
theorem dX0_copyFrom_106 : decode cX0_copyFrom 106 = .ok (.putfield 36, 3) := by decide +kernel
theorem dX0_copyFrom_109 : decode cX0_copyFrom 109 = .ok (.aload_n 0, 1) := by decide +kernel
theorem dX0_copyFrom_110 : decode cX0_copyFrom 110 = .ok (.aload_n 1, 1) := by decide +kernel
theorem dX0_copyFrom_111 : decode cX0_copyFrom 111 = .ok (.getfield 39, 3) := by decide +kernel
theorem dX0_copyFrom_114 : decode cX0_copyFrom 114 = .ok (.putfield 39, 3) := by decide +kernel
theorem dX0_copyFrom_117 : decode cX0_copyFrom 117 = .ok (.aload_n 0, 1) := by decide +kernel
theorem dX0_copyFrom_118 : decode cX0_copyFrom 118 = .ok (.aload_n 1, 1) := by decide +kernel
theorem dX0_copyFrom_119 : decode cX0_copyFrom 119 = .ok (.getfield 42, 3) := by decide +kernel
theorem dX0_copyFrom_122 : decode cX0_copyFrom 122 = .ok (.putfield 42, 3) := by decide +kernel
theorem dX0_copyFrom_125 : decode cX0_copyFrom 125 = .ok (.aload_n 0, 1) := by decide +kernel
theorem dX0_copyFrom_126 : decode cX0_copyFrom 126 = .ok (.aload_n 1, 1) := by decide +kernel
theorem dX0_copyFrom_127 : decode cX0_copyFrom 127 = .ok (.getfield 45, 3) := by decide +kernel
theorem dX0_copyFrom_130 : decode cX0_copyFrom 130 = .ok (.putfield 45, 3) := by decide +kernel
theorem dX0_copyFrom_133 : decode cX0_copyFrom 133 = .ok (.aload_n 0, 1) := by decide +kernel
theorem dX0_copyFrom_134 : decode cX0_copyFrom 134 = .ok (.aload_n 1, 1) := by decide +kernel
theorem dX0_copyFrom_135 : decode cX0_copyFrom 135 = .ok (.getfield 48, 3) := by decide +kernel
theorem dX0_copyFrom_138 : decode cX0_copyFrom 138 = .ok (.putfield 48, 3) := by decide +kernel
theorem dX0_copyFrom_141 : decode cX0_copyFrom 141 = .ok (.return_, 1) := by decide +kernel
theorem dX0_liftAt_0 : decode cX0_liftAt 0 = .ok (.iload_n 1, 1) := by decide +kernel
theorem dX0_liftAt_1 : decode cX0_liftAt 1 = .ok (.ifCond .lt 20, 3) := by decide +kernel
theorem dX0_liftAt_4 : decode cX0_liftAt 4 = .ok (.iload_n 1, 1) := by decide +kernel
theorem dX0_liftAt_5 : decode cX0_liftAt 5 = .ok (.aload_n 0, 1) := by decide +kernel
theorem dX0_liftAt_6 : decode cX0_liftAt 6 = .ok (.getfield 32, 3) := by decide +kernel
theorem dX0_liftAt_9 : decode cX0_liftAt 9 = .ok (.if_icmp .ge 12, 3) := by decide +kernel
theorem dX0_liftAt_12 : decode cX0_liftAt 12 = .ok (.aload_n 0, 1) := by decide +kernel
theorem dX0_liftAt_13 : decode cX0_liftAt 13 = .ok (.getfield 11, 3) := by decide +kernel
theorem dX0_liftAt_16 : decode cX0_liftAt 16 = .ok (.iload_n 1, 1) := by decide +kernel
theorem dX0_liftAt_17 : decode cX0_liftAt 17 = .ok (.aaload, 1) := by decide +kernel
theorem dX0_liftAt_18 : decode cX0_liftAt 18 = .ok (.goto 4, 3) := by decide +kernel
theorem dX0_liftAt_21 : decode cX0_liftAt 21 = .ok (.aconst_null, 1) := by decide +kernel
theorem dX0_liftAt_22 : decode cX0_liftAt 22 = .ok (.areturn, 1) := by decide +kernel
theorem dX0_pisteAt_0 : decode cX0_pisteAt 0 = .ok (.iload_n 1, 1) := by decide +kernel
theorem dX0_pisteAt_1 : decode cX0_pisteAt 1 = .ok (.ifCond .lt 20, 3) := by decide +kernel
theorem dX0_pisteAt_4 : decode cX0_pisteAt 4 = .ok (.iload_n 1, 1) := by decide +kernel
theorem dX0_pisteAt_5 : decode cX0_pisteAt 5 = .ok (.aload_n 0, 1) := by decide +kernel
theorem dX0_pisteAt_6 : decode cX0_pisteAt 6 = .ok (.getfield 36, 3) := by decide +kernel
theorem dX0_pisteAt_9 : decode cX0_pisteAt 9 = .ok (.if_icmp .ge 12, 3) := by decide +kernel
theorem dX0_pisteAt_12 : decode cX0_pisteAt 12 = .ok (.aload_n 0, 1) := by decide +kernel
theorem dX0_pisteAt_13 : decode cX0_pisteAt 13 = .ok (.getfield 20, 3) := by decide +kernel
theorem dX0_pisteAt_16 : decode cX0_pisteAt 16 = .ok (.iload_n 1, 1) := by decide +kernel
theorem dX0_pisteAt_17 : decode cX0_pisteAt 17 = .ok (.aaload, 1) := by decide +kernel
theorem dX0_pisteAt_18 : decode cX0_pisteAt 18 = .ok (.goto 4, 3) := by decide +kernel
theorem dX0_pisteAt_21 : decode cX0_pisteAt 21 = .ok (.aconst_null, 1) := by decide +kernel
theorem dX0_pisteAt_22 : decode cX0_pisteAt 22 = .ok (.areturn, 1) := by decide +kernel
theorem dX0_guestAt_0 : decode cX0_guestAt 0 = .ok (.iload_n 1, 1) := by decide +kernel
theorem dX0_guestAt_1 : decode cX0_guestAt 1 = .ok (.ifCond .lt 20, 3) := by decide +kernel
theorem dX0_guestAt_4 : decode cX0_guestAt 4 = .ok (.iload_n 1, 1) := by decide +kernel
theorem dX0_guestAt_5 : decode cX0_guestAt 5 = .ok (.aload_n 0, 1) := by decide +kernel
theorem dX0_guestAt_6 : decode cX0_guestAt 6 = .ok (.getfield 39, 3) := by decide +kernel
theorem dX0_guestAt_9 : decode cX0_guestAt 9 = .ok (.if_icmp .ge 12, 3) := by decide +kernel
theorem dX0_guestAt_12 : decode cX0_guestAt 12 = .ok (.aload_n 0, 1) := by decide +kernel
theorem dX0_guestAt_13 : decode cX0_guestAt 13 = .ok (.getfield 27, 3) := by decide +kernel
theorem dX0_guestAt_16 : decode cX0_guestAt 16 = .ok (.iload_n 1, 1) := by decide +kernel
theorem dX0_guestAt_17 : decode cX0_guestAt 17 = .ok (.aaload, 1) := by decide +kernel
theorem dX0_guestAt_18 : decode cX0_guestAt 18 = .ok (.goto 4, 3) := by decide +kernel
theorem dX0_guestAt_21 : decode cX0_guestAt 21 = .ok (.aconst_null, 1) := by decide +kernel
theorem dX0_guestAt_22 : decode cX0_guestAt 22 = .ok (.areturn, 1) := by decide +kernel
theorem dX0_speedOf_0 : decode cX0_speedOf 0 = .ok (.aload_n 0, 1) := by decide +kernel
theorem dX0_speedOf_1 : decode cX0_speedOf 1 = .ok (.getfield 42, 3) := by decide +kernel
theorem dX0_speedOf_4 : decode cX0_speedOf 4 = .ok (.aload_n 1, 1) := by decide +kernel
theorem dX0_speedOf_5 : decode cX0_speedOf 5 = .ok (.getfield 61, 3) := by decide +kernel
theorem dX0_speedOf_8 : decode cX0_speedOf 8 = .ok (.iadd, 1) := by decide +kernel
theorem dX0_speedOf_9 : decode cX0_speedOf 9 = .ok (.istore_n 2, 1) := by decide +kernel
theorem dX0_speedOf_10 : decode cX0_speedOf 10 = .ok (.iload_n 2, 1) := by decide +kernel
theorem dX0_speedOf_11 : decode cX0_speedOf 11 = .ok (.bipush 9, 2) := by decide +kernel
theorem dX0_speedOf_13 : decode cX0_speedOf 13 = .ok (.if_icmp .lt 5, 3) := by decide +kernel
theorem dX0_speedOf_16 : decode cX0_speedOf 16 = .ok (.iconst 0, 1) := by decide +kernel
theorem dX0_speedOf_17 : decode cX0_speedOf 17 = .ok (.ireturn, 1) := by decide +kernel
theorem dX0_speedOf_18 : decode cX0_speedOf 18 = .ok (.iload_n 2, 1) := by decide +kernel
theorem dX0_speedOf_19 : decode cX0_speedOf 19 = .ok (.bipush 6, 2) := by decide +kernel
theorem dX0_speedOf_21 : decode cX0_speedOf 21 = .ok (.if_icmp .lt 7, 3) := by decide +kernel
theorem dX0_speedOf_24 : decode cX0_speedOf 24 = .ok (.iconst 1, 1) := by decide +kernel
theorem dX0_speedOf_25 : decode cX0_speedOf 25 = .ok (.goto 4, 3) := by decide +kernel
theorem dX0_speedOf_28 : decode cX0_speedOf 28 = .ok (.iconst 2, 1) := by decide +kernel
theorem dX0_speedOf_29 : decode cX0_speedOf 29 = .ok (.ireturn, 1) := by decide +kernel
theorem dX0_isHeld_0 : decode cX0_isHeld 0 = .ok (.aload_n 0, 1) := by decide +kernel
theorem dX0_isHeld_1 : decode cX0_isHeld 1 = .ok (.aload_n 1, 1) := by decide +kernel
theorem dX0_isHeld_2 : decode cX0_isHeld 2 = .ok (.invokevirtual 64, 3) := by decide +kernel
theorem dX0_isHeld_5 : decode cX0_isHeld 5 = .ok (.ifCond .ne 7, 3) := by decide +kernel
theorem dX0_isHeld_8 : decode cX0_isHeld 8 = .ok (.iconst 1, 1) := by decide +kernel
theorem dX0_isHeld_9 : decode cX0_isHeld 9 = .ok (.goto 4, 3) := by decide +kernel
theorem dX0_isHeld_12 : decode cX0_isHeld 12 = .ok (.iconst 0, 1) := by decide +kernel
theorem dX0_isHeld_13 : decode cX0_isHeld 13 = .ok (.ireturn, 1) := by decide +kernel
theorem dX0_isOpenedFor_0 : decode cX0_isOpenedFor 0 = .ok (.aload_n 1, 1) := by decide +kernel
theorem dX0_isOpenedFor_1 : decode cX0_isOpenedFor 1 = .ok (.getfield 68, 3) := by decide +kernel
theorem dX0_isOpenedFor_4 : decode cX0_isOpenedFor 4 = .ok (.aload_n 2, 1) := by decide +kernel
theorem dX0_isOpenedFor_5 : decode cX0_isOpenedFor 5 = .ok (.getfield 71, 3) := by decide +kernel
theorem dX0_isOpenedFor_8 : decode cX0_isOpenedFor 8 = .ok (.ishr, 1) := by decide +kernel
theorem dX0_isOpenedFor_9 : decode cX0_isOpenedFor 9 = .ok (.iconst 1, 1) := by decide +kernel
theorem dX0_isOpenedFor_10 : decode cX0_isOpenedFor 10 = .ok (.iand, 1) := by decide +kernel
theorem dX0_isOpenedFor_11 : decode cX0_isOpenedFor 11 = .ok (.ifCond .eq 29, 3) := by decide +kernel
theorem dX0_isOpenedFor_14 : decode cX0_isOpenedFor 14 = .ok (.aload_n 1, 1) := by decide +kernel
theorem dX0_isOpenedFor_15 : decode cX0_isOpenedFor 15 = .ok (.getfield 74, 3) := by decide +kernel
theorem dX0_isOpenedFor_18 : decode cX0_isOpenedFor 18 = .ok (.aload_n 0, 1) := by decide +kernel
theorem dX0_isOpenedFor_19 : decode cX0_isOpenedFor 19 = .ok (.getfield 48, 3) := by decide +kernel
theorem dX0_isOpenedFor_22 : decode cX0_isOpenedFor 22 = .ok (.if_icmp .gt 18, 3) := by decide +kernel
theorem dX0_isOpenedFor_25 : decode cX0_isOpenedFor 25 = .ok (.aload_n 0, 1) := by decide +kernel
theorem dX0_isOpenedFor_26 : decode cX0_isOpenedFor 26 = .ok (.getfield 48, 3) := by decide +kernel
theorem dX0_isOpenedFor_29 : decode cX0_isOpenedFor 29 = .ok (.aload_n 1, 1) := by decide +kernel
theorem dX0_isOpenedFor_30 : decode cX0_isOpenedFor 30 = .ok (.getfield 77, 3) := by decide +kernel
theorem dX0_isOpenedFor_33 : decode cX0_isOpenedFor 33 = .ok (.if_icmp .gt 7, 3) := by decide +kernel
theorem dX0_isOpenedFor_36 : decode cX0_isOpenedFor 36 = .ok (.iconst 1, 1) := by decide +kernel
theorem dX0_isOpenedFor_37 : decode cX0_isOpenedFor 37 = .ok (.goto 4, 3) := by decide +kernel
theorem dX0_isOpenedFor_40 : decode cX0_isOpenedFor 40 = .ok (.iconst 0, 1) := by decide +kernel
theorem dX0_isOpenedFor_41 : decode cX0_isOpenedFor 41 = .ok (.ireturn, 1) := by decide +kernel
theorem dX0_isWayFor_0 : decode cX0_isWayFor 0 = .ok (.aload_n 0, 1) := by decide +kernel
theorem dX0_isWayFor_1 : decode cX0_isWayFor 1 = .ok (.aload_n 1, 1) := by decide +kernel
theorem dX0_isWayFor_2 : decode cX0_isWayFor 2 = .ok (.aload_n 2, 1) := by decide +kernel
theorem dX0_isWayFor_3 : decode cX0_isWayFor 3 = .ok (.invokevirtual 80, 3) := by decide +kernel
theorem dX0_isWayFor_6 : decode cX0_isWayFor 6 = .ok (.ifCond .eq 15, 3) := by decide +kernel
theorem dX0_isWayFor_9 : decode cX0_isWayFor 9 = .ok (.aload_n 0, 1) := by decide +kernel
theorem dX0_isWayFor_10 : decode cX0_isWayFor 10 = .ok (.aload_n 2, 1) := by decide +kernel
theorem dX0_isWayFor_11 : decode cX0_isWayFor 11 = .ok (.invokevirtual 84, 3) := by decide +kernel
theorem dX0_isWayFor_14 : decode cX0_isWayFor 14 = .ok (.ifCond .ne 7, 3) := by decide +kernel
theorem dX0_isWayFor_17 : decode cX0_isWayFor 17 = .ok (.iconst 1, 1) := by decide +kernel
theorem dX0_isWayFor_18 : decode cX0_isWayFor 18 = .ok (.goto 4, 3) := by decide +kernel
theorem dX0_isWayFor_21 : decode cX0_isWayFor 21 = .ok (.iconst 0, 1) := by decide +kernel
theorem dX0_isWayFor_22 : decode cX0_isWayFor 22 = .ok (.ireturn, 1) := by decide +kernel
theorem dX0_isWayFor__0 : decode cX0_isWayFor_ 0 = .ok (.aload_n 2, 1) := by decide +kernel
theorem dX0_isWayFor__1 : decode cX0_isWayFor_ 1 = .ok (.getfield 88, 3) := by decide +kernel
theorem dX0_isWayFor__4 : decode cX0_isWayFor_ 4 = .ok (.ifCond .ne 15, 3) := by decide +kernel
theorem dX0_isWayFor__7 : decode cX0_isWayFor_ 7 = .ok (.aload_n 2, 1) := by decide +kernel
theorem dX0_isWayFor__8 : decode cX0_isWayFor_ 8 = .ok (.aload_n 1, 1) := by decide +kernel
theorem dX0_isWayFor__9 : decode cX0_isWayFor_ 9 = .ok (.invokevirtual 91, 3) := by decide +kernel
theorem dX0_isWayFor__12 : decode cX0_isWayFor_ 12 = .ok (.ifCond .ne 7, 3) := by decide +kernel
theorem dX0_isWayFor__15 : decode cX0_isWayFor_ 15 = .ok (.iconst 1, 1) := by decide +kernel
theorem dX0_isWayFor__16 : decode cX0_isWayFor_ 16 = .ok (.goto 4, 3) := by decide +kernel
theorem dX0_isWayFor__19 : decode cX0_isWayFor_ 19 = .ok (.iconst 0, 1) := by decide +kernel
theorem dX0_isWayFor__20 : decode cX0_isWayFor_ 20 = .ok (.ireturn, 1) := by decide +kernel
theorem dX0_heldLifts_0 : decode cX0_heldLifts 0 = .ok (.iconst 0, 1) := by decide +kernel
theorem dX0_heldLifts_1 : decode cX0_heldLifts 1 = .ok (.istore_n 1, 1) := by decide +kernel
theorem dX0_heldLifts_2 : decode cX0_heldLifts 2 = .ok (.iconst 0, 1) := by decide +kernel
theorem dX0_heldLifts_3 : decode cX0_heldLifts 3 = .ok (.istore_n 2, 1) := by decide +kernel
theorem dX0_heldLifts_4 : decode cX0_heldLifts 4 = .ok (.iload_n 2, 1) := by decide +kernel
theorem dX0_heldLifts_5 : decode cX0_heldLifts 5 = .ok (.aload_n 0, 1) := by decide +kernel
theorem dX0_heldLifts_6 : decode cX0_heldLifts 6 = .ok (.getfield 32, 3) := by decide +kernel
theorem dX0_heldLifts_9 : decode cX0_heldLifts 9 = .ok (.if_icmp .ge 28, 3) := by decide +kernel
theorem dX0_heldLifts_12 : decode cX0_heldLifts 12 = .ok (.aload_n 0, 1) := by decide +kernel
theorem dX0_heldLifts_13 : decode cX0_heldLifts 13 = .ok (.aload_n 0, 1) := by decide +kernel
theorem dX0_heldLifts_14 : decode cX0_heldLifts 14 = .ok (.getfield 11, 3) := by decide +kernel
theorem dX0_heldLifts_17 : decode cX0_heldLifts 17 = .ok (.iload_n 2, 1) := by decide +kernel
theorem dX0_heldLifts_18 : decode cX0_heldLifts 18 = .ok (.aaload, 1) := by decide +kernel
theorem dX0_heldLifts_19 : decode cX0_heldLifts 19 = .ok (.invokevirtual 84, 3) := by decide +kernel
theorem dX0_heldLifts_22 : decode cX0_heldLifts 22 = .ok (.ifCond .eq 9, 3) := by decide +kernel
theorem dX0_heldLifts_25 : decode cX0_heldLifts 25 = .ok (.iload_n 1, 1) := by decide +kernel
theorem dX0_heldLifts_26 : decode cX0_heldLifts 26 = .ok (.iconst 1, 1) := by decide +kernel
theorem dX0_heldLifts_27 : decode cX0_heldLifts 27 = .ok (.iload_n 2, 1) := by decide +kernel
theorem dX0_heldLifts_28 : decode cX0_heldLifts 28 = .ok (.ishl, 1) := by decide +kernel
theorem dX0_heldLifts_29 : decode cX0_heldLifts 29 = .ok (.ior, 1) := by decide +kernel
theorem dX0_heldLifts_30 : decode cX0_heldLifts 30 = .ok (.istore_n 1, 1) := by decide +kernel
theorem dX0_heldLifts_31 : decode cX0_heldLifts 31 = .ok (.iinc 2 1, 3) := by decide +kernel
theorem dX0_heldLifts_34 : decode cX0_heldLifts 34 = .ok (.goto (-30), 3) := by decide +kernel
theorem dX0_heldLifts_37 : decode cX0_heldLifts 37 = .ok (.iload_n 1, 1) := by decide +kernel
theorem dX0_heldLifts_38 : decode cX0_heldLifts 38 = .ok (.ireturn, 1) := by decide +kernel
theorem dX0_liftsOpenedFor_0 : decode cX0_liftsOpenedFor 0 = .ok (.iconst 0, 1) := by decide +kernel
theorem dX0_liftsOpenedFor_1 : decode cX0_liftsOpenedFor 1 = .ok (.istore_n 2, 1) := by decide +kernel
theorem dX0_liftsOpenedFor_2 : decode cX0_liftsOpenedFor 2 = .ok (.iconst 0, 1) := by decide +kernel
theorem dX0_liftsOpenedFor_3 : decode cX0_liftsOpenedFor 3 = .ok (.istore_n 3, 1) := by decide +kernel
theorem dX0_liftsOpenedFor_4 : decode cX0_liftsOpenedFor 4 = .ok (.iload_n 3, 1) := by decide +kernel
theorem dX0_liftsOpenedFor_5 : decode cX0_liftsOpenedFor 5 = .ok (.aload_n 0, 1) := by decide +kernel
theorem dX0_liftsOpenedFor_6 : decode cX0_liftsOpenedFor 6 = .ok (.getfield 32, 3) := by decide +kernel
theorem dX0_liftsOpenedFor_9 : decode cX0_liftsOpenedFor 9 = .ok (.if_icmp .ge 29, 3) := by decide +kernel
theorem dX0_liftsOpenedFor_12 : decode cX0_liftsOpenedFor 12 = .ok (.aload_n 0, 1) := by decide +kernel
theorem dX0_liftsOpenedFor_13 : decode cX0_liftsOpenedFor 13 = .ok (.aload_n 1, 1) := by decide +kernel
theorem dX0_liftsOpenedFor_14 : decode cX0_liftsOpenedFor 14 = .ok (.aload_n 0, 1) := by decide +kernel
theorem dX0_liftsOpenedFor_15 : decode cX0_liftsOpenedFor 15 = .ok (.getfield 11, 3) := by decide +kernel
theorem dX0_liftsOpenedFor_18 : decode cX0_liftsOpenedFor 18 = .ok (.iload_n 3, 1) := by decide +kernel
theorem dX0_liftsOpenedFor_19 : decode cX0_liftsOpenedFor 19 = .ok (.aaload, 1) := by decide +kernel
theorem dX0_liftsOpenedFor_20 : decode cX0_liftsOpenedFor 20 = .ok (.invokevirtual 80, 3) := by decide +kernel
theorem dX0_liftsOpenedFor_23 : decode cX0_liftsOpenedFor 23 = .ok (.ifCond .eq 9, 3) := by decide +kernel
theorem dX0_liftsOpenedFor_26 : decode cX0_liftsOpenedFor 26 = .ok (.iload_n 2, 1) := by decide +kernel
theorem dX0_liftsOpenedFor_27 : decode cX0_liftsOpenedFor 27 = .ok (.iconst 1, 1) := by decide +kernel
theorem dX0_liftsOpenedFor_28 : decode cX0_liftsOpenedFor 28 = .ok (.iload_n 3, 1) := by decide +kernel
theorem dX0_liftsOpenedFor_29 : decode cX0_liftsOpenedFor 29 = .ok (.ishl, 1) := by decide +kernel
theorem dX0_liftsOpenedFor_30 : decode cX0_liftsOpenedFor 30 = .ok (.ior, 1) := by decide +kernel
theorem dX0_liftsOpenedFor_31 : decode cX0_liftsOpenedFor 31 = .ok (.istore_n 2, 1) := by decide +kernel
theorem dX0_liftsOpenedFor_32 : decode cX0_liftsOpenedFor 32 = .ok (.iinc 3 1, 3) := by decide +kernel
theorem dX0_liftsOpenedFor_35 : decode cX0_liftsOpenedFor 35 = .ok (.goto (-31), 3) := by decide +kernel
theorem dX0_liftsOpenedFor_38 : decode cX0_liftsOpenedFor 38 = .ok (.iload_n 2, 1) := by decide +kernel
theorem dX0_liftsOpenedFor_39 : decode cX0_liftsOpenedFor 39 = .ok (.ireturn, 1) := by decide +kernel
theorem dX0_openPistes_0 : decode cX0_openPistes 0 = .ok (.iconst 0, 1) := by decide +kernel
theorem dX0_openPistes_1 : decode cX0_openPistes 1 = .ok (.istore_n 1, 1) := by decide +kernel
theorem dX0_openPistes_2 : decode cX0_openPistes 2 = .ok (.iconst 0, 1) := by decide +kernel
theorem dX0_openPistes_3 : decode cX0_openPistes 3 = .ok (.istore_n 2, 1) := by decide +kernel
theorem dX0_openPistes_4 : decode cX0_openPistes 4 = .ok (.iload_n 2, 1) := by decide +kernel
theorem dX0_openPistes_5 : decode cX0_openPistes 5 = .ok (.aload_n 0, 1) := by decide +kernel
theorem dX0_openPistes_6 : decode cX0_openPistes 6 = .ok (.getfield 36, 3) := by decide +kernel
theorem dX0_openPistes_9 : decode cX0_openPistes 9 = .ok (.if_icmp .ge 24, 3) := by decide +kernel
theorem dX0_openPistes_12 : decode cX0_openPistes 12 = .ok (.aload_n 0, 1) := by decide +kernel
theorem dX0_openPistes_13 : decode cX0_openPistes 13 = .ok (.getfield 20, 3) := by decide +kernel
theorem dX0_openPistes_16 : decode cX0_openPistes 16 = .ok (.iload_n 2, 1) := by decide +kernel
theorem dX0_openPistes_17 : decode cX0_openPistes 17 = .ok (.aaload, 1) := by decide +kernel
theorem dX0_openPistes_18 : decode cX0_openPistes 18 = .ok (.getfield 88, 3) := by decide +kernel
theorem dX0_openPistes_21 : decode cX0_openPistes 21 = .ok (.ifCond .ne 6, 3) := by decide +kernel
theorem dX0_openPistes_24 : decode cX0_openPistes 24 = .ok (.iinc 1 1, 3) := by decide +kernel
theorem dX0_openPistes_27 : decode cX0_openPistes 27 = .ok (.iinc 2 1, 3) := by decide +kernel
theorem dX0_openPistes_30 : decode cX0_openPistes 30 = .ok (.goto (-26), 3) := by decide +kernel
theorem dX0_openPistes_33 : decode cX0_openPistes 33 = .ok (.iload_n 1, 1) := by decide +kernel
theorem dX0_openPistes_34 : decode cX0_openPistes 34 = .ok (.ireturn, 1) := by decide +kernel
theorem dX0_guestsIn_0 : decode cX0_guestsIn 0 = .ok (.iconst 0, 1) := by decide +kernel
theorem dX0_guestsIn_1 : decode cX0_guestsIn 1 = .ok (.istore_n 2, 1) := by decide +kernel
theorem dX0_guestsIn_2 : decode cX0_guestsIn 2 = .ok (.iconst 0, 1) := by decide +kernel
theorem dX0_guestsIn_3 : decode cX0_guestsIn 3 = .ok (.istore_n 3, 1) := by decide +kernel
theorem dX0_guestsIn_4 : decode cX0_guestsIn 4 = .ok (.iload_n 3, 1) := by decide +kernel
theorem dX0_guestsIn_5 : decode cX0_guestsIn 5 = .ok (.aload_n 0, 1) := by decide +kernel
theorem dX0_guestsIn_6 : decode cX0_guestsIn 6 = .ok (.getfield 39, 3) := by decide +kernel
theorem dX0_guestsIn_9 : decode cX0_guestsIn 9 = .ok (.if_icmp .ge 25, 3) := by decide +kernel
theorem dX0_guestsIn_12 : decode cX0_guestsIn 12 = .ok (.aload_n 0, 1) := by decide +kernel
theorem dX0_guestsIn_13 : decode cX0_guestsIn 13 = .ok (.getfield 27, 3) := by decide +kernel
theorem dX0_guestsIn_16 : decode cX0_guestsIn 16 = .ok (.iload_n 3, 1) := by decide +kernel
theorem dX0_guestsIn_17 : decode cX0_guestsIn 17 = .ok (.aaload, 1) := by decide +kernel
theorem dX0_guestsIn_18 : decode cX0_guestsIn 18 = .ok (.getfield 95, 3) := by decide +kernel
theorem dX0_guestsIn_21 : decode cX0_guestsIn 21 = .ok (.iload_n 1, 1) := by decide +kernel
theorem dX0_guestsIn_22 : decode cX0_guestsIn 22 = .ok (.if_icmp .ne 6, 3) := by decide +kernel
theorem dX0_guestsIn_25 : decode cX0_guestsIn 25 = .ok (.iinc 2 1, 3) := by decide +kernel
theorem dX0_guestsIn_28 : decode cX0_guestsIn 28 = .ok (.iinc 3 1, 3) := by decide +kernel
theorem dX0_guestsIn_31 : decode cX0_guestsIn 31 = .ok (.goto (-27), 3) := by decide +kernel
theorem dX0_guestsIn_34 : decode cX0_guestsIn 34 = .ok (.iload_n 2, 1) := by decide +kernel
theorem dX0_guestsIn_35 : decode cX0_guestsIn 35 = .ok (.ireturn, 1) := by decide +kernel
theorem dX0_guestsWith_0 : decode cX0_guestsWith 0 = .ok (.iconst 0, 1) := by decide +kernel
theorem dX0_guestsWith_1 : decode cX0_guestsWith 1 = .ok (.istore_n 3, 1) := by decide +kernel
theorem dX0_guestsWith_2 : decode cX0_guestsWith 2 = .ok (.iconst 0, 1) := by decide +kernel
theorem dX0_guestsWith_3 : decode cX0_guestsWith 3 = .ok (.istore 4, 2) := by decide +kernel
theorem dX0_guestsWith_5 : decode cX0_guestsWith 5 = .ok (.iload 4, 2) := by decide +kernel
theorem dX0_guestsWith_7 : decode cX0_guestsWith 7 = .ok (.aload_n 0, 1) := by decide +kernel
theorem dX0_guestsWith_8 : decode cX0_guestsWith 8 = .ok (.getfield 39, 3) := by decide +kernel
theorem dX0_guestsWith_11 : decode cX0_guestsWith 11 = .ok (.if_icmp .ge 27, 3) := by decide +kernel
theorem dX0_guestsWith_14 : decode cX0_guestsWith 14 = .ok (.aload_n 0, 1) := by decide +kernel
theorem dX0_guestsWith_15 : decode cX0_guestsWith 15 = .ok (.getfield 27, 3) := by decide +kernel
theorem dX0_guestsWith_18 : decode cX0_guestsWith 18 = .ok (.iload 4, 2) := by decide +kernel
theorem dX0_guestsWith_20 : decode cX0_guestsWith 20 = .ok (.aaload, 1) := by decide +kernel
theorem dX0_guestsWith_21 : decode cX0_guestsWith 21 = .ok (.iload_n 1, 1) := by decide +kernel
theorem dX0_guestsWith_22 : decode cX0_guestsWith 22 = .ok (.iload_n 2, 1) := by decide +kernel
theorem dX0_guestsWith_23 : decode cX0_guestsWith 23 = .ok (.invokevirtual 96, 3) := by decide +kernel
theorem dX0_guestsWith_26 : decode cX0_guestsWith 26 = .ok (.ifCond .eq 6, 3) := by decide +kernel
theorem dX0_guestsWith_29 : decode cX0_guestsWith 29 = .ok (.iinc 3 1, 3) := by decide +kernel
theorem dX0_guestsWith_32 : decode cX0_guestsWith 32 = .ok (.iinc 4 1, 3) := by decide +kernel
theorem dX0_guestsWith_35 : decode cX0_guestsWith 35 = .ok (.goto (-30), 3) := by decide +kernel
theorem dX0_guestsWith_38 : decode cX0_guestsWith 38 = .ok (.iload_n 3, 1) := by decide +kernel
theorem dX0_guestsWith_39 : decode cX0_guestsWith 39 = .ok (.ireturn, 1) := by decide +kernel
theorem dX0_guestInQueue_0 : decode cX0_guestInQueue 0 = .ok (.iconst 0, 1) := by decide +kernel
theorem dX0_guestInQueue_1 : decode cX0_guestInQueue 1 = .ok (.istore_n 3, 1) := by decide +kernel
theorem dX0_guestInQueue_2 : decode cX0_guestInQueue 2 = .ok (.iload_n 3, 1) := by decide +kernel
theorem dX0_guestInQueue_3 : decode cX0_guestInQueue 3 = .ok (.aload_n 0, 1) := by decide +kernel
theorem dX0_guestInQueue_4 : decode cX0_guestInQueue 4 = .ok (.getfield 39, 3) := by decide +kernel
theorem dX0_guestInQueue_7 : decode cX0_guestInQueue 7 = .ok (.if_icmp .ge 38, 3) := by decide +kernel
theorem dX0_guestInQueue_10 : decode cX0_guestInQueue 10 = .ok (.aload_n 0, 1) := by decide +kernel
theorem dX0_guestInQueue_11 : decode cX0_guestInQueue 11 = .ok (.getfield 27, 3) := by decide +kernel
theorem dX0_guestInQueue_14 : decode cX0_guestInQueue 14 = .ok (.iload_n 3, 1) := by decide +kernel
theorem dX0_guestInQueue_15 : decode cX0_guestInQueue 15 = .ok (.aaload, 1) := by decide +kernel
theorem dX0_guestInQueue_16 : decode cX0_guestInQueue 16 = .ok (.iconst 1, 1) := by decide +kernel
theorem dX0_guestInQueue_17 : decode cX0_guestInQueue 17 = .ok (.iload_n 1, 1) := by decide +kernel
theorem dX0_guestInQueue_18 : decode cX0_guestInQueue 18 = .ok (.invokevirtual 96, 3) := by decide +kernel
theorem dX0_guestInQueue_21 : decode cX0_guestInQueue 21 = .ok (.ifCond .eq 18, 3) := by decide +kernel
theorem dX0_guestInQueue_24 : decode cX0_guestInQueue 24 = .ok (.aload_n 0, 1) := by decide +kernel
theorem dX0_guestInQueue_25 : decode cX0_guestInQueue 25 = .ok (.getfield 27, 3) := by decide +kernel
theorem dX0_guestInQueue_28 : decode cX0_guestInQueue 28 = .ok (.iload_n 3, 1) := by decide +kernel
theorem dX0_guestInQueue_29 : decode cX0_guestInQueue 29 = .ok (.aaload, 1) := by decide +kernel
theorem dX0_guestInQueue_30 : decode cX0_guestInQueue 30 = .ok (.getfield 100, 3) := by decide +kernel
theorem dX0_guestInQueue_33 : decode cX0_guestInQueue 33 = .ok (.iload_n 2, 1) := by decide +kernel
theorem dX0_guestInQueue_34 : decode cX0_guestInQueue 34 = .ok (.if_icmp .ne 5, 3) := by decide +kernel
theorem dX0_guestInQueue_37 : decode cX0_guestInQueue 37 = .ok (.iload_n 3, 1) := by decide +kernel
theorem dX0_guestInQueue_38 : decode cX0_guestInQueue 38 = .ok (.ireturn, 1) := by decide +kernel
theorem dX0_guestInQueue_39 : decode cX0_guestInQueue 39 = .ok (.iinc 3 1, 3) := by decide +kernel
theorem dX0_guestInQueue_42 : decode cX0_guestInQueue 42 = .ok (.goto (-40), 3) := by decide +kernel
theorem dX0_guestInQueue_45 : decode cX0_guestInQueue 45 = .ok (.iconst (-1), 1) := by decide +kernel
theorem dX0_guestInQueue_46 : decode cX0_guestInQueue 46 = .ok (.ireturn, 1) := by decide +kernel
theorem dX0_welcome_0 : decode cX0_welcome 0 = .ok (.aload_n 0, 1) := by decide +kernel
theorem dX0_welcome_1 : decode cX0_welcome 1 = .ok (.getfield 39, 3) := by decide +kernel
theorem dX0_welcome_4 : decode cX0_welcome 4 = .ok (.bipush 16, 2) := by decide +kernel
theorem dX0_welcome_6 : decode cX0_welcome 6 = .ok (.if_icmp .lt 5, 3) := by decide +kernel
theorem dX0_welcome_9 : decode cX0_welcome 9 = .ok (.iconst (-1), 1) := by decide +kernel
theorem dX0_welcome_10 : decode cX0_welcome 10 = .ok (.ireturn, 1) := by decide +kernel
theorem dX0_welcome_11 : decode cX0_welcome 11 = .ok (.aload_n 0, 1) := by decide +kernel
theorem dX0_welcome_12 : decode cX0_welcome 12 = .ok (.getfield 27, 3) := by decide +kernel
theorem dX0_welcome_15 : decode cX0_welcome 15 = .ok (.aload_n 0, 1) := by decide +kernel
theorem dX0_welcome_16 : decode cX0_welcome 16 = .ok (.getfield 39, 3) := by decide +kernel
theorem dX0_welcome_19 : decode cX0_welcome 19 = .ok (.aaload, 1) := by decide +kernel
theorem dX0_welcome_20 : decode cX0_welcome 20 = .ok (.iload_n 1, 1) := by decide +kernel
theorem dX0_welcome_21 : decode cX0_welcome 21 = .ok (.iload_n 2, 1) := by decide +kernel
theorem dX0_welcome_22 : decode cX0_welcome 22 = .ok (.iload_n 3, 1) := by decide +kernel
theorem dX0_welcome_23 : decode cX0_welcome 23 = .ok (.iload 4, 2) := by decide +kernel
theorem dX0_welcome_25 : decode cX0_welcome 25 = .ok (.iload 5, 2) := by decide +kernel
theorem dX0_welcome_27 : decode cX0_welcome 27 = .ok (.invokevirtual 103, 3) := by decide +kernel
theorem dX0_welcome_30 : decode cX0_welcome 30 = .ok (.aload_n 0, 1) := by decide +kernel
theorem dX0_welcome_31 : decode cX0_welcome 31 = .ok (.dup, 1) := by decide +kernel
theorem dX0_welcome_32 : decode cX0_welcome 32 = .ok (.getfield 39, 3) := by decide +kernel
theorem dX0_welcome_35 : decode cX0_welcome 35 = .ok (.iconst 1, 1) := by decide +kernel
theorem dX0_welcome_36 : decode cX0_welcome 36 = .ok (.iadd, 1) := by decide +kernel
theorem dX0_welcome_37 : decode cX0_welcome 37 = .ok (.putfield 39, 3) := by decide +kernel
theorem dX0_welcome_40 : decode cX0_welcome 40 = .ok (.aload_n 0, 1) := by decide +kernel
theorem dX0_welcome_41 : decode cX0_welcome 41 = .ok (.getfield 39, 3) := by decide +kernel
theorem dX0_welcome_44 : decode cX0_welcome 44 = .ok (.iconst 1, 1) := by decide +kernel
theorem dX0_welcome_45 : decode cX0_welcome 45 = .ok (.isub, 1) := by decide +kernel
theorem dX0_welcome_46 : decode cX0_welcome 46 = .ok (.ireturn, 1) := by decide +kernel
theorem dX0_queueRefusal_0 : decode cX0_queueRefusal 0 = .ok (.aload_n 1, 1) := by decide +kernel
theorem dX0_queueRefusal_1 : decode cX0_queueRefusal 1 = .ok (.getfield 95, 3) := by decide +kernel
theorem dX0_queueRefusal_4 : decode cX0_queueRefusal 4 = .ok (.ifCond .eq 5, 3) := by decide +kernel
theorem dX0_queueRefusal_7 : decode cX0_queueRefusal 7 = .ok (.iconst 1, 1) := by decide +kernel
theorem dX0_queueRefusal_8 : decode cX0_queueRefusal 8 = .ok (.ireturn, 1) := by decide +kernel
theorem dX0_queueRefusal_9 : decode cX0_queueRefusal 9 = .ok (.aload_n 1, 1) := by decide +kernel
theorem dX0_queueRefusal_10 : decode cX0_queueRefusal 10 = .ok (.getfield 107, 3) := by decide +kernel
theorem dX0_queueRefusal_13 : decode cX0_queueRefusal 13 = .ok (.aload_n 2, 1) := by decide +kernel
theorem dX0_queueRefusal_14 : decode cX0_queueRefusal 14 = .ok (.getfield 110, 3) := by decide +kernel
theorem dX0_queueRefusal_17 : decode cX0_queueRefusal 17 = .ok (.if_icmp .eq 5, 3) := by decide +kernel
theorem dX0_queueRefusal_20 : decode cX0_queueRefusal 20 = .ok (.iconst 2, 1) := by decide +kernel
theorem dX0_queueRefusal_21 : decode cX0_queueRefusal 21 = .ok (.ireturn, 1) := by decide +kernel
theorem dX0_queueRefusal_22 : decode cX0_queueRefusal 22 = .ok (.aload_n 0, 1) := by decide +kernel
theorem dX0_queueRefusal_23 : decode cX0_queueRefusal 23 = .ok (.aload_n 1, 1) := by decide +kernel
theorem dX0_queueRefusal_24 : decode cX0_queueRefusal 24 = .ok (.aload_n 2, 1) := by decide +kernel
theorem dX0_queueRefusal_25 : decode cX0_queueRefusal 25 = .ok (.invokevirtual 80, 3) := by decide +kernel
theorem dX0_queueRefusal_28 : decode cX0_queueRefusal 28 = .ok (.ifCond .ne 5, 3) := by decide +kernel
theorem dX0_queueRefusal_31 : decode cX0_queueRefusal 31 = .ok (.iconst 3, 1) := by decide +kernel
theorem dX0_queueRefusal_32 : decode cX0_queueRefusal 32 = .ok (.ireturn, 1) := by decide +kernel
theorem dX0_queueRefusal_33 : decode cX0_queueRefusal 33 = .ok (.aload_n 0, 1) := by decide +kernel
theorem dX0_queueRefusal_34 : decode cX0_queueRefusal 34 = .ok (.aload_n 2, 1) := by decide +kernel
theorem dX0_queueRefusal_35 : decode cX0_queueRefusal 35 = .ok (.invokevirtual 84, 3) := by decide +kernel
theorem dX0_queueRefusal_38 : decode cX0_queueRefusal 38 = .ok (.ifCond .eq 5, 3) := by decide +kernel
theorem dX0_queueRefusal_41 : decode cX0_queueRefusal 41 = .ok (.iconst 4, 1) := by decide +kernel
theorem dX0_queueRefusal_42 : decode cX0_queueRefusal 42 = .ok (.ireturn, 1) := by decide +kernel
theorem dX0_queueRefusal_43 : decode cX0_queueRefusal 43 = .ok (.aload_n 0, 1) := by decide +kernel
theorem dX0_queueRefusal_44 : decode cX0_queueRefusal 44 = .ok (.iconst 1, 1) := by decide +kernel
theorem dX0_queueRefusal_45 : decode cX0_queueRefusal 45 = .ok (.iload_n 3, 1) := by decide +kernel
theorem dX0_queueRefusal_46 : decode cX0_queueRefusal 46 = .ok (.invokevirtual 113, 3) := by decide +kernel
theorem dX0_queueRefusal_49 : decode cX0_queueRefusal 49 = .ok (.bipush 10, 2) := by decide +kernel
theorem dX0_queueRefusal_51 : decode cX0_queueRefusal 51 = .ok (.if_icmp .lt 7, 3) := by decide +kernel
theorem dX0_queueRefusal_54 : decode cX0_queueRefusal 54 = .ok (.iconst 5, 1) := by decide +kernel
theorem dX0_queueRefusal_55 : decode cX0_queueRefusal 55 = .ok (.goto 4, 3) := by decide +kernel
theorem dX0_queueRefusal_58 : decode cX0_queueRefusal 58 = .ok (.iconst 0, 1) := by decide +kernel
theorem dX0_queueRefusal_59 : decode cX0_queueRefusal 59 = .ok (.ireturn, 1) := by decide +kernel
theorem dX0_skiRefusal_0 : decode cX0_skiRefusal 0 = .ok (.aload_n 1, 1) := by decide +kernel
theorem dX0_skiRefusal_1 : decode cX0_skiRefusal 1 = .ok (.getfield 95, 3) := by decide +kernel
theorem dX0_skiRefusal_4 : decode cX0_skiRefusal 4 = .ok (.ifCond .eq 5, 3) := by decide +kernel
theorem dX0_skiRefusal_7 : decode cX0_skiRefusal 7 = .ok (.iconst 1, 1) := by decide +kernel
theorem dX0_skiRefusal_8 : decode cX0_skiRefusal 8 = .ok (.ireturn, 1) := by decide +kernel
theorem dX0_skiRefusal_9 : decode cX0_skiRefusal 9 = .ok (.aload_n 1, 1) := by decide +kernel
theorem dX0_skiRefusal_10 : decode cX0_skiRefusal 10 = .ok (.getfield 107, 3) := by decide +kernel
theorem dX0_skiRefusal_13 : decode cX0_skiRefusal 13 = .ok (.aload_n 2, 1) := by decide +kernel
theorem dX0_skiRefusal_14 : decode cX0_skiRefusal 14 = .ok (.getfield 117, 3) := by decide +kernel
theorem dX0_skiRefusal_17 : decode cX0_skiRefusal 17 = .ok (.if_icmp .eq 5, 3) := by decide +kernel
theorem dX0_skiRefusal_20 : decode cX0_skiRefusal 20 = .ok (.iconst 2, 1) := by decide +kernel
theorem dX0_skiRefusal_21 : decode cX0_skiRefusal 21 = .ok (.ireturn, 1) := by decide +kernel
theorem dX0_skiRefusal_22 : decode cX0_skiRefusal 22 = .ok (.aload_n 2, 1) := by decide +kernel
theorem dX0_skiRefusal_23 : decode cX0_skiRefusal 23 = .ok (.getfield 88, 3) := by decide +kernel
theorem dX0_skiRefusal_26 : decode cX0_skiRefusal 26 = .ok (.ifCond .eq 6, 3) := by decide +kernel
theorem dX0_skiRefusal_29 : decode cX0_skiRefusal 29 = .ok (.bipush 6, 2) := by decide +kernel
theorem dX0_skiRefusal_31 : decode cX0_skiRefusal 31 = .ok (.ireturn, 1) := by decide +kernel
theorem dX0_skiRefusal_32 : decode cX0_skiRefusal 32 = .ok (.aload_n 2, 1) := by decide +kernel
theorem dX0_skiRefusal_33 : decode cX0_skiRefusal 33 = .ok (.aload_n 1, 1) := by decide +kernel
theorem dX0_skiRefusal_34 : decode cX0_skiRefusal 34 = .ok (.invokevirtual 91, 3) := by decide +kernel
theorem dX0_skiRefusal_37 : decode cX0_skiRefusal 37 = .ok (.ifCond .eq 8, 3) := by decide +kernel
theorem dX0_skiRefusal_40 : decode cX0_skiRefusal 40 = .ok (.bipush 7, 2) := by decide +kernel
theorem dX0_skiRefusal_42 : decode cX0_skiRefusal 42 = .ok (.goto 4, 3) := by decide +kernel
theorem dX0_skiRefusal_45 : decode cX0_skiRefusal 45 = .ok (.iconst 0, 1) := by decide +kernel
theorem dX0_skiRefusal_46 : decode cX0_skiRefusal 46 = .ok (.ireturn, 1) := by decide +kernel
theorem dX0_joinQueue_0 : decode cX0_joinQueue 0 = .ok (.aload_n 1, 1) := by decide +kernel
theorem dX0_joinQueue_1 : decode cX0_joinQueue 1 = .ok (.iconst 1, 1) := by decide +kernel
theorem dX0_joinQueue_2 : decode cX0_joinQueue 2 = .ok (.iload_n 2, 1) := by decide +kernel
theorem dX0_joinQueue_3 : decode cX0_joinQueue 3 = .ok (.iconst 0, 1) := by decide +kernel
theorem dX0_joinQueue_4 : decode cX0_joinQueue 4 = .ok (.aload_n 0, 1) := by decide +kernel
theorem dX0_joinQueue_5 : decode cX0_joinQueue 5 = .ok (.iconst 1, 1) := by decide +kernel
theorem dX0_joinQueue_6 : decode cX0_joinQueue 6 = .ok (.iload_n 2, 1) := by decide +kernel
theorem dX0_joinQueue_7 : decode cX0_joinQueue 7 = .ok (.invokevirtual 113, 3) := by decide +kernel
theorem dX0_joinQueue_10 : decode cX0_joinQueue 10 = .ok (.invokevirtual 120, 3) := by decide +kernel
theorem dX0_joinQueue_13 : decode cX0_joinQueue 13 = .ok (.aload_n 1, 1) := by decide +kernel
theorem dX0_joinQueue_14 : decode cX0_joinQueue 14 = .ok (.getfield 100, 3) := by decide +kernel
theorem dX0_joinQueue_17 : decode cX0_joinQueue 17 = .ok (.ireturn, 1) := by decide +kernel
theorem dX0_leaveQueue_0 : decode cX0_leaveQueue 0 = .ok (.aload_n 0, 1) := by decide +kernel
theorem dX0_leaveQueue_1 : decode cX0_leaveQueue 1 = .ok (.aload_n 1, 1) := by decide +kernel
theorem dX0_leaveQueue_2 : decode cX0_leaveQueue 2 = .ok (.getfield 107, 3) := by decide +kernel
theorem dX0_leaveQueue_5 : decode cX0_leaveQueue 5 = .ok (.invokevirtual 124, 3) := by decide +kernel
theorem dX0_leaveQueue_8 : decode cX0_leaveQueue 8 = .ok (.astore_n 2, 1) := by decide +kernel
theorem dX0_leaveQueue_9 : decode cX0_leaveQueue 9 = .ok (.aload_n 2, 1) := by decide +kernel
theorem dX0_leaveQueue_10 : decode cX0_leaveQueue 10 = .ok (.ifnonnull 4, 3) := by decide +kernel
theorem dX0_leaveQueue_13 : decode cX0_leaveQueue 13 = .ok (.return_, 1) := by decide +kernel
theorem dX0_leaveQueue_14 : decode cX0_leaveQueue 14 = .ok (.iconst 0, 1) := by decide +kernel
theorem dX0_leaveQueue_15 : decode cX0_leaveQueue 15 = .ok (.istore_n 3, 1) := by decide +kernel
theorem dX0_leaveQueue_16 : decode cX0_leaveQueue 16 = .ok (.iload_n 3, 1) := by decide +kernel
theorem dX0_leaveQueue_17 : decode cX0_leaveQueue 17 = .ok (.aload_n 0, 1) := by decide +kernel
theorem dX0_leaveQueue_18 : decode cX0_leaveQueue 18 = .ok (.getfield 39, 3) := by decide +kernel
theorem dX0_leaveQueue_21 : decode cX0_leaveQueue 21 = .ok (.if_icmp .ge 57, 3) := by decide +kernel
theorem dX0_leaveQueue_24 : decode cX0_leaveQueue 24 = .ok (.aload_n 0, 1) := by decide +kernel
theorem dX0_leaveQueue_25 : decode cX0_leaveQueue 25 = .ok (.getfield 27, 3) := by decide +kernel
theorem dX0_leaveQueue_28 : decode cX0_leaveQueue 28 = .ok (.iload_n 3, 1) := by decide +kernel
theorem dX0_leaveQueue_29 : decode cX0_leaveQueue 29 = .ok (.aaload, 1) := by decide +kernel
theorem dX0_leaveQueue_30 : decode cX0_leaveQueue 30 = .ok (.iconst 1, 1) := by decide +kernel
theorem dX0_leaveQueue_31 : decode cX0_leaveQueue 31 = .ok (.aload_n 1, 1) := by decide +kernel
theorem dX0_leaveQueue_32 : decode cX0_leaveQueue 32 = .ok (.getfield 107, 3) := by decide +kernel
theorem dX0_leaveQueue_35 : decode cX0_leaveQueue 35 = .ok (.invokevirtual 96, 3) := by decide +kernel
theorem dX0_leaveQueue_38 : decode cX0_leaveQueue 38 = .ok (.ifCond .eq 34, 3) := by decide +kernel
theorem dX0_leaveQueue_41 : decode cX0_leaveQueue 41 = .ok (.aload_n 0, 1) := by decide +kernel
theorem dX0_leaveQueue_42 : decode cX0_leaveQueue 42 = .ok (.getfield 27, 3) := by decide +kernel
theorem dX0_leaveQueue_45 : decode cX0_leaveQueue 45 = .ok (.iload_n 3, 1) := by decide +kernel
theorem dX0_leaveQueue_46 : decode cX0_leaveQueue 46 = .ok (.aaload, 1) := by decide +kernel
theorem dX0_leaveQueue_47 : decode cX0_leaveQueue 47 = .ok (.getfield 100, 3) := by decide +kernel
theorem dX0_leaveQueue_50 : decode cX0_leaveQueue 50 = .ok (.aload_n 1, 1) := by decide +kernel
theorem dX0_leaveQueue_51 : decode cX0_leaveQueue 51 = .ok (.getfield 100, 3) := by decide +kernel
theorem dX0_leaveQueue_54 : decode cX0_leaveQueue 54 = .ok (.if_icmp .le 18, 3) := by decide +kernel
theorem dX0_leaveQueue_57 : decode cX0_leaveQueue 57 = .ok (.aload_n 0, 1) := by decide +kernel
theorem dX0_leaveQueue_58 : decode cX0_leaveQueue 58 = .ok (.getfield 27, 3) := by decide +kernel
theorem dX0_leaveQueue_61 : decode cX0_leaveQueue 61 = .ok (.iload_n 3, 1) := by decide +kernel
theorem dX0_leaveQueue_62 : decode cX0_leaveQueue 62 = .ok (.aaload, 1) := by decide +kernel
theorem dX0_leaveQueue_63 : decode cX0_leaveQueue 63 = .ok (.dup, 1) := by decide +kernel
theorem dX0_leaveQueue_64 : decode cX0_leaveQueue 64 = .ok (.getfield 100, 3) := by decide +kernel
theorem dX0_leaveQueue_67 : decode cX0_leaveQueue 67 = .ok (.iconst 1, 1) := by decide +kernel
theorem dX0_leaveQueue_68 : decode cX0_leaveQueue 68 = .ok (.isub, 1) := by decide +kernel
theorem dX0_leaveQueue_69 : decode cX0_leaveQueue 69 = .ok (.putfield 100, 3) := by decide +kernel
theorem dX0_leaveQueue_72 : decode cX0_leaveQueue 72 = .ok (.iinc 3 1, 3) := by decide +kernel
theorem dX0_leaveQueue_75 : decode cX0_leaveQueue 75 = .ok (.goto (-59), 3) := by decide +kernel
theorem dX0_leaveQueue_78 : decode cX0_leaveQueue 78 = .ok (.aload_n 1, 1) := by decide +kernel
theorem dX0_leaveQueue_79 : decode cX0_leaveQueue 79 = .ok (.aload_n 2, 1) := by decide +kernel
theorem dX0_leaveQueue_80 : decode cX0_leaveQueue 80 = .ok (.getfield 110, 3) := by decide +kernel
theorem dX0_leaveQueue_83 : decode cX0_leaveQueue 83 = .ok (.invokevirtual 128, 3) := by decide +kernel
theorem dX0_leaveQueue_86 : decode cX0_leaveQueue 86 = .ok (.return_, 1) := by decide +kernel
theorem dX0_startPiste_0 : decode cX0_startPiste 0 = .ok (.aload_n 1, 1) := by decide +kernel
theorem dX0_startPiste_1 : decode cX0_startPiste 1 = .ok (.iconst 3, 1) := by decide +kernel
theorem dX0_startPiste_2 : decode cX0_startPiste 2 = .ok (.iload_n 3, 1) := by decide +kernel
theorem dX0_startPiste_3 : decode cX0_startPiste 3 = .ok (.aload_n 2, 1) := by decide +kernel
theorem dX0_startPiste_4 : decode cX0_startPiste 4 = .ok (.aload_n 1, 1) := by decide +kernel
theorem dX0_startPiste_5 : decode cX0_startPiste 5 = .ok (.invokevirtual 132, 3) := by decide +kernel
theorem dX0_startPiste_8 : decode cX0_startPiste 8 = .ok (.iconst 0, 1) := by decide +kernel
theorem dX0_startPiste_9 : decode cX0_startPiste 9 = .ok (.invokevirtual 120, 3) := by decide +kernel
theorem dX0_startPiste_12 : decode cX0_startPiste 12 = .ok (.aload_n 1, 1) := by decide +kernel
theorem dX0_startPiste_13 : decode cX0_startPiste 13 = .ok (.dup, 1) := by decide +kernel
theorem dX0_startPiste_14 : decode cX0_startPiste 14 = .ok (.getfield 136, 3) := by decide +kernel
theorem dX0_startPiste_17 : decode cX0_startPiste 17 = .ok (.iconst 1, 1) := by decide +kernel
theorem dX0_startPiste_18 : decode cX0_startPiste 18 = .ok (.iadd, 1) := by decide +kernel
theorem dX0_startPiste_19 : decode cX0_startPiste 19 = .ok (.putfield 136, 3) := by decide +kernel
theorem dX0_startPiste_22 : decode cX0_startPiste 22 = .ok (.aload_n 2, 1) := by decide +kernel
theorem dX0_startPiste_23 : decode cX0_startPiste 23 = .ok (.dup, 1) := by decide +kernel
theorem dX0_startPiste_24 : decode cX0_startPiste 24 = .ok (.getfield 139, 3) := by decide +kernel
theorem dX0_startPiste_27 : decode cX0_startPiste 27 = .ok (.iconst 1, 1) := by decide +kernel
theorem dX0_startPiste_28 : decode cX0_startPiste 28 = .ok (.iadd, 1) := by decide +kernel
theorem dX0_startPiste_29 : decode cX0_startPiste 29 = .ok (.putfield 139, 3) := by decide +kernel
theorem dX0_startPiste_32 : decode cX0_startPiste 32 = .ok (.aload_n 2, 1) := by decide +kernel
theorem dX0_startPiste_33 : decode cX0_startPiste 33 = .ok (.dup, 1) := by decide +kernel
theorem dX0_startPiste_34 : decode cX0_startPiste 34 = .ok (.getfield 142, 3) := by decide +kernel
theorem dX0_startPiste_37 : decode cX0_startPiste 37 = .ok (.aload_n 2, 1) := by decide +kernel
theorem dX0_startPiste_38 : decode cX0_startPiste 38 = .ok (.getfield 145, 3) := by decide +kernel
theorem dX0_startPiste_41 : decode cX0_startPiste 41 = .ok (.iadd, 1) := by decide +kernel
theorem dX0_startPiste_42 : decode cX0_startPiste 42 = .ok (.putfield 142, 3) := by decide +kernel
theorem dX0_startPiste_45 : decode cX0_startPiste 45 = .ok (.aload_n 1, 1) := by decide +kernel
theorem dX0_startPiste_46 : decode cX0_startPiste 46 = .ok (.getfield 148, 3) := by decide +kernel
theorem dX0_startPiste_49 : decode cX0_startPiste 49 = .ok (.ireturn, 1) := by decide +kernel
theorem dX0_passTicks_0 : decode cX0_passTicks 0 = .ok (.iconst 0, 1) := by decide +kernel
theorem dX0_passTicks_1 : decode cX0_passTicks 1 = .ok (.istore_n 2, 1) := by decide +kernel
theorem dX0_passTicks_2 : decode cX0_passTicks 2 = .ok (.iconst 0, 1) := by decide +kernel
theorem dX0_passTicks_3 : decode cX0_passTicks 3 = .ok (.istore_n 3, 1) := by decide +kernel
theorem dX0_passTicks_4 : decode cX0_passTicks 4 = .ok (.iload_n 3, 1) := by decide +kernel
theorem dX0_passTicks_5 : decode cX0_passTicks 5 = .ok (.iload_n 1, 1) := by decide +kernel
theorem dX0_passTicks_6 : decode cX0_passTicks 6 = .ok (.if_icmp .ge 45, 3) := by decide +kernel
theorem dX0_passTicks_9 : decode cX0_passTicks 9 = .ok (.iload_n 2, 1) := by decide +kernel
theorem dX0_passTicks_10 : decode cX0_passTicks 10 = .ok (.aload_n 0, 1) := by decide +kernel
theorem dX0_passTicks_11 : decode cX0_passTicks 11 = .ok (.invokevirtual 151, 3) := by decide +kernel
theorem dX0_passTicks_14 : decode cX0_passTicks 14 = .ok (.iadd, 1) := by decide +kernel
theorem dX0_passTicks_15 : decode cX0_passTicks 15 = .ok (.istore_n 2, 1) := by decide +kernel
theorem dX0_passTicks_16 : decode cX0_passTicks 16 = .ok (.iload_n 2, 1) := by decide +kernel
theorem dX0_passTicks_17 : decode cX0_passTicks 17 = .ok (.aload_n 0, 1) := by decide +kernel
theorem dX0_passTicks_18 : decode cX0_passTicks 18 = .ok (.invokevirtual 155, 3) := by decide +kernel
theorem dX0_passTicks_21 : decode cX0_passTicks 21 = .ok (.iadd, 1) := by decide +kernel
theorem dX0_passTicks_22 : decode cX0_passTicks 22 = .ok (.istore_n 2, 1) := by decide +kernel
theorem dX0_passTicks_23 : decode cX0_passTicks 23 = .ok (.aload_n 0, 1) := by decide +kernel
theorem dX0_passTicks_24 : decode cX0_passTicks 24 = .ok (.invokevirtual 158, 3) := by decide +kernel
theorem dX0_passTicks_27 : decode cX0_passTicks 27 = .ok (.aload_n 0, 1) := by decide +kernel
theorem dX0_passTicks_28 : decode cX0_passTicks 28 = .ok (.invokevirtual 161, 3) := by decide +kernel
theorem dX0_passTicks_31 : decode cX0_passTicks 31 = .ok (.aload_n 0, 1) := by decide +kernel
theorem dX0_passTicks_32 : decode cX0_passTicks 32 = .ok (.invokevirtual 164, 3) := by decide +kernel
theorem dX0_passTicks_35 : decode cX0_passTicks 35 = .ok (.aload_n 0, 1) := by decide +kernel
theorem dX0_passTicks_36 : decode cX0_passTicks 36 = .ok (.dup, 1) := by decide +kernel
theorem dX0_passTicks_37 : decode cX0_passTicks 37 = .ok (.getfield 45, 3) := by decide +kernel
theorem dX0_passTicks_40 : decode cX0_passTicks 40 = .ok (.iconst 1, 1) := by decide +kernel
theorem dX0_passTicks_41 : decode cX0_passTicks 41 = .ok (.iadd, 1) := by decide +kernel
theorem dX0_passTicks_42 : decode cX0_passTicks 42 = .ok (.putfield 45, 3) := by decide +kernel
theorem dX0_passTicks_45 : decode cX0_passTicks 45 = .ok (.iinc 3 1, 3) := by decide +kernel
theorem dX0_passTicks_48 : decode cX0_passTicks 48 = .ok (.goto (-44), 3) := by decide +kernel
theorem dX0_passTicks_51 : decode cX0_passTicks 51 = .ok (.iload_n 2, 1) := by decide +kernel
theorem dX0_passTicks_52 : decode cX0_passTicks 52 = .ok (.ireturn, 1) := by decide +kernel
theorem dX0_moveRiders_0 : decode cX0_moveRiders 0 = .ok (.iconst 0, 1) := by decide +kernel
theorem dX0_moveRiders_1 : decode cX0_moveRiders 1 = .ok (.istore_n 1, 1) := by decide +kernel
theorem dX0_moveRiders_2 : decode cX0_moveRiders 2 = .ok (.iconst 0, 1) := by decide +kernel
theorem dX0_moveRiders_3 : decode cX0_moveRiders 3 = .ok (.istore_n 2, 1) := by decide +kernel
theorem dX0_moveRiders_4 : decode cX0_moveRiders 4 = .ok (.iload_n 2, 1) := by decide +kernel
theorem dX0_moveRiders_5 : decode cX0_moveRiders 5 = .ok (.aload_n 0, 1) := by decide +kernel
theorem dX0_moveRiders_6 : decode cX0_moveRiders 6 = .ok (.getfield 39, 3) := by decide +kernel
theorem dX0_moveRiders_9 : decode cX0_moveRiders 9 = .ok (.if_icmp .ge 77, 3) := by decide +kernel
theorem dX0_moveRiders_12 : decode cX0_moveRiders 12 = .ok (.aload_n 0, 1) := by decide +kernel
theorem dX0_moveRiders_13 : decode cX0_moveRiders 13 = .ok (.getfield 27, 3) := by decide +kernel
theorem dX0_moveRiders_16 : decode cX0_moveRiders 16 = .ok (.iload_n 2, 1) := by decide +kernel
theorem dX0_moveRiders_17 : decode cX0_moveRiders 17 = .ok (.aaload, 1) := by decide +kernel
theorem dX0_moveRiders_18 : decode cX0_moveRiders 18 = .ok (.astore_n 3, 1) := by decide +kernel
theorem dX0_moveRiders_19 : decode cX0_moveRiders 19 = .ok (.aload_n 3, 1) := by decide +kernel
theorem dX0_moveRiders_20 : decode cX0_moveRiders 20 = .ok (.getfield 95, 3) := by decide +kernel
theorem dX0_moveRiders_23 : decode cX0_moveRiders 23 = .ok (.iconst 2, 1) := by decide +kernel
theorem dX0_moveRiders_24 : decode cX0_moveRiders 24 = .ok (.if_icmp .ne 14, 3) := by decide +kernel
theorem dX0_moveRiders_27 : decode cX0_moveRiders 27 = .ok (.aload_n 0, 1) := by decide +kernel
theorem dX0_moveRiders_28 : decode cX0_moveRiders 28 = .ok (.aload_n 3, 1) := by decide +kernel
theorem dX0_moveRiders_29 : decode cX0_moveRiders 29 = .ok (.getfield 107, 3) := by decide +kernel
theorem dX0_moveRiders_32 : decode cX0_moveRiders 32 = .ok (.invokevirtual 124, 3) := by decide +kernel
theorem dX0_moveRiders_35 : decode cX0_moveRiders 35 = .ok (.goto 4, 3) := by decide +kernel
theorem dX0_moveRiders_38 : decode cX0_moveRiders 38 = .ok (.aconst_null, 1) := by decide +kernel
theorem dX0_moveRiders_39 : decode cX0_moveRiders 39 = .ok (.astore 4, 2) := by decide +kernel
theorem dX0_moveRiders_41 : decode cX0_moveRiders 41 = .ok (.aload 4, 2) := by decide +kernel
theorem dX0_moveRiders_43 : decode cX0_moveRiders 43 = .ok (.ifnull 37, 3) := by decide +kernel
theorem dX0_moveRiders_46 : decode cX0_moveRiders 46 = .ok (.aload_n 3, 1) := by decide +kernel
theorem dX0_moveRiders_47 : decode cX0_moveRiders 47 = .ok (.dup, 1) := by decide +kernel
theorem dX0_moveRiders_48 : decode cX0_moveRiders 48 = .ok (.getfield 148, 3) := by decide +kernel
theorem dX0_moveRiders_51 : decode cX0_moveRiders 51 = .ok (.aload_n 0, 1) := by decide +kernel
theorem dX0_moveRiders_52 : decode cX0_moveRiders 52 = .ok (.aload 4, 2) := by decide +kernel
theorem dX0_moveRiders_54 : decode cX0_moveRiders 54 = .ok (.invokevirtual 64, 3) := by decide +kernel
theorem dX0_moveRiders_57 : decode cX0_moveRiders 57 = .ok (.isub, 1) := by decide +kernel
theorem dX0_moveRiders_58 : decode cX0_moveRiders 58 = .ok (.putfield 148, 3) := by decide +kernel
theorem dX0_moveRiders_61 : decode cX0_moveRiders 61 = .ok (.aload_n 3, 1) := by decide +kernel
theorem dX0_moveRiders_62 : decode cX0_moveRiders 62 = .ok (.getfield 148, 3) := by decide +kernel
theorem dX0_moveRiders_65 : decode cX0_moveRiders 65 = .ok (.ifCond .gt 15, 3) := by decide +kernel
theorem dX0_moveRiders_68 : decode cX0_moveRiders 68 = .ok (.aload_n 3, 1) := by decide +kernel
theorem dX0_moveRiders_69 : decode cX0_moveRiders 69 = .ok (.aload 4, 2) := by decide +kernel
theorem dX0_moveRiders_71 : decode cX0_moveRiders 71 = .ok (.getfield 167, 3) := by decide +kernel
theorem dX0_moveRiders_74 : decode cX0_moveRiders 74 = .ok (.invokevirtual 128, 3) := by decide +kernel
theorem dX0_moveRiders_77 : decode cX0_moveRiders 77 = .ok (.iinc 1 1, 3) := by decide +kernel
theorem dX0_moveRiders_80 : decode cX0_moveRiders 80 = .ok (.iinc 2 1, 3) := by decide +kernel
theorem dX0_moveRiders_83 : decode cX0_moveRiders 83 = .ok (.goto (-79), 3) := by decide +kernel
theorem dX0_moveRiders_86 : decode cX0_moveRiders 86 = .ok (.iload_n 1, 1) := by decide +kernel
theorem dX0_moveRiders_87 : decode cX0_moveRiders 87 = .ok (.ireturn, 1) := by decide +kernel
theorem dX0_moveSkiers_0 : decode cX0_moveSkiers 0 = .ok (.iconst 0, 1) := by decide +kernel
theorem dX0_moveSkiers_1 : decode cX0_moveSkiers 1 = .ok (.istore_n 1, 1) := by decide +kernel
theorem dX0_moveSkiers_2 : decode cX0_moveSkiers 2 = .ok (.iconst 0, 1) := by decide +kernel
theorem dX0_moveSkiers_3 : decode cX0_moveSkiers 3 = .ok (.istore_n 2, 1) := by decide +kernel
theorem dX0_moveSkiers_4 : decode cX0_moveSkiers 4 = .ok (.iload_n 2, 1) := by decide +kernel
theorem dX0_moveSkiers_5 : decode cX0_moveSkiers 5 = .ok (.aload_n 0, 1) := by decide +kernel
theorem dX0_moveSkiers_6 : decode cX0_moveSkiers 6 = .ok (.getfield 39, 3) := by decide +kernel
theorem dX0_moveSkiers_9 : decode cX0_moveSkiers 9 = .ok (.if_icmp .ge 72, 3) := by decide +kernel
theorem dX0_moveSkiers_12 : decode cX0_moveSkiers 12 = .ok (.aload_n 0, 1) := by decide +kernel
theorem dX0_moveSkiers_13 : decode cX0_moveSkiers 13 = .ok (.getfield 27, 3) := by decide +kernel
theorem dX0_moveSkiers_16 : decode cX0_moveSkiers 16 = .ok (.iload_n 2, 1) := by decide +kernel
theorem dX0_moveSkiers_17 : decode cX0_moveSkiers 17 = .ok (.aaload, 1) := by decide +kernel
theorem dX0_moveSkiers_18 : decode cX0_moveSkiers 18 = .ok (.astore_n 3, 1) := by decide +kernel
theorem dX0_moveSkiers_19 : decode cX0_moveSkiers 19 = .ok (.aload_n 3, 1) := by decide +kernel
theorem dX0_moveSkiers_20 : decode cX0_moveSkiers 20 = .ok (.getfield 95, 3) := by decide +kernel
theorem dX0_moveSkiers_23 : decode cX0_moveSkiers 23 = .ok (.iconst 3, 1) := by decide +kernel
theorem dX0_moveSkiers_24 : decode cX0_moveSkiers 24 = .ok (.if_icmp .ne 14, 3) := by decide +kernel
theorem dX0_moveSkiers_27 : decode cX0_moveSkiers 27 = .ok (.aload_n 0, 1) := by decide +kernel
theorem dX0_moveSkiers_28 : decode cX0_moveSkiers 28 = .ok (.aload_n 3, 1) := by decide +kernel
theorem dX0_moveSkiers_29 : decode cX0_moveSkiers 29 = .ok (.getfield 107, 3) := by decide +kernel
theorem dX0_moveSkiers_32 : decode cX0_moveSkiers 32 = .ok (.invokevirtual 170, 3) := by decide +kernel
theorem dX0_moveSkiers_35 : decode cX0_moveSkiers 35 = .ok (.goto 4, 3) := by decide +kernel
theorem dX0_moveSkiers_38 : decode cX0_moveSkiers 38 = .ok (.aconst_null, 1) := by decide +kernel
theorem dX0_moveSkiers_39 : decode cX0_moveSkiers 39 = .ok (.astore 4, 2) := by decide +kernel
theorem dX0_moveSkiers_41 : decode cX0_moveSkiers 41 = .ok (.aload 4, 2) := by decide +kernel
theorem dX0_moveSkiers_43 : decode cX0_moveSkiers 43 = .ok (.ifnull 32, 3) := by decide +kernel
theorem dX0_moveSkiers_46 : decode cX0_moveSkiers 46 = .ok (.aload_n 3, 1) := by decide +kernel
theorem dX0_moveSkiers_47 : decode cX0_moveSkiers 47 = .ok (.dup, 1) := by decide +kernel
theorem dX0_moveSkiers_48 : decode cX0_moveSkiers 48 = .ok (.getfield 148, 3) := by decide +kernel
theorem dX0_moveSkiers_51 : decode cX0_moveSkiers 51 = .ok (.iconst 1, 1) := by decide +kernel
theorem dX0_moveSkiers_52 : decode cX0_moveSkiers 52 = .ok (.isub, 1) := by decide +kernel
theorem dX0_moveSkiers_53 : decode cX0_moveSkiers 53 = .ok (.putfield 148, 3) := by decide +kernel
theorem dX0_moveSkiers_56 : decode cX0_moveSkiers 56 = .ok (.aload_n 3, 1) := by decide +kernel
theorem dX0_moveSkiers_57 : decode cX0_moveSkiers 57 = .ok (.getfield 148, 3) := by decide +kernel
theorem dX0_moveSkiers_60 : decode cX0_moveSkiers 60 = .ok (.ifCond .gt 15, 3) := by decide +kernel
theorem dX0_moveSkiers_63 : decode cX0_moveSkiers 63 = .ok (.aload_n 3, 1) := by decide +kernel
theorem dX0_moveSkiers_64 : decode cX0_moveSkiers 64 = .ok (.aload 4, 2) := by decide +kernel
theorem dX0_moveSkiers_66 : decode cX0_moveSkiers 66 = .ok (.getfield 174, 3) := by decide +kernel
theorem dX0_moveSkiers_69 : decode cX0_moveSkiers 69 = .ok (.invokevirtual 128, 3) := by decide +kernel
theorem dX0_moveSkiers_72 : decode cX0_moveSkiers 72 = .ok (.iinc 1 1, 3) := by decide +kernel
theorem dX0_moveSkiers_75 : decode cX0_moveSkiers 75 = .ok (.iinc 2 1, 3) := by decide +kernel
theorem dX0_moveSkiers_78 : decode cX0_moveSkiers 78 = .ok (.goto (-74), 3) := by decide +kernel
theorem dX0_moveSkiers_81 : decode cX0_moveSkiers 81 = .ok (.iload_n 1, 1) := by decide +kernel
theorem dX0_moveSkiers_82 : decode cX0_moveSkiers 82 = .ok (.ireturn, 1) := by decide +kernel
theorem dX0_turnLifts_0 : decode cX0_turnLifts 0 = .ok (.iconst 0, 1) := by decide +kernel
theorem dX0_turnLifts_1 : decode cX0_turnLifts 1 = .ok (.istore_n 1, 1) := by decide +kernel
theorem dX0_turnLifts_2 : decode cX0_turnLifts 2 = .ok (.iload_n 1, 1) := by decide +kernel
theorem dX0_turnLifts_3 : decode cX0_turnLifts 3 = .ok (.aload_n 0, 1) := by decide +kernel
theorem dX0_turnLifts_4 : decode cX0_turnLifts 4 = .ok (.getfield 32, 3) := by decide +kernel
theorem dX0_turnLifts_7 : decode cX0_turnLifts 7 = .ok (.if_icmp .ge 69, 3) := by decide +kernel
theorem dX0_turnLifts_10 : decode cX0_turnLifts 10 = .ok (.aload_n 0, 1) := by decide +kernel
theorem dX0_turnLifts_11 : decode cX0_turnLifts 11 = .ok (.getfield 11, 3) := by decide +kernel
theorem dX0_turnLifts_14 : decode cX0_turnLifts 14 = .ok (.iload_n 1, 1) := by decide +kernel
theorem dX0_turnLifts_15 : decode cX0_turnLifts 15 = .ok (.aaload, 1) := by decide +kernel
theorem dX0_turnLifts_16 : decode cX0_turnLifts 16 = .ok (.astore_n 2, 1) := by decide +kernel
theorem dX0_turnLifts_17 : decode cX0_turnLifts 17 = .ok (.aload_n 2, 1) := by decide +kernel
theorem dX0_turnLifts_18 : decode cX0_turnLifts 18 = .ok (.dup, 1) := by decide +kernel
theorem dX0_turnLifts_19 : decode cX0_turnLifts 19 = .ok (.getfield 177, 3) := by decide +kernel
theorem dX0_turnLifts_22 : decode cX0_turnLifts 22 = .ok (.aload_n 0, 1) := by decide +kernel
theorem dX0_turnLifts_23 : decode cX0_turnLifts 23 = .ok (.aload_n 2, 1) := by decide +kernel
theorem dX0_turnLifts_24 : decode cX0_turnLifts 24 = .ok (.invokevirtual 64, 3) := by decide +kernel
theorem dX0_turnLifts_27 : decode cX0_turnLifts 27 = .ok (.iadd, 1) := by decide +kernel
theorem dX0_turnLifts_28 : decode cX0_turnLifts 28 = .ok (.putfield 177, 3) := by decide +kernel
theorem dX0_turnLifts_31 : decode cX0_turnLifts 31 = .ok (.aload_n 2, 1) := by decide +kernel
theorem dX0_turnLifts_32 : decode cX0_turnLifts 32 = .ok (.iconst 1, 1) := by decide +kernel
theorem dX0_turnLifts_33 : decode cX0_turnLifts 33 = .ok (.invokevirtual 180, 3) := by decide +kernel
theorem dX0_turnLifts_36 : decode cX0_turnLifts 36 = .ok (.ifCond .gt 34, 3) := by decide +kernel
theorem dX0_turnLifts_39 : decode cX0_turnLifts 39 = .ok (.aload_n 2, 1) := by decide +kernel
theorem dX0_turnLifts_40 : decode cX0_turnLifts 40 = .ok (.dup, 1) := by decide +kernel
theorem dX0_turnLifts_41 : decode cX0_turnLifts 41 = .ok (.getfield 177, 3) := by decide +kernel
theorem dX0_turnLifts_44 : decode cX0_turnLifts 44 = .ok (.iconst 2, 1) := by decide +kernel
theorem dX0_turnLifts_45 : decode cX0_turnLifts 45 = .ok (.aload_n 2, 1) := by decide +kernel
theorem dX0_turnLifts_46 : decode cX0_turnLifts 46 = .ok (.getfield 184, 3) := by decide +kernel
theorem dX0_turnLifts_49 : decode cX0_turnLifts 49 = .ok (.imul, 1) := by decide +kernel
theorem dX0_turnLifts_50 : decode cX0_turnLifts 50 = .ok (.isub, 1) := by decide +kernel
theorem dX0_turnLifts_51 : decode cX0_turnLifts 51 = .ok (.putfield 177, 3) := by decide +kernel
theorem dX0_turnLifts_54 : decode cX0_turnLifts 54 = .ok (.aload_n 2, 1) := by decide +kernel
theorem dX0_turnLifts_55 : decode cX0_turnLifts 55 = .ok (.dup, 1) := by decide +kernel
theorem dX0_turnLifts_56 : decode cX0_turnLifts 56 = .ok (.getfield 187, 3) := by decide +kernel
theorem dX0_turnLifts_59 : decode cX0_turnLifts 59 = .ok (.iconst 1, 1) := by decide +kernel
theorem dX0_turnLifts_60 : decode cX0_turnLifts 60 = .ok (.iadd, 1) := by decide +kernel
theorem dX0_turnLifts_61 : decode cX0_turnLifts 61 = .ok (.putfield 187, 3) := by decide +kernel
theorem dX0_turnLifts_64 : decode cX0_turnLifts 64 = .ok (.aload_n 0, 1) := by decide +kernel
theorem dX0_turnLifts_65 : decode cX0_turnLifts 65 = .ok (.aload_n 2, 1) := by decide +kernel
theorem dX0_turnLifts_66 : decode cX0_turnLifts 66 = .ok (.iload_n 1, 1) := by decide +kernel
theorem dX0_turnLifts_67 : decode cX0_turnLifts 67 = .ok (.invokevirtual 190, 3) := by decide +kernel
theorem dX0_turnLifts_70 : decode cX0_turnLifts 70 = .ok (.iinc 1 1, 3) := by decide +kernel
theorem dX0_turnLifts_73 : decode cX0_turnLifts 73 = .ok (.goto (-71), 3) := by decide +kernel
theorem dX0_turnLifts_76 : decode cX0_turnLifts 76 = .ok (.return_, 1) := by decide +kernel
theorem dX0_boardCabin_0 : decode cX0_boardCabin 0 = .ok (.iconst 0, 1) := by decide +kernel
theorem dX0_boardCabin_1 : decode cX0_boardCabin 1 = .ok (.istore_n 3, 1) := by decide +kernel
theorem dX0_boardCabin_2 : decode cX0_boardCabin 2 = .ok (.iload_n 3, 1) := by decide +kernel
theorem dX0_boardCabin_3 : decode cX0_boardCabin 3 = .ok (.aload_n 0, 1) := by decide +kernel
theorem dX0_boardCabin_4 : decode cX0_boardCabin 4 = .ok (.getfield 39, 3) := by decide +kernel
theorem dX0_boardCabin_7 : decode cX0_boardCabin 7 = .ok (.if_icmp .ge 92, 3) := by decide +kernel
theorem dX0_boardCabin_10 : decode cX0_boardCabin 10 = .ok (.aload_n 0, 1) := by decide +kernel
theorem dX0_boardCabin_11 : decode cX0_boardCabin 11 = .ok (.getfield 27, 3) := by decide +kernel
theorem dX0_boardCabin_14 : decode cX0_boardCabin 14 = .ok (.iload_n 3, 1) := by decide +kernel
theorem dX0_boardCabin_15 : decode cX0_boardCabin 15 = .ok (.aaload, 1) := by decide +kernel
theorem dX0_boardCabin_16 : decode cX0_boardCabin 16 = .ok (.astore 4, 2) := by decide +kernel
theorem dX0_boardCabin_18 : decode cX0_boardCabin 18 = .ok (.aload 4, 2) := by decide +kernel
theorem dX0_boardCabin_20 : decode cX0_boardCabin 20 = .ok (.iconst 1, 1) := by decide +kernel
theorem dX0_boardCabin_21 : decode cX0_boardCabin 21 = .ok (.iload_n 2, 1) := by decide +kernel
theorem dX0_boardCabin_22 : decode cX0_boardCabin 22 = .ok (.invokevirtual 96, 3) := by decide +kernel
theorem dX0_boardCabin_25 : decode cX0_boardCabin 25 = .ok (.ifCond .ne 6, 3) := by decide +kernel
theorem dX0_boardCabin_28 : decode cX0_boardCabin 28 = .ok (.goto 65, 3) := by decide +kernel
theorem dX0_boardCabin_31 : decode cX0_boardCabin 31 = .ok (.aload 4, 2) := by decide +kernel
theorem dX0_boardCabin_33 : decode cX0_boardCabin 33 = .ok (.getfield 100, 3) := by decide +kernel
theorem dX0_boardCabin_36 : decode cX0_boardCabin 36 = .ok (.aload_n 1, 1) := by decide +kernel
theorem dX0_boardCabin_37 : decode cX0_boardCabin 37 = .ok (.getfield 194, 3) := by decide +kernel
theorem dX0_boardCabin_40 : decode cX0_boardCabin 40 = .ok (.if_icmp .ge 39, 3) := by decide +kernel
theorem dX0_boardCabin_43 : decode cX0_boardCabin 43 = .ok (.aload 4, 2) := by decide +kernel
theorem dX0_boardCabin_45 : decode cX0_boardCabin 45 = .ok (.iconst 2, 1) := by decide +kernel
theorem dX0_boardCabin_46 : decode cX0_boardCabin 46 = .ok (.iload_n 2, 1) := by decide +kernel
theorem dX0_boardCabin_47 : decode cX0_boardCabin 47 = .ok (.aload_n 1, 1) := by decide +kernel
theorem dX0_boardCabin_48 : decode cX0_boardCabin 48 = .ok (.invokevirtual 197, 3) := by decide +kernel
theorem dX0_boardCabin_51 : decode cX0_boardCabin 51 = .ok (.iconst 0, 1) := by decide +kernel
theorem dX0_boardCabin_52 : decode cX0_boardCabin 52 = .ok (.invokevirtual 120, 3) := by decide +kernel
theorem dX0_boardCabin_55 : decode cX0_boardCabin 55 = .ok (.aload 4, 2) := by decide +kernel
theorem dX0_boardCabin_57 : decode cX0_boardCabin 57 = .ok (.dup, 1) := by decide +kernel
theorem dX0_boardCabin_58 : decode cX0_boardCabin 58 = .ok (.getfield 200, 3) := by decide +kernel
theorem dX0_boardCabin_61 : decode cX0_boardCabin 61 = .ok (.iconst 1, 1) := by decide +kernel
theorem dX0_boardCabin_62 : decode cX0_boardCabin 62 = .ok (.iadd, 1) := by decide +kernel
theorem dX0_boardCabin_63 : decode cX0_boardCabin 63 = .ok (.putfield 200, 3) := by decide +kernel
theorem dX0_boardCabin_66 : decode cX0_boardCabin 66 = .ok (.aload_n 1, 1) := by decide +kernel
theorem dX0_boardCabin_67 : decode cX0_boardCabin 67 = .ok (.dup, 1) := by decide +kernel
theorem dX0_boardCabin_68 : decode cX0_boardCabin 68 = .ok (.getfield 203, 3) := by decide +kernel
theorem dX0_boardCabin_71 : decode cX0_boardCabin 71 = .ok (.iconst 1, 1) := by decide +kernel
theorem dX0_boardCabin_72 : decode cX0_boardCabin 72 = .ok (.iadd, 1) := by decide +kernel
theorem dX0_boardCabin_73 : decode cX0_boardCabin 73 = .ok (.putfield 203, 3) := by decide +kernel
theorem dX0_boardCabin_76 : decode cX0_boardCabin 76 = .ok (.goto 17, 3) := by decide +kernel
theorem dX0_boardCabin_79 : decode cX0_boardCabin 79 = .ok (.aload 4, 2) := by decide +kernel
theorem dX0_boardCabin_81 : decode cX0_boardCabin 81 = .ok (.dup, 1) := by decide +kernel
theorem dX0_boardCabin_82 : decode cX0_boardCabin 82 = .ok (.getfield 100, 3) := by decide +kernel
theorem dX0_boardCabin_85 : decode cX0_boardCabin 85 = .ok (.aload_n 1, 1) := by decide +kernel
theorem dX0_boardCabin_86 : decode cX0_boardCabin 86 = .ok (.getfield 194, 3) := by decide +kernel
theorem dX0_boardCabin_89 : decode cX0_boardCabin 89 = .ok (.isub, 1) := by decide +kernel
theorem dX0_boardCabin_90 : decode cX0_boardCabin 90 = .ok (.putfield 100, 3) := by decide +kernel
theorem dX0_boardCabin_93 : decode cX0_boardCabin 93 = .ok (.iinc 3 1, 3) := by decide +kernel
theorem dX0_boardCabin_96 : decode cX0_boardCabin 96 = .ok (.goto (-94), 3) := by decide +kernel
theorem dX0_boardCabin_99 : decode cX0_boardCabin 99 = .ok (.return_, 1) := by decide +kernel
theorem dX0_groomPistes_0 : decode cX0_groomPistes 0 = .ok (.iconst 0, 1) := by decide +kernel
theorem dX0_groomPistes_1 : decode cX0_groomPistes 1 = .ok (.istore_n 1, 1) := by decide +kernel
theorem dX0_groomPistes_2 : decode cX0_groomPistes 2 = .ok (.iload_n 1, 1) := by decide +kernel
theorem dX0_groomPistes_3 : decode cX0_groomPistes 3 = .ok (.aload_n 0, 1) := by decide +kernel
theorem dX0_groomPistes_4 : decode cX0_groomPistes 4 = .ok (.getfield 36, 3) := by decide +kernel
theorem dX0_groomPistes_7 : decode cX0_groomPistes 7 = .ok (.if_icmp .ge 45, 3) := by decide +kernel
theorem dX0_groomPistes_10 : decode cX0_groomPistes 10 = .ok (.aload_n 0, 1) := by decide +kernel
theorem dX0_groomPistes_11 : decode cX0_groomPistes 11 = .ok (.getfield 20, 3) := by decide +kernel
theorem dX0_groomPistes_14 : decode cX0_groomPistes 14 = .ok (.iload_n 1, 1) := by decide +kernel
theorem dX0_groomPistes_15 : decode cX0_groomPistes 15 = .ok (.aaload, 1) := by decide +kernel
theorem dX0_groomPistes_16 : decode cX0_groomPistes 16 = .ok (.astore_n 2, 1) := by decide +kernel
theorem dX0_groomPistes_17 : decode cX0_groomPistes 17 = .ok (.aload_n 2, 1) := by decide +kernel
theorem dX0_groomPistes_18 : decode cX0_groomPistes 18 = .ok (.getfield 88, 3) := by decide +kernel
theorem dX0_groomPistes_21 : decode cX0_groomPistes 21 = .ok (.iconst 2, 1) := by decide +kernel
theorem dX0_groomPistes_22 : decode cX0_groomPistes 22 = .ok (.if_icmp .ne 24, 3) := by decide +kernel
theorem dX0_groomPistes_25 : decode cX0_groomPistes 25 = .ok (.aload_n 2, 1) := by decide +kernel
theorem dX0_groomPistes_26 : decode cX0_groomPistes 26 = .ok (.dup, 1) := by decide +kernel
theorem dX0_groomPistes_27 : decode cX0_groomPistes 27 = .ok (.getfield 206, 3) := by decide +kernel
theorem dX0_groomPistes_30 : decode cX0_groomPistes 30 = .ok (.iconst 1, 1) := by decide +kernel
theorem dX0_groomPistes_31 : decode cX0_groomPistes 31 = .ok (.isub, 1) := by decide +kernel
theorem dX0_groomPistes_32 : decode cX0_groomPistes 32 = .ok (.putfield 206, 3) := by decide +kernel
theorem dX0_groomPistes_35 : decode cX0_groomPistes 35 = .ok (.aload_n 2, 1) := by decide +kernel
theorem dX0_groomPistes_36 : decode cX0_groomPistes 36 = .ok (.getfield 206, 3) := by decide +kernel
theorem dX0_groomPistes_39 : decode cX0_groomPistes 39 = .ok (.ifCond .gt 7, 3) := by decide +kernel
theorem dX0_groomPistes_42 : decode cX0_groomPistes 42 = .ok (.aload_n 2, 1) := by decide +kernel
theorem dX0_groomPistes_43 : decode cX0_groomPistes 43 = .ok (.invokevirtual 207, 3) := by decide +kernel
theorem dX0_groomPistes_46 : decode cX0_groomPistes 46 = .ok (.iinc 1 1, 3) := by decide +kernel
theorem dX0_groomPistes_49 : decode cX0_groomPistes 49 = .ok (.goto (-47), 3) := by decide +kernel
theorem dX0_groomPistes_52 : decode cX0_groomPistes 52 = .ok (.return_, 1) := by decide +kernel
theorem dX0_closeWornPistes_0 : decode cX0_closeWornPistes 0 = .ok (.iconst 0, 1) := by decide +kernel
theorem dX0_closeWornPistes_1 : decode cX0_closeWornPistes 1 = .ok (.istore_n 1, 1) := by decide +kernel
theorem dX0_closeWornPistes_2 : decode cX0_closeWornPistes 2 = .ok (.iload_n 1, 1) := by decide +kernel
theorem dX0_closeWornPistes_3 : decode cX0_closeWornPistes 3 = .ok (.aload_n 0, 1) := by decide +kernel
theorem dX0_closeWornPistes_4 : decode cX0_closeWornPistes 4 = .ok (.getfield 36, 3) := by decide +kernel
theorem dX0_closeWornPistes_7 : decode cX0_closeWornPistes 7 = .ok (.if_icmp .ge 45, 3) := by decide +kernel
theorem dX0_closeWornPistes_10 : decode cX0_closeWornPistes 10 = .ok (.aload_n 0, 1) := by decide +kernel
theorem dX0_closeWornPistes_11 : decode cX0_closeWornPistes 11 = .ok (.getfield 20, 3) := by decide +kernel
theorem dX0_closeWornPistes_14 : decode cX0_closeWornPistes 14 = .ok (.iload_n 1, 1) := by decide +kernel
theorem dX0_closeWornPistes_15 : decode cX0_closeWornPistes 15 = .ok (.aaload, 1) := by decide +kernel
theorem dX0_closeWornPistes_16 : decode cX0_closeWornPistes 16 = .ok (.getfield 88, 3) := by decide +kernel
theorem dX0_closeWornPistes_19 : decode cX0_closeWornPistes 19 = .ok (.ifCond .ne 27, 3) := by decide +kernel
theorem dX0_closeWornPistes_22 : decode cX0_closeWornPistes 22 = .ok (.aload_n 0, 1) := by decide +kernel
theorem dX0_closeWornPistes_23 : decode cX0_closeWornPistes 23 = .ok (.getfield 20, 3) := by decide +kernel
theorem dX0_closeWornPistes_26 : decode cX0_closeWornPistes 26 = .ok (.iload_n 1, 1) := by decide +kernel
theorem dX0_closeWornPistes_27 : decode cX0_closeWornPistes 27 = .ok (.aaload, 1) := by decide +kernel
theorem dX0_closeWornPistes_28 : decode cX0_closeWornPistes 28 = .ok (.getfield 142, 3) := by decide +kernel
theorem dX0_closeWornPistes_31 : decode cX0_closeWornPistes 31 = .ok (.bipush 20, 2) := by decide +kernel
theorem dX0_closeWornPistes_33 : decode cX0_closeWornPistes 33 = .ok (.if_icmp .lt 13, 3) := by decide +kernel
theorem dX0_closeWornPistes_36 : decode cX0_closeWornPistes 36 = .ok (.aload_n 0, 1) := by decide +kernel
theorem dX0_closeWornPistes_37 : decode cX0_closeWornPistes 37 = .ok (.getfield 20, 3) := by decide +kernel
theorem dX0_closeWornPistes_40 : decode cX0_closeWornPistes 40 = .ok (.iload_n 1, 1) := by decide +kernel
theorem dX0_closeWornPistes_41 : decode cX0_closeWornPistes 41 = .ok (.aaload, 1) := by decide +kernel
theorem dX0_closeWornPistes_42 : decode cX0_closeWornPistes 42 = .ok (.iconst 1, 1) := by decide +kernel
theorem dX0_closeWornPistes_43 : decode cX0_closeWornPistes 43 = .ok (.putfield 88, 3) := by decide +kernel
theorem dX0_closeWornPistes_46 : decode cX0_closeWornPistes 46 = .ok (.iinc 1 1, 3) := by decide +kernel
theorem dX0_closeWornPistes_49 : decode cX0_closeWornPistes 49 = .ok (.goto (-47), 3) := by decide +kernel
theorem dX0_closeWornPistes_52 : decode cX0_closeWornPistes 52 = .ok (.return_, 1) := by decide +kernel
theorem dX0_closeDay_0 : decode cX0_closeDay 0 = .ok (.aload_n 0, 1) := by decide +kernel
theorem dX0_closeDay_1 : decode cX0_closeDay 1 = .ok (.getfield 39, 3) := by decide +kernel
theorem dX0_closeDay_4 : decode cX0_closeDay 4 = .ok (.aload_n 0, 1) := by decide +kernel
theorem dX0_closeDay_5 : decode cX0_closeDay 5 = .ok (.iconst 4, 1) := by decide +kernel
theorem dX0_closeDay_6 : decode cX0_closeDay 6 = .ok (.invokevirtual 210, 3) := by decide +kernel
theorem dX0_closeDay_9 : decode cX0_closeDay 9 = .ok (.isub, 1) := by decide +kernel
theorem dX0_closeDay_10 : decode cX0_closeDay 10 = .ok (.istore_n 1, 1) := by decide +kernel
theorem dX0_closeDay_11 : decode cX0_closeDay 11 = .ok (.iconst 0, 1) := by decide +kernel
theorem dX0_closeDay_12 : decode cX0_closeDay 12 = .ok (.istore_n 2, 1) := by decide +kernel
theorem dX0_closeDay_13 : decode cX0_closeDay 13 = .ok (.iload_n 2, 1) := by decide +kernel
theorem dX0_closeDay_14 : decode cX0_closeDay 14 = .ok (.aload_n 0, 1) := by decide +kernel
theorem dX0_closeDay_15 : decode cX0_closeDay 15 = .ok (.getfield 39, 3) := by decide +kernel
theorem dX0_closeDay_18 : decode cX0_closeDay 18 = .ok (.if_icmp .ge 18, 3) := by decide +kernel
theorem dX0_closeDay_21 : decode cX0_closeDay 21 = .ok (.aload_n 0, 1) := by decide +kernel
theorem dX0_closeDay_22 : decode cX0_closeDay 22 = .ok (.getfield 27, 3) := by decide +kernel
theorem dX0_closeDay_25 : decode cX0_closeDay 25 = .ok (.iload_n 2, 1) := by decide +kernel
theorem dX0_closeDay_26 : decode cX0_closeDay 26 = .ok (.aaload, 1) := by decide +kernel
theorem dX0_closeDay_27 : decode cX0_closeDay 27 = .ok (.invokevirtual 213, 3) := by decide +kernel
theorem dX0_closeDay_30 : decode cX0_closeDay 30 = .ok (.iinc 2 1, 3) := by decide +kernel
theorem dX0_closeDay_33 : decode cX0_closeDay 33 = .ok (.goto (-20), 3) := by decide +kernel
theorem dX0_closeDay_36 : decode cX0_closeDay 36 = .ok (.iconst 0, 1) := by decide +kernel
theorem dX0_closeDay_37 : decode cX0_closeDay 37 = .ok (.istore_n 2, 1) := by decide +kernel
theorem dX0_closeDay_38 : decode cX0_closeDay 38 = .ok (.iload_n 2, 1) := by decide +kernel
theorem dX0_closeDay_39 : decode cX0_closeDay 39 = .ok (.aload_n 0, 1) := by decide +kernel
theorem dX0_closeDay_40 : decode cX0_closeDay 40 = .ok (.getfield 32, 3) := by decide +kernel
theorem dX0_closeDay_43 : decode cX0_closeDay 43 = .ok (.if_icmp .ge 19, 3) := by decide +kernel
theorem dX0_closeDay_46 : decode cX0_closeDay 46 = .ok (.aload_n 0, 1) := by decide +kernel
theorem dX0_closeDay_47 : decode cX0_closeDay 47 = .ok (.getfield 11, 3) := by decide +kernel
theorem dX0_closeDay_50 : decode cX0_closeDay 50 = .ok (.iload_n 2, 1) := by decide +kernel
theorem dX0_closeDay_51 : decode cX0_closeDay 51 = .ok (.aaload, 1) := by decide +kernel
theorem dX0_closeDay_52 : decode cX0_closeDay 52 = .ok (.iconst 0, 1) := by decide +kernel
theorem dX0_closeDay_53 : decode cX0_closeDay 53 = .ok (.putfield 177, 3) := by decide +kernel
theorem dX0_closeDay_56 : decode cX0_closeDay 56 = .ok (.iinc 2 1, 3) := by decide +kernel
theorem dX0_closeDay_59 : decode cX0_closeDay 59 = .ok (.goto (-21), 3) := by decide +kernel
theorem dX0_closeDay_62 : decode cX0_closeDay 62 = .ok (.iconst 0, 1) := by decide +kernel
theorem dX0_closeDay_63 : decode cX0_closeDay 63 = .ok (.istore_n 2, 1) := by decide +kernel
theorem dX0_closeDay_64 : decode cX0_closeDay 64 = .ok (.iload_n 2, 1) := by decide +kernel
theorem dX0_closeDay_65 : decode cX0_closeDay 65 = .ok (.aload_n 0, 1) := by decide +kernel
theorem dX0_closeDay_66 : decode cX0_closeDay 66 = .ok (.getfield 36, 3) := by decide +kernel
theorem dX0_closeDay_69 : decode cX0_closeDay 69 = .ok (.if_icmp .ge 31, 3) := by decide +kernel
theorem dX0_closeDay_72 : decode cX0_closeDay 72 = .ok (.aload_n 0, 1) := by decide +kernel
theorem dX0_closeDay_73 : decode cX0_closeDay 73 = .ok (.getfield 20, 3) := by decide +kernel
theorem dX0_closeDay_76 : decode cX0_closeDay 76 = .ok (.iload_n 2, 1) := by decide +kernel
theorem dX0_closeDay_77 : decode cX0_closeDay 77 = .ok (.aaload, 1) := by decide +kernel
theorem dX0_closeDay_78 : decode cX0_closeDay 78 = .ok (.getfield 88, 3) := by decide +kernel
theorem dX0_closeDay_81 : decode cX0_closeDay 81 = .ok (.iconst 2, 1) := by decide +kernel
theorem dX0_closeDay_82 : decode cX0_closeDay 82 = .ok (.if_icmp .ne 12, 3) := by decide +kernel
theorem dX0_closeDay_85 : decode cX0_closeDay 85 = .ok (.aload_n 0, 1) := by decide +kernel
theorem dX0_closeDay_86 : decode cX0_closeDay 86 = .ok (.getfield 20, 3) := by decide +kernel
theorem dX0_closeDay_89 : decode cX0_closeDay 89 = .ok (.iload_n 2, 1) := by decide +kernel
theorem dX0_closeDay_90 : decode cX0_closeDay 90 = .ok (.aaload, 1) := by decide +kernel
theorem dX0_closeDay_91 : decode cX0_closeDay 91 = .ok (.invokevirtual 207, 3) := by decide +kernel
theorem dX0_closeDay_94 : decode cX0_closeDay 94 = .ok (.iinc 2 1, 3) := by decide +kernel
theorem dX0_closeDay_97 : decode cX0_closeDay 97 = .ok (.goto (-33), 3) := by decide +kernel
theorem dX0_closeDay_100 : decode cX0_closeDay 100 = .ok (.aload_n 0, 1) := by decide +kernel
theorem dX0_closeDay_101 : decode cX0_closeDay 101 = .ok (.iconst 0, 1) := by decide +kernel
theorem dX0_closeDay_102 : decode cX0_closeDay 102 = .ok (.putfield 45, 3) := by decide +kernel
theorem dX0_closeDay_105 : decode cX0_closeDay 105 = .ok (.aload_n 0, 1) := by decide +kernel
theorem dX0_closeDay_106 : decode cX0_closeDay 106 = .ok (.dup, 1) := by decide +kernel
theorem dX0_closeDay_107 : decode cX0_closeDay 107 = .ok (.getfield 48, 3) := by decide +kernel
theorem dX0_closeDay_110 : decode cX0_closeDay 110 = .ok (.iconst 1, 1) := by decide +kernel
theorem dX0_closeDay_111 : decode cX0_closeDay 111 = .ok (.iadd, 1) := by decide +kernel
theorem dX0_closeDay_112 : decode cX0_closeDay 112 = .ok (.putfield 48, 3) := by decide +kernel
theorem dX0_closeDay_115 : decode cX0_closeDay 115 = .ok (.iload_n 1, 1) := by decide +kernel
theorem dX0_closeDay_116 : decode cX0_closeDay 116 = .ok (.ireturn, 1) := by decide +kernel
theorem dX0_ticksToStation_0 : decode cX0_ticksToStation 0 = .ok (.aload_n 1, 1) := by decide +kernel
theorem dX0_ticksToStation_1 : decode cX0_ticksToStation 1 = .ok (.getfield 95, 3) := by decide +kernel
theorem dX0_ticksToStation_4 : decode cX0_ticksToStation 4 = .ok (.tableswitch 73 0 3 #[32, 56, 39, 34], 32) := by decide +kernel
theorem dX0_ticksToStation_36 : decode cX0_ticksToStation 36 = .ok (.iconst 0, 1) := by decide +kernel
theorem dX0_ticksToStation_37 : decode cX0_ticksToStation 37 = .ok (.ireturn, 1) := by decide +kernel
theorem dX0_ticksToStation_38 : decode cX0_ticksToStation 38 = .ok (.aload_n 1, 1) := by decide +kernel
theorem dX0_ticksToStation_39 : decode cX0_ticksToStation 39 = .ok (.getfield 148, 3) := by decide +kernel
theorem dX0_ticksToStation_42 : decode cX0_ticksToStation 42 = .ok (.ireturn, 1) := by decide +kernel
theorem dX0_ticksToStation_43 : decode cX0_ticksToStation 43 = .ok (.aload_n 0, 1) := by decide +kernel
theorem dX0_ticksToStation_44 : decode cX0_ticksToStation 44 = .ok (.aload_n 0, 1) := by decide +kernel
theorem dX0_ticksToStation_45 : decode cX0_ticksToStation 45 = .ok (.aload_n 1, 1) := by decide +kernel
theorem dX0_ticksToStation_46 : decode cX0_ticksToStation 46 = .ok (.getfield 107, 3) := by decide +kernel
theorem dX0_ticksToStation_49 : decode cX0_ticksToStation 49 = .ok (.invokevirtual 124, 3) := by decide +kernel
theorem dX0_ticksToStation_52 : decode cX0_ticksToStation 52 = .ok (.aload_n 1, 1) := by decide +kernel
theorem dX0_ticksToStation_53 : decode cX0_ticksToStation 53 = .ok (.getfield 148, 3) := by decide +kernel
theorem dX0_ticksToStation_56 : decode cX0_ticksToStation 56 = .ok (.invokevirtual 216, 3) := by decide +kernel
theorem dX0_ticksToStation_59 : decode cX0_ticksToStation 59 = .ok (.ireturn, 1) := by decide +kernel
theorem dX0_ticksToStation_60 : decode cX0_ticksToStation 60 = .ok (.aload_n 0, 1) := by decide +kernel
theorem dX0_ticksToStation_61 : decode cX0_ticksToStation 61 = .ok (.aload_n 0, 1) := by decide +kernel
theorem dX0_ticksToStation_62 : decode cX0_ticksToStation 62 = .ok (.aload_n 1, 1) := by decide +kernel
theorem dX0_ticksToStation_63 : decode cX0_ticksToStation 63 = .ok (.getfield 107, 3) := by decide +kernel
theorem dX0_ticksToStation_66 : decode cX0_ticksToStation 66 = .ok (.invokevirtual 124, 3) := by decide +kernel
theorem dX0_ticksToStation_69 : decode cX0_ticksToStation 69 = .ok (.aload_n 1, 1) := by decide +kernel
theorem dX0_ticksToStation_70 : decode cX0_ticksToStation 70 = .ok (.getfield 100, 3) := by decide +kernel
theorem dX0_ticksToStation_73 : decode cX0_ticksToStation 73 = .ok (.invokevirtual 220, 3) := by decide +kernel
theorem dX0_ticksToStation_76 : decode cX0_ticksToStation 76 = .ok (.ireturn, 1) := by decide +kernel
theorem dX0_ticksToStation_77 : decode cX0_ticksToStation 77 = .ok (.iconst (-1), 1) := by decide +kernel
theorem dX0_ticksToStation_78 : decode cX0_ticksToStation 78 = .ok (.ireturn, 1) := by decide +kernel
theorem dX0_ticksOnLift_0 : decode cX0_ticksOnLift 0 = .ok (.aload_n 1, 1) := by decide +kernel
theorem dX0_ticksOnLift_1 : decode cX0_ticksOnLift 1 = .ok (.ifnull 11, 3) := by decide +kernel
theorem dX0_ticksOnLift_4 : decode cX0_ticksOnLift 4 = .ok (.aload_n 0, 1) := by decide +kernel
theorem dX0_ticksOnLift_5 : decode cX0_ticksOnLift 5 = .ok (.aload_n 1, 1) := by decide +kernel
theorem dX0_ticksOnLift_6 : decode cX0_ticksOnLift 6 = .ok (.invokevirtual 84, 3) := by decide +kernel
theorem dX0_ticksOnLift_9 : decode cX0_ticksOnLift 9 = .ok (.ifCond .eq 5, 3) := by decide +kernel
theorem dX0_ticksOnLift_12 : decode cX0_ticksOnLift 12 = .ok (.iconst (-1), 1) := by decide +kernel
theorem dX0_ticksOnLift_13 : decode cX0_ticksOnLift 13 = .ok (.ireturn, 1) := by decide +kernel
theorem dX0_ticksOnLift_14 : decode cX0_ticksOnLift 14 = .ok (.iload_n 2, 1) := by decide +kernel
theorem dX0_ticksOnLift_15 : decode cX0_ticksOnLift 15 = .ok (.aload_n 0, 1) := by decide +kernel
theorem dX0_ticksOnLift_16 : decode cX0_ticksOnLift 16 = .ok (.aload_n 1, 1) := by decide +kernel
theorem dX0_ticksOnLift_17 : decode cX0_ticksOnLift 17 = .ok (.invokevirtual 64, 3) := by decide +kernel
theorem dX0_ticksOnLift_20 : decode cX0_ticksOnLift 20 = .ok (.invokestatic 223, 3) := by decide +kernel
theorem dX0_ticksOnLift_23 : decode cX0_ticksOnLift 23 = .ok (.ireturn, 1) := by decide +kernel
theorem dX0_ticksFromQueue_0 : decode cX0_ticksFromQueue 0 = .ok (.aload_n 1, 1) := by decide +kernel
theorem dX0_ticksFromQueue_1 : decode cX0_ticksFromQueue 1 = .ok (.ifnull 19, 3) := by decide +kernel
theorem dX0_ticksFromQueue_4 : decode cX0_ticksFromQueue 4 = .ok (.aload_n 0, 1) := by decide +kernel
theorem dX0_ticksFromQueue_5 : decode cX0_ticksFromQueue 5 = .ok (.aload_n 1, 1) := by decide +kernel
theorem dX0_ticksFromQueue_6 : decode cX0_ticksFromQueue 6 = .ok (.invokevirtual 84, 3) := by decide +kernel
theorem dX0_ticksFromQueue_9 : decode cX0_ticksFromQueue 9 = .ok (.ifCond .ne 11, 3) := by decide +kernel
theorem dX0_ticksFromQueue_12 : decode cX0_ticksFromQueue 12 = .ok (.aload_n 1, 1) := by decide +kernel
theorem dX0_ticksFromQueue_13 : decode cX0_ticksFromQueue 13 = .ok (.getfield 194, 3) := by decide +kernel
theorem dX0_ticksFromQueue_16 : decode cX0_ticksFromQueue 16 = .ok (.iconst 1, 1) := by decide +kernel
theorem dX0_ticksFromQueue_17 : decode cX0_ticksFromQueue 17 = .ok (.if_icmp .ge 5, 3) := by decide +kernel
theorem dX0_ticksFromQueue_20 : decode cX0_ticksFromQueue 20 = .ok (.iconst (-1), 1) := by decide +kernel
theorem dX0_ticksFromQueue_21 : decode cX0_ticksFromQueue 21 = .ok (.ireturn, 1) := by decide +kernel
theorem dX0_ticksFromQueue_22 : decode cX0_ticksFromQueue 22 = .ok (.iconst 1, 1) := by decide +kernel
theorem dX0_ticksFromQueue_23 : decode cX0_ticksFromQueue 23 = .ok (.iload_n 2, 1) := by decide +kernel
theorem dX0_ticksFromQueue_24 : decode cX0_ticksFromQueue 24 = .ok (.aload_n 1, 1) := by decide +kernel
theorem dX0_ticksFromQueue_25 : decode cX0_ticksFromQueue 25 = .ok (.getfield 194, 3) := by decide +kernel
theorem dX0_ticksFromQueue_28 : decode cX0_ticksFromQueue 28 = .ok (.idiv, 1) := by decide +kernel
theorem dX0_ticksFromQueue_29 : decode cX0_ticksFromQueue 29 = .ok (.iadd, 1) := by decide +kernel
theorem dX0_ticksFromQueue_30 : decode cX0_ticksFromQueue 30 = .ok (.istore_n 3, 1) := by decide +kernel
theorem dX0_ticksFromQueue_31 : decode cX0_ticksFromQueue 31 = .ok (.aload_n 1, 1) := by decide +kernel
theorem dX0_ticksFromQueue_32 : decode cX0_ticksFromQueue 32 = .ok (.iload_n 3, 1) := by decide +kernel
theorem dX0_ticksFromQueue_33 : decode cX0_ticksFromQueue 33 = .ok (.invokevirtual 180, 3) := by decide +kernel
theorem dX0_ticksFromQueue_36 : decode cX0_ticksFromQueue 36 = .ok (.aload_n 0, 1) := by decide +kernel
theorem dX0_ticksFromQueue_37 : decode cX0_ticksFromQueue 37 = .ok (.aload_n 1, 1) := by decide +kernel
theorem dX0_ticksFromQueue_38 : decode cX0_ticksFromQueue 38 = .ok (.invokevirtual 64, 3) := by decide +kernel
theorem dX0_ticksFromQueue_41 : decode cX0_ticksFromQueue 41 = .ok (.invokestatic 223, 3) := by decide +kernel
theorem dX0_ticksFromQueue_44 : decode cX0_ticksFromQueue 44 = .ok (.aload_n 0, 1) := by decide +kernel
theorem dX0_ticksFromQueue_45 : decode cX0_ticksFromQueue 45 = .ok (.aload_n 1, 1) := by decide +kernel
theorem dX0_ticksFromQueue_46 : decode cX0_ticksFromQueue 46 = .ok (.aload_n 1, 1) := by decide +kernel
theorem dX0_ticksFromQueue_47 : decode cX0_ticksFromQueue 47 = .ok (.invokevirtual 197, 3) := by decide +kernel
theorem dX0_ticksFromQueue_50 : decode cX0_ticksFromQueue 50 = .ok (.invokevirtual 216, 3) := by decide +kernel
theorem dX0_ticksFromQueue_53 : decode cX0_ticksFromQueue 53 = .ok (.iadd, 1) := by decide +kernel
theorem dX0_ticksFromQueue_54 : decode cX0_ticksFromQueue 54 = .ok (.ireturn, 1) := by decide +kernel
theorem dX0_accountsGap_0 : decode cX0_accountsGap 0 = .ok (.iconst 0, 1) := by decide +kernel
theorem dX0_accountsGap_1 : decode cX0_accountsGap 1 = .ok (.istore_n 1, 1) := by decide +kernel
theorem dX0_accountsGap_2 : decode cX0_accountsGap 2 = .ok (.iconst 0, 1) := by decide +kernel
theorem dX0_accountsGap_3 : decode cX0_accountsGap 3 = .ok (.istore_n 2, 1) := by decide +kernel
theorem dX0_accountsGap_4 : decode cX0_accountsGap 4 = .ok (.iconst 0, 1) := by decide +kernel
theorem dX0_accountsGap_5 : decode cX0_accountsGap 5 = .ok (.istore_n 3, 1) := by decide +kernel
theorem dX0_accountsGap_6 : decode cX0_accountsGap 6 = .ok (.iload_n 3, 1) := by decide +kernel
theorem dX0_accountsGap_7 : decode cX0_accountsGap 7 = .ok (.aload_n 0, 1) := by decide +kernel
theorem dX0_accountsGap_8 : decode cX0_accountsGap 8 = .ok (.getfield 32, 3) := by decide +kernel
theorem dX0_accountsGap_11 : decode cX0_accountsGap 11 = .ok (.if_icmp .ge 21, 3) := by decide +kernel
theorem dX0_accountsGap_14 : decode cX0_accountsGap 14 = .ok (.iload_n 1, 1) := by decide +kernel
theorem dX0_accountsGap_15 : decode cX0_accountsGap 15 = .ok (.aload_n 0, 1) := by decide +kernel
theorem dX0_accountsGap_16 : decode cX0_accountsGap 16 = .ok (.getfield 11, 3) := by decide +kernel
theorem dX0_accountsGap_19 : decode cX0_accountsGap 19 = .ok (.iload_n 3, 1) := by decide +kernel
theorem dX0_accountsGap_20 : decode cX0_accountsGap 20 = .ok (.aaload, 1) := by decide +kernel
theorem dX0_accountsGap_21 : decode cX0_accountsGap 21 = .ok (.getfield 203, 3) := by decide +kernel
theorem dX0_accountsGap_24 : decode cX0_accountsGap 24 = .ok (.iadd, 1) := by decide +kernel
theorem dX0_accountsGap_25 : decode cX0_accountsGap 25 = .ok (.istore_n 1, 1) := by decide +kernel
theorem dX0_accountsGap_26 : decode cX0_accountsGap 26 = .ok (.iinc 3 1, 3) := by decide +kernel
theorem dX0_accountsGap_29 : decode cX0_accountsGap 29 = .ok (.goto (-23), 3) := by decide +kernel
theorem dX0_accountsGap_32 : decode cX0_accountsGap 32 = .ok (.iconst 0, 1) := by decide +kernel
theorem dX0_accountsGap_33 : decode cX0_accountsGap 33 = .ok (.istore_n 3, 1) := by decide +kernel
theorem dX0_accountsGap_34 : decode cX0_accountsGap 34 = .ok (.iload_n 3, 1) := by decide +kernel
theorem dX0_accountsGap_35 : decode cX0_accountsGap 35 = .ok (.aload_n 0, 1) := by decide +kernel
theorem dX0_accountsGap_36 : decode cX0_accountsGap 36 = .ok (.getfield 36, 3) := by decide +kernel
theorem dX0_accountsGap_39 : decode cX0_accountsGap 39 = .ok (.if_icmp .ge 21, 3) := by decide +kernel
theorem dX0_accountsGap_42 : decode cX0_accountsGap 42 = .ok (.iload_n 2, 1) := by decide +kernel
theorem dX0_accountsGap_43 : decode cX0_accountsGap 43 = .ok (.aload_n 0, 1) := by decide +kernel
theorem dX0_accountsGap_44 : decode cX0_accountsGap 44 = .ok (.getfield 20, 3) := by decide +kernel
theorem dX0_accountsGap_47 : decode cX0_accountsGap 47 = .ok (.iload_n 3, 1) := by decide +kernel
theorem dX0_accountsGap_48 : decode cX0_accountsGap 48 = .ok (.aaload, 1) := by decide +kernel
theorem dX0_accountsGap_49 : decode cX0_accountsGap 49 = .ok (.getfield 139, 3) := by decide +kernel
theorem dX0_accountsGap_52 : decode cX0_accountsGap 52 = .ok (.iadd, 1) := by decide +kernel
theorem dX0_accountsGap_53 : decode cX0_accountsGap 53 = .ok (.istore_n 2, 1) := by decide +kernel
theorem dX0_accountsGap_54 : decode cX0_accountsGap 54 = .ok (.iinc 3 1, 3) := by decide +kernel
theorem dX0_accountsGap_57 : decode cX0_accountsGap 57 = .ok (.goto (-23), 3) := by decide +kernel
theorem dX0_accountsGap_60 : decode cX0_accountsGap 60 = .ok (.iconst 0, 1) := by decide +kernel
theorem dX0_accountsGap_61 : decode cX0_accountsGap 61 = .ok (.istore_n 3, 1) := by decide +kernel
theorem dX0_accountsGap_62 : decode cX0_accountsGap 62 = .ok (.iload_n 3, 1) := by decide +kernel
theorem dX0_accountsGap_63 : decode cX0_accountsGap 63 = .ok (.aload_n 0, 1) := by decide +kernel
theorem dX0_accountsGap_64 : decode cX0_accountsGap 64 = .ok (.getfield 39, 3) := by decide +kernel
theorem dX0_accountsGap_67 : decode cX0_accountsGap 67 = .ok (.if_icmp .ge 33, 3) := by decide +kernel
theorem dX0_accountsGap_70 : decode cX0_accountsGap 70 = .ok (.iload_n 1, 1) := by decide +kernel
theorem dX0_accountsGap_71 : decode cX0_accountsGap 71 = .ok (.aload_n 0, 1) := by decide +kernel
theorem dX0_accountsGap_72 : decode cX0_accountsGap 72 = .ok (.getfield 27, 3) := by decide +kernel
theorem dX0_accountsGap_75 : decode cX0_accountsGap 75 = .ok (.iload_n 3, 1) := by decide +kernel
theorem dX0_accountsGap_76 : decode cX0_accountsGap 76 = .ok (.aaload, 1) := by decide +kernel
theorem dX0_accountsGap_77 : decode cX0_accountsGap 77 = .ok (.getfield 200, 3) := by decide +kernel
theorem dX0_accountsGap_80 : decode cX0_accountsGap 80 = .ok (.isub, 1) := by decide +kernel
theorem dX0_accountsGap_81 : decode cX0_accountsGap 81 = .ok (.istore_n 1, 1) := by decide +kernel
theorem dX0_accountsGap_82 : decode cX0_accountsGap 82 = .ok (.iload_n 2, 1) := by decide +kernel
theorem dX0_accountsGap_83 : decode cX0_accountsGap 83 = .ok (.aload_n 0, 1) := by decide +kernel
theorem dX0_accountsGap_84 : decode cX0_accountsGap 84 = .ok (.getfield 27, 3) := by decide +kernel
theorem dX0_accountsGap_87 : decode cX0_accountsGap 87 = .ok (.iload_n 3, 1) := by decide +kernel
theorem dX0_accountsGap_88 : decode cX0_accountsGap 88 = .ok (.aaload, 1) := by decide +kernel
theorem dX0_accountsGap_89 : decode cX0_accountsGap 89 = .ok (.getfield 136, 3) := by decide +kernel
theorem dX0_accountsGap_92 : decode cX0_accountsGap 92 = .ok (.isub, 1) := by decide +kernel
theorem dX0_accountsGap_93 : decode cX0_accountsGap 93 = .ok (.istore_n 2, 1) := by decide +kernel
theorem dX0_accountsGap_94 : decode cX0_accountsGap 94 = .ok (.iinc 3 1, 3) := by decide +kernel
theorem dX0_accountsGap_97 : decode cX0_accountsGap 97 = .ok (.goto (-35), 3) := by decide +kernel
theorem dX0_accountsGap_100 : decode cX0_accountsGap 100 = .ok (.iload_n 1, 1) := by decide +kernel
theorem dX0_accountsGap_101 : decode cX0_accountsGap 101 = .ok (.invokestatic 226, 3) := by decide +kernel
theorem dX0_accountsGap_104 : decode cX0_accountsGap 104 = .ok (.iload_n 2, 1) := by decide +kernel
theorem dX0_accountsGap_105 : decode cX0_accountsGap 105 = .ok (.invokestatic 226, 3) := by decide +kernel
theorem dX0_accountsGap_108 : decode cX0_accountsGap 108 = .ok (.iadd, 1) := by decide +kernel
theorem dX0_accountsGap_109 : decode cX0_accountsGap 109 = .ok (.ireturn, 1) := by decide +kernel
theorem dX0_liftWithMostRiders_0 : decode cX0_liftWithMostRiders 0 = .ok (.iconst (-1), 1) := by decide +kernel
theorem dX0_liftWithMostRiders_1 : decode cX0_liftWithMostRiders 1 = .ok (.istore_n 1, 1) := by decide +kernel
theorem dX0_liftWithMostRiders_2 : decode cX0_liftWithMostRiders 2 = .ok (.iconst 0, 1) := by decide +kernel
theorem dX0_liftWithMostRiders_3 : decode cX0_liftWithMostRiders 3 = .ok (.istore_n 2, 1) := by decide +kernel
theorem dX0_liftWithMostRiders_4 : decode cX0_liftWithMostRiders 4 = .ok (.iconst 0, 1) := by decide +kernel
theorem dX0_liftWithMostRiders_5 : decode cX0_liftWithMostRiders 5 = .ok (.istore_n 3, 1) := by decide +kernel
theorem dX0_liftWithMostRiders_6 : decode cX0_liftWithMostRiders 6 = .ok (.iload_n 3, 1) := by decide +kernel
theorem dX0_liftWithMostRiders_7 : decode cX0_liftWithMostRiders 7 = .ok (.aload_n 0, 1) := by decide +kernel
theorem dX0_liftWithMostRiders_8 : decode cX0_liftWithMostRiders 8 = .ok (.getfield 32, 3) := by decide +kernel
theorem dX0_liftWithMostRiders_11 : decode cX0_liftWithMostRiders 11 = .ok (.if_icmp .ge 34, 3) := by decide +kernel
theorem dX0_liftWithMostRiders_14 : decode cX0_liftWithMostRiders 14 = .ok (.aload_n 0, 1) := by decide +kernel
theorem dX0_liftWithMostRiders_15 : decode cX0_liftWithMostRiders 15 = .ok (.getfield 11, 3) := by decide +kernel
theorem dX0_liftWithMostRiders_18 : decode cX0_liftWithMostRiders 18 = .ok (.iload_n 3, 1) := by decide +kernel
theorem dX0_liftWithMostRiders_19 : decode cX0_liftWithMostRiders 19 = .ok (.aaload, 1) := by decide +kernel
theorem dX0_liftWithMostRiders_20 : decode cX0_liftWithMostRiders 20 = .ok (.getfield 203, 3) := by decide +kernel
theorem dX0_liftWithMostRiders_23 : decode cX0_liftWithMostRiders 23 = .ok (.iload_n 2, 1) := by decide +kernel
theorem dX0_liftWithMostRiders_24 : decode cX0_liftWithMostRiders 24 = .ok (.if_icmp .le 15, 3) := by decide +kernel
theorem dX0_liftWithMostRiders_27 : decode cX0_liftWithMostRiders 27 = .ok (.aload_n 0, 1) := by decide +kernel
theorem dX0_liftWithMostRiders_28 : decode cX0_liftWithMostRiders 28 = .ok (.getfield 11, 3) := by decide +kernel
theorem dX0_liftWithMostRiders_31 : decode cX0_liftWithMostRiders 31 = .ok (.iload_n 3, 1) := by decide +kernel
theorem dX0_liftWithMostRiders_32 : decode cX0_liftWithMostRiders 32 = .ok (.aaload, 1) := by decide +kernel
theorem dX0_liftWithMostRiders_33 : decode cX0_liftWithMostRiders 33 = .ok (.getfield 203, 3) := by decide +kernel
theorem dX0_liftWithMostRiders_36 : decode cX0_liftWithMostRiders 36 = .ok (.istore_n 2, 1) := by decide +kernel
theorem dX0_liftWithMostRiders_37 : decode cX0_liftWithMostRiders 37 = .ok (.iload_n 3, 1) := by decide +kernel
theorem dX0_liftWithMostRiders_38 : decode cX0_liftWithMostRiders 38 = .ok (.istore_n 1, 1) := by decide +kernel
theorem dX0_liftWithMostRiders_39 : decode cX0_liftWithMostRiders 39 = .ok (.iinc 3 1, 3) := by decide +kernel
theorem dX0_liftWithMostRiders_42 : decode cX0_liftWithMostRiders 42 = .ok (.goto (-36), 3) := by decide +kernel
theorem dX0_liftWithMostRiders_45 : decode cX0_liftWithMostRiders 45 = .ok (.iload_n 1, 1) := by decide +kernel
theorem dX0_liftWithMostRiders_46 : decode cX0_liftWithMostRiders 46 = .ok (.ireturn, 1) := by decide +kernel
theorem dX1_init_0 : decode cX1_init 0 = .ok (.aload_n 0, 1) := by decide +kernel
theorem dX1_init_1 : decode cX1_init 1 = .ok (.invokespecial 3, 3) := by decide +kernel
theorem dX1_init_4 : decode cX1_init 4 = .ok (.return_, 1) := by decide +kernel
theorem dX1_begin_0 : decode cX1_begin 0 = .ok (.aload_n 0, 1) := by decide +kernel
theorem dX1_begin_1 : decode cX1_begin 1 = .ok (.iload_n 2, 1) := by decide +kernel
theorem dX1_begin_2 : decode cX1_begin 2 = .ok (.putfield 9, 3) := by decide +kernel
theorem dX1_begin_5 : decode cX1_begin 5 = .ok (.aload_n 0, 1) := by decide +kernel
theorem dX1_begin_6 : decode cX1_begin 6 = .ok (.iload_n 3, 1) := by decide +kernel
theorem dX1_begin_7 : decode cX1_begin 7 = .ok (.putfield 15, 3) := by decide +kernel
theorem dX1_begin_10 : decode cX1_begin 10 = .ok (.aload_n 0, 1) := by decide +kernel
theorem dX1_begin_11 : decode cX1_begin 11 = .ok (.iload 4, 2) := by decide +kernel
theorem dX1_begin_13 : decode cX1_begin 13 = .ok (.putfield 18, 3) := by decide +kernel
theorem dX1_begin_16 : decode cX1_begin 16 = .ok (.aload_n 0, 1) := by decide +kernel
theorem dX1_begin_17 : decode cX1_begin 17 = .ok (.iload 5, 2) := by decide +kernel
theorem dX1_begin_19 : decode cX1_begin 19 = .ok (.putfield 21, 3) := by decide +kernel
theorem dX1_begin_22 : decode cX1_begin 22 = .ok (.aload_n 0, 1) := by decide +kernel
theorem dX1_begin_23 : decode cX1_begin 23 = .ok (.iconst 0, 1) := by decide +kernel
theorem dX1_begin_24 : decode cX1_begin 24 = .ok (.putfield 24, 3) := by decide +kernel
theorem dX1_begin_27 : decode cX1_begin 27 = .ok (.aload_n 0, 1) := by decide +kernel
theorem dX1_begin_28 : decode cX1_begin 28 = .ok (.iconst 0, 1) := by decide +kernel
theorem dX1_begin_29 : decode cX1_begin 29 = .ok (.putfield 27, 3) := by decide +kernel
theorem dX1_begin_32 : decode cX1_begin 32 = .ok (.aload_n 0, 1) := by decide +kernel
theorem dX1_begin_33 : decode cX1_begin 33 = .ok (.iconst 0, 1) := by decide +kernel
theorem dX1_begin_34 : decode cX1_begin 34 = .ok (.putfield 30, 3) := by decide +kernel
theorem dX1_begin_37 : decode cX1_begin 37 = .ok (.aload_n 0, 1) := by decide +kernel
theorem dX1_begin_38 : decode cX1_begin 38 = .ok (.iconst 0, 1) := by decide +kernel
theorem dX1_begin_39 : decode cX1_begin 39 = .ok (.iload_n 1, 1) := by decide +kernel
theorem dX1_begin_40 : decode cX1_begin 40 = .ok (.iconst 0, 1) := by decide +kernel
theorem dX1_begin_41 : decode cX1_begin 41 = .ok (.iconst 0, 1) := by decide +kernel
theorem dX1_begin_42 : decode cX1_begin 42 = .ok (.invokevirtual 33, 3) := by decide +kernel
theorem dX1_begin_45 : decode cX1_begin 45 = .ok (.return_, 1) := by decide +kernel
theorem dX1_copyFrom_0 : decode cX1_copyFrom 0 = .ok (.aload_n 0, 1) := by decide +kernel
theorem dX1_copyFrom_1 : decode cX1_copyFrom 1 = .ok (.aload_n 1, 1) := by decide +kernel
theorem dX1_copyFrom_2 : decode cX1_copyFrom 2 = .ok (.getfield 9, 3) := by decide +kernel
theorem dX1_copyFrom_5 : decode cX1_copyFrom 5 = .ok (.putfield 9, 3) := by decide +kernel
theorem dX1_copyFrom_8 : decode cX1_copyFrom 8 = .ok (.aload_n 0, 1) := by decide +kernel
theorem dX1_copyFrom_9 : decode cX1_copyFrom 9 = .ok (.aload_n 1, 1) := by decide +kernel
theorem dX1_copyFrom_10 : decode cX1_copyFrom 10 = .ok (.getfield 15, 3) := by decide +kernel
theorem dX1_copyFrom_13 : decode cX1_copyFrom 13 = .ok (.putfield 15, 3) := by decide +kernel
theorem dX1_copyFrom_16 : decode cX1_copyFrom 16 = .ok (.aload_n 0, 1) := by decide +kernel
theorem dX1_copyFrom_17 : decode cX1_copyFrom 17 = .ok (.aload_n 1, 1) := by decide +kernel
theorem dX1_copyFrom_18 : decode cX1_copyFrom 18 = .ok (.getfield 18, 3) := by decide +kernel
theorem dX1_copyFrom_21 : decode cX1_copyFrom 21 = .ok (.putfield 18, 3) := by decide +kernel
theorem dX1_copyFrom_24 : decode cX1_copyFrom 24 = .ok (.aload_n 0, 1) := by decide +kernel
theorem dX1_copyFrom_25 : decode cX1_copyFrom 25 = .ok (.aload_n 1, 1) := by decide +kernel
theorem dX1_copyFrom_26 : decode cX1_copyFrom 26 = .ok (.getfield 21, 3) := by decide +kernel
theorem dX1_copyFrom_29 : decode cX1_copyFrom 29 = .ok (.putfield 21, 3) := by decide +kernel
theorem dX1_copyFrom_32 : decode cX1_copyFrom 32 = .ok (.aload_n 0, 1) := by decide +kernel
theorem dX1_copyFrom_33 : decode cX1_copyFrom 33 = .ok (.aload_n 1, 1) := by decide +kernel
theorem dX1_copyFrom_34 : decode cX1_copyFrom 34 = .ok (.getfield 24, 3) := by decide +kernel
theorem dX1_copyFrom_37 : decode cX1_copyFrom 37 = .ok (.putfield 24, 3) := by decide +kernel
theorem dX1_copyFrom_40 : decode cX1_copyFrom 40 = .ok (.aload_n 0, 1) := by decide +kernel
theorem dX1_copyFrom_41 : decode cX1_copyFrom 41 = .ok (.aload_n 1, 1) := by decide +kernel
theorem dX1_copyFrom_42 : decode cX1_copyFrom 42 = .ok (.getfield 27, 3) := by decide +kernel
theorem dX1_copyFrom_45 : decode cX1_copyFrom 45 = .ok (.putfield 27, 3) := by decide +kernel
theorem dX1_copyFrom_48 : decode cX1_copyFrom 48 = .ok (.aload_n 0, 1) := by decide +kernel
theorem dX1_copyFrom_49 : decode cX1_copyFrom 49 = .ok (.aload_n 1, 1) := by decide +kernel
theorem dX1_copyFrom_50 : decode cX1_copyFrom 50 = .ok (.getfield 30, 3) := by decide +kernel
theorem dX1_copyFrom_53 : decode cX1_copyFrom 53 = .ok (.putfield 30, 3) := by decide +kernel
theorem dX1_copyFrom_56 : decode cX1_copyFrom 56 = .ok (.aload_n 0, 1) := by decide +kernel
theorem dX1_copyFrom_57 : decode cX1_copyFrom 57 = .ok (.aload_n 1, 1) := by decide +kernel
theorem dX1_copyFrom_58 : decode cX1_copyFrom 58 = .ok (.getfield 37, 3) := by decide +kernel
theorem dX1_copyFrom_61 : decode cX1_copyFrom 61 = .ok (.aload_n 1, 1) := by decide +kernel
theorem dX1_copyFrom_62 : decode cX1_copyFrom 62 = .ok (.getfield 40, 3) := by decide +kernel
theorem dX1_copyFrom_65 : decode cX1_copyFrom 65 = .ok (.aload_n 1, 1) := by decide +kernel
theorem dX1_copyFrom_66 : decode cX1_copyFrom 66 = .ok (.getfield 43, 3) := by decide +kernel
theorem dX1_copyFrom_69 : decode cX1_copyFrom 69 = .ok (.aload_n 1, 1) := by decide +kernel
theorem dX1_copyFrom_70 : decode cX1_copyFrom 70 = .ok (.getfield 46, 3) := by decide +kernel
theorem dX1_copyFrom_73 : decode cX1_copyFrom 73 = .ok (.invokevirtual 33, 3) := by decide +kernel
theorem dX1_copyFrom_76 : decode cX1_copyFrom 76 = .ok (.return_, 1) := by decide +kernel
theorem dX1_standAt_0 : decode cX1_standAt 0 = .ok (.aload_n 0, 1) := by decide +kernel
theorem dX1_standAt_1 : decode cX1_standAt 1 = .ok (.iconst 0, 1) := by decide +kernel
theorem dX1_standAt_2 : decode cX1_standAt 2 = .ok (.iload_n 1, 1) := by decide +kernel
theorem dX1_standAt_3 : decode cX1_standAt 3 = .ok (.iconst 0, 1) := by decide +kernel
theorem dX1_standAt_4 : decode cX1_standAt 4 = .ok (.iconst 0, 1) := by decide +kernel
theorem dX1_standAt_5 : decode cX1_standAt 5 = .ok (.invokevirtual 33, 3) := by decide +kernel
theorem dX1_standAt_8 : decode cX1_standAt 8 = .ok (.return_, 1) := by decide +kernel
theorem dX1_goAway_0 : decode cX1_goAway 0 = .ok (.aload_n 0, 1) := by decide +kernel
theorem dX1_goAway_1 : decode cX1_goAway 1 = .ok (.iconst 4, 1) := by decide +kernel
theorem dX1_goAway_2 : decode cX1_goAway 2 = .ok (.iconst (-1), 1) := by decide +kernel
theorem dX1_goAway_3 : decode cX1_goAway 3 = .ok (.iconst 0, 1) := by decide +kernel
theorem dX1_goAway_4 : decode cX1_goAway 4 = .ok (.iconst 0, 1) := by decide +kernel
theorem dX1_goAway_5 : decode cX1_goAway 5 = .ok (.invokevirtual 33, 3) := by decide +kernel
theorem dX1_goAway_8 : decode cX1_goAway 8 = .ok (.return_, 1) := by decide +kernel
theorem dX1_become_0 : decode cX1_become 0 = .ok (.aload_n 0, 1) := by decide +kernel
theorem dX1_become_1 : decode cX1_become 1 = .ok (.iload_n 1, 1) := by decide +kernel
theorem dX1_become_2 : decode cX1_become 2 = .ok (.putfield 37, 3) := by decide +kernel
theorem dX1_become_5 : decode cX1_become 5 = .ok (.aload_n 0, 1) := by decide +kernel
theorem dX1_become_6 : decode cX1_become 6 = .ok (.iload_n 2, 1) := by decide +kernel
theorem dX1_become_7 : decode cX1_become 7 = .ok (.putfield 40, 3) := by decide +kernel
theorem dX1_become_10 : decode cX1_become 10 = .ok (.aload_n 0, 1) := by decide +kernel
theorem dX1_become_11 : decode cX1_become 11 = .ok (.iload_n 3, 1) := by decide +kernel
theorem dX1_become_12 : decode cX1_become 12 = .ok (.putfield 43, 3) := by decide +kernel
theorem dX1_become_15 : decode cX1_become 15 = .ok (.aload_n 0, 1) := by decide +kernel
theorem dX1_become_16 : decode cX1_become 16 = .ok (.iload 4, 2) := by decide +kernel
theorem dX1_become_18 : decode cX1_become 18 = .ok (.putfield 46, 3) := by decide +kernel
theorem dX1_become_21 : decode cX1_become 21 = .ok (.return_, 1) := by decide +kernel
theorem dX1_is_0 : decode cX1_is 0 = .ok (.aload_n 0, 1) := by decide +kernel
theorem dX1_is_1 : decode cX1_is 1 = .ok (.getfield 37, 3) := by decide +kernel
theorem dX1_is_4 : decode cX1_is 4 = .ok (.iload_n 1, 1) := by decide +kernel
theorem dX1_is_5 : decode cX1_is 5 = .ok (.if_icmp .ne 15, 3) := by decide +kernel
theorem dX1_is_8 : decode cX1_is 8 = .ok (.aload_n 0, 1) := by decide +kernel
theorem dX1_is_9 : decode cX1_is 9 = .ok (.getfield 40, 3) := by decide +kernel
theorem dX1_is_12 : decode cX1_is 12 = .ok (.iload_n 2, 1) := by decide +kernel
theorem dX1_is_13 : decode cX1_is 13 = .ok (.if_icmp .ne 7, 3) := by decide +kernel
theorem dX1_is_16 : decode cX1_is 16 = .ok (.iconst 1, 1) := by decide +kernel
theorem dX1_is_17 : decode cX1_is 17 = .ok (.goto 4, 3) := by decide +kernel
theorem dX1_is_20 : decode cX1_is 20 = .ok (.iconst 0, 1) := by decide +kernel
theorem dX1_is_21 : decode cX1_is 21 = .ok (.ireturn, 1) := by decide +kernel
theorem dX2_init_0 : decode cX2_init 0 = .ok (.aload_n 0, 1) := by decide +kernel
theorem dX2_init_1 : decode cX2_init 1 = .ok (.invokespecial 3, 3) := by decide +kernel
theorem dX2_init_4 : decode cX2_init 4 = .ok (.aload_n 0, 1) := by decide +kernel
theorem dX2_init_5 : decode cX2_init 5 = .ok (.bipush 8, 2) := by decide +kernel
theorem dX2_init_7 : decode cX2_init 7 = .ok (.anewarray 9, 3) := by decide +kernel
theorem dX2_init_10 : decode cX2_init 10 = .ok (.putfield 11, 3) := by decide +kernel
theorem dX2_init_13 : decode cX2_init 13 = .ok (.iconst 0, 1) := by decide +kernel
theorem dX2_init_14 : decode cX2_init 14 = .ok (.istore_n 1, 1) := by decide +kernel
theorem dX2_init_15 : decode cX2_init 15 = .ok (.iload_n 1, 1) := by decide +kernel
theorem dX2_init_16 : decode cX2_init 16 = .ok (.bipush 8, 2) := by decide +kernel
theorem dX2_init_18 : decode cX2_init 18 = .ok (.if_icmp .ge 22, 3) := by decide +kernel
theorem dX2_init_21 : decode cX2_init 21 = .ok (.aload_n 0, 1) := by decide +kernel
theorem dX2_init_22 : decode cX2_init 22 = .ok (.getfield 11, 3) := by decide +kernel
theorem dX2_init_25 : decode cX2_init 25 = .ok (.iload_n 1, 1) := by decide +kernel
theorem dX2_init_26 : decode cX2_init 26 = .ok (.new 9, 3) := by decide +kernel
theorem dX2_init_29 : decode cX2_init 29 = .ok (.dup, 1) := by decide +kernel
theorem dX2_init_30 : decode cX2_init 30 = .ok (.invokespecial 17, 3) := by decide +kernel
theorem dX2_init_33 : decode cX2_init 33 = .ok (.aastore, 1) := by decide +kernel
theorem dX2_init_34 : decode cX2_init 34 = .ok (.iinc 1 1, 3) := by decide +kernel
theorem dX2_init_37 : decode cX2_init 37 = .ok (.goto (-22), 3) := by decide +kernel
theorem dX2_init_40 : decode cX2_init 40 = .ok (.return_, 1) := by decide +kernel
theorem dX2_forgetAll_0 : decode cX2_forgetAll 0 = .ok (.aload_n 0, 1) := by decide +kernel
theorem dX2_forgetAll_1 : decode cX2_forgetAll 1 = .ok (.iconst 0, 1) := by decide +kernel
theorem dX2_forgetAll_2 : decode cX2_forgetAll 2 = .ok (.putfield 18, 3) := by decide +kernel
theorem dX2_forgetAll_5 : decode cX2_forgetAll 5 = .ok (.return_, 1) := by decide +kernel
theorem dX2_remember_0 : decode cX2_remember 0 = .ok (.aload_n 0, 1) := by decide +kernel
theorem dX2_remember_1 : decode cX2_remember 1 = .ok (.getfield 11, 3) := by decide +kernel
theorem dX2_remember_4 : decode cX2_remember 4 = .ok (.aload_n 0, 1) := by decide +kernel
theorem dX2_remember_5 : decode cX2_remember 5 = .ok (.getfield 22, 3) := by decide +kernel
theorem dX2_remember_8 : decode cX2_remember 8 = .ok (.bipush 8, 2) := by decide +kernel
theorem dX2_remember_10 : decode cX2_remember 10 = .ok (.invokestatic 25, 3) := by decide +kernel
theorem dX2_remember_13 : decode cX2_remember 13 = .ok (.aaload, 1) := by decide +kernel
theorem dX2_remember_14 : decode cX2_remember 14 = .ok (.aload_n 1, 1) := by decide +kernel
theorem dX2_remember_15 : decode cX2_remember 15 = .ok (.invokevirtual 31, 3) := by decide +kernel
theorem dX2_remember_18 : decode cX2_remember 18 = .ok (.aload_n 0, 1) := by decide +kernel
theorem dX2_remember_19 : decode cX2_remember 19 = .ok (.aload_n 0, 1) := by decide +kernel
theorem dX2_remember_20 : decode cX2_remember 20 = .ok (.getfield 22, 3) := by decide +kernel
theorem dX2_remember_23 : decode cX2_remember 23 = .ok (.iconst 1, 1) := by decide +kernel
theorem dX2_remember_24 : decode cX2_remember 24 = .ok (.iadd, 1) := by decide +kernel
theorem dX2_remember_25 : decode cX2_remember 25 = .ok (.bipush 8, 2) := by decide +kernel
theorem dX2_remember_27 : decode cX2_remember 27 = .ok (.invokestatic 25, 3) := by decide +kernel
theorem dX2_remember_30 : decode cX2_remember 30 = .ok (.putfield 22, 3) := by decide +kernel
theorem dX2_remember_33 : decode cX2_remember 33 = .ok (.aload_n 0, 1) := by decide +kernel
theorem dX2_remember_34 : decode cX2_remember 34 = .ok (.aload_n 0, 1) := by decide +kernel
theorem dX2_remember_35 : decode cX2_remember 35 = .ok (.getfield 18, 3) := by decide +kernel
theorem dX2_remember_38 : decode cX2_remember 38 = .ok (.iconst 1, 1) := by decide +kernel
theorem dX2_remember_39 : decode cX2_remember 39 = .ok (.iadd, 1) := by decide +kernel
theorem dX2_remember_40 : decode cX2_remember 40 = .ok (.bipush 8, 2) := by decide +kernel
theorem dX2_remember_42 : decode cX2_remember 42 = .ok (.invokestatic 35, 3) := by decide +kernel
theorem dX2_remember_45 : decode cX2_remember 45 = .ok (.putfield 18, 3) := by decide +kernel
theorem dX2_remember_48 : decode cX2_remember 48 = .ok (.return_, 1) := by decide +kernel
theorem dX2_takeBack_0 : decode cX2_takeBack 0 = .ok (.aload_n 0, 1) := by decide +kernel
theorem dX2_takeBack_1 : decode cX2_takeBack 1 = .ok (.getfield 18, 3) := by decide +kernel
theorem dX2_takeBack_4 : decode cX2_takeBack 4 = .ok (.ifCond .le 41, 3) := by decide +kernel
theorem dX2_takeBack_7 : decode cX2_takeBack 7 = .ok (.aload_n 0, 1) := by decide +kernel
theorem dX2_takeBack_8 : decode cX2_takeBack 8 = .ok (.aload_n 0, 1) := by decide +kernel
theorem dX2_takeBack_9 : decode cX2_takeBack 9 = .ok (.getfield 22, 3) := by decide +kernel
theorem dX2_takeBack_12 : decode cX2_takeBack 12 = .ok (.iconst 1, 1) := by decide +kernel
theorem dX2_takeBack_13 : decode cX2_takeBack 13 = .ok (.isub, 1) := by decide +kernel
theorem dX2_takeBack_14 : decode cX2_takeBack 14 = .ok (.bipush 8, 2) := by decide +kernel
theorem dX2_takeBack_16 : decode cX2_takeBack 16 = .ok (.invokestatic 25, 3) := by decide +kernel
theorem dX2_takeBack_19 : decode cX2_takeBack 19 = .ok (.putfield 22, 3) := by decide +kernel
theorem dX2_takeBack_22 : decode cX2_takeBack 22 = .ok (.aload_n 1, 1) := by decide +kernel
theorem dX2_takeBack_23 : decode cX2_takeBack 23 = .ok (.aload_n 0, 1) := by decide +kernel
theorem dX2_takeBack_24 : decode cX2_takeBack 24 = .ok (.getfield 11, 3) := by decide +kernel
theorem dX2_takeBack_27 : decode cX2_takeBack 27 = .ok (.aload_n 0, 1) := by decide +kernel
theorem dX2_takeBack_28 : decode cX2_takeBack 28 = .ok (.getfield 22, 3) := by decide +kernel
theorem dX2_takeBack_31 : decode cX2_takeBack 31 = .ok (.aaload, 1) := by decide +kernel
theorem dX2_takeBack_32 : decode cX2_takeBack 32 = .ok (.invokevirtual 31, 3) := by decide +kernel
theorem dX2_takeBack_35 : decode cX2_takeBack 35 = .ok (.aload_n 0, 1) := by decide +kernel
theorem dX2_takeBack_36 : decode cX2_takeBack 36 = .ok (.dup, 1) := by decide +kernel
theorem dX2_takeBack_37 : decode cX2_takeBack 37 = .ok (.getfield 18, 3) := by decide +kernel
theorem dX2_takeBack_40 : decode cX2_takeBack 40 = .ok (.iconst 1, 1) := by decide +kernel
theorem dX2_takeBack_41 : decode cX2_takeBack 41 = .ok (.isub, 1) := by decide +kernel
theorem dX2_takeBack_42 : decode cX2_takeBack 42 = .ok (.putfield 18, 3) := by decide +kernel
theorem dX2_takeBack_45 : decode cX2_takeBack 45 = .ok (.return_, 1) := by decide +kernel
theorem dX3_init_0 : decode cX3_init 0 = .ok (.aload_n 0, 1) := by decide +kernel
theorem dX3_init_1 : decode cX3_init 1 = .ok (.invokespecial 3, 3) := by decide +kernel
theorem dX3_init_4 : decode cX3_init 4 = .ok (.aload_n 0, 1) := by decide +kernel
theorem dX3_init_5 : decode cX3_init 5 = .ok (.bipush 60, 2) := by decide +kernel
theorem dX3_init_7 : decode cX3_init 7 = .ok (.newarray .char, 2) := by decide +kernel
theorem dX3_init_9 : decode cX3_init 9 = .ok (.putfield 9, 3) := by decide +kernel
theorem dX3_init_12 : decode cX3_init 12 = .ok (.return_, 1) := by decide +kernel
theorem dX3_becomeEmpty_0 : decode cX3_becomeEmpty 0 = .ok (.aload_n 0, 1) := by decide +kernel
theorem dX3_becomeEmpty_1 : decode cX3_becomeEmpty 1 = .ok (.iconst 0, 1) := by decide +kernel
theorem dX3_becomeEmpty_2 : decode cX3_becomeEmpty 2 = .ok (.putfield 15, 3) := by decide +kernel
theorem dX3_becomeEmpty_5 : decode cX3_becomeEmpty 5 = .ok (.return_, 1) := by decide +kernel
theorem dX3_put_0 : decode cX3_put 0 = .ok (.aload_n 0, 1) := by decide +kernel
theorem dX3_put_1 : decode cX3_put 1 = .ok (.getfield 15, 3) := by decide +kernel
theorem dX3_put_4 : decode cX3_put 4 = .ok (.ifCond .lt 32, 3) := by decide +kernel
theorem dX3_put_7 : decode cX3_put 7 = .ok (.aload_n 0, 1) := by decide +kernel
theorem dX3_put_8 : decode cX3_put 8 = .ok (.getfield 15, 3) := by decide +kernel
theorem dX3_put_11 : decode cX3_put 11 = .ok (.bipush 60, 2) := by decide +kernel
theorem dX3_put_13 : decode cX3_put 13 = .ok (.if_icmp .ge 23, 3) := by decide +kernel
theorem dX3_put_16 : decode cX3_put 16 = .ok (.aload_n 0, 1) := by decide +kernel
theorem dX3_put_17 : decode cX3_put 17 = .ok (.getfield 9, 3) := by decide +kernel
theorem dX3_put_20 : decode cX3_put 20 = .ok (.aload_n 0, 1) := by decide +kernel
theorem dX3_put_21 : decode cX3_put 21 = .ok (.getfield 15, 3) := by decide +kernel
theorem dX3_put_24 : decode cX3_put 24 = .ok (.iload_n 1, 1) := by decide +kernel
theorem dX3_put_25 : decode cX3_put 25 = .ok (.castore, 1) := by decide +kernel
theorem dX3_put_26 : decode cX3_put 26 = .ok (.aload_n 0, 1) := by decide +kernel
theorem dX3_put_27 : decode cX3_put 27 = .ok (.dup, 1) := by decide +kernel
theorem dX3_put_28 : decode cX3_put 28 = .ok (.getfield 15, 3) := by decide +kernel
theorem dX3_put_31 : decode cX3_put 31 = .ok (.iconst 1, 1) := by decide +kernel
theorem dX3_put_32 : decode cX3_put 32 = .ok (.iadd, 1) := by decide +kernel
theorem dX3_put_33 : decode cX3_put 33 = .ok (.putfield 15, 3) := by decide +kernel
theorem dX3_put_36 : decode cX3_put 36 = .ok (.aload_n 0, 1) := by decide +kernel
theorem dX3_put_37 : decode cX3_put 37 = .ok (.getfield 15, 3) := by decide +kernel
theorem dX3_put_40 : decode cX3_put 40 = .ok (.ireturn, 1) := by decide +kernel
theorem dX3_isText_0 : decode cX3_isText 0 = .ok (.aload_n 0, 1) := by decide +kernel
theorem dX3_isText_1 : decode cX3_isText 1 = .ok (.iconst 0, 1) := by decide +kernel
theorem dX3_isText_2 : decode cX3_isText 2 = .ok (.putfield 19, 3) := by decide +kernel
theorem dX3_isText_5 : decode cX3_isText 5 = .ok (.aload_n 0, 1) := by decide +kernel
theorem dX3_isText_6 : decode cX3_isText 6 = .ok (.iconst 0, 1) := by decide +kernel
theorem dX3_isText_7 : decode cX3_isText 7 = .ok (.putfield 22, 3) := by decide +kernel
theorem dX3_isText_10 : decode cX3_isText 10 = .ok (.iconst 0, 1) := by decide +kernel
theorem dX3_isText_11 : decode cX3_isText 11 = .ok (.istore_n 1, 1) := by decide +kernel
theorem dX3_isText_12 : decode cX3_isText 12 = .ok (.iload_n 1, 1) := by decide +kernel
theorem dX3_isText_13 : decode cX3_isText 13 = .ok (.bipush 20, 2) := by decide +kernel
theorem dX3_isText_15 : decode cX3_isText 15 = .ok (.if_icmp .ge 41, 3) := by decide +kernel
theorem dX3_isText_18 : decode cX3_isText 18 = .ok (.aload_n 0, 1) := by decide +kernel
theorem dX3_isText_19 : decode cX3_isText 19 = .ok (.invokevirtual 25, 3) := by decide +kernel
theorem dX3_isText_22 : decode cX3_isText 22 = .ok (.ifCond .ne 5, 3) := by decide +kernel
theorem dX3_isText_25 : decode cX3_isText 25 = .ok (.iconst 0, 1) := by decide +kernel
theorem dX3_isText_26 : decode cX3_isText 26 = .ok (.ireturn, 1) := by decide +kernel
theorem dX3_isText_27 : decode cX3_isText 27 = .ok (.aload_n 0, 1) := by decide +kernel
theorem dX3_isText_28 : decode cX3_isText 28 = .ok (.dup, 1) := by decide +kernel
theorem dX3_isText_29 : decode cX3_isText 29 = .ok (.getfield 22, 3) := by decide +kernel
theorem dX3_isText_32 : decode cX3_isText 32 = .ok (.iconst 1, 1) := by decide +kernel
theorem dX3_isText_33 : decode cX3_isText 33 = .ok (.iadd, 1) := by decide +kernel
theorem dX3_isText_34 : decode cX3_isText 34 = .ok (.putfield 22, 3) := by decide +kernel
theorem dX3_isText_37 : decode cX3_isText 37 = .ok (.aload_n 0, 1) := by decide +kernel
theorem dX3_isText_38 : decode cX3_isText 38 = .ok (.getfield 19, 3) := by decide +kernel
theorem dX3_isText_41 : decode cX3_isText 41 = .ok (.aload_n 0, 1) := by decide +kernel
theorem dX3_isText_42 : decode cX3_isText 42 = .ok (.getfield 15, 3) := by decide +kernel
theorem dX3_isText_45 : decode cX3_isText 45 = .ok (.if_icmp .ne 5, 3) := by decide +kernel
theorem dX3_isText_48 : decode cX3_isText 48 = .ok (.iconst 1, 1) := by decide +kernel
theorem dX3_isText_49 : decode cX3_isText 49 = .ok (.ireturn, 1) := by decide +kernel
theorem dX3_isText_50 : decode cX3_isText 50 = .ok (.iinc 1 1, 3) := by decide +kernel
theorem dX3_isText_53 : decode cX3_isText 53 = .ok (.goto (-41), 3) := by decide +kernel
theorem dX3_isText_56 : decode cX3_isText 56 = .ok (.iconst 0, 1) := by decide +kernel
theorem dX3_isText_57 : decode cX3_isText 57 = .ok (.ireturn, 1) := by decide +kernel
theorem dX3_takeEntry_0 : decode cX3_takeEntry 0 = .ok (.aload_n 0, 1) := by decide +kernel
theorem dX3_takeEntry_1 : decode cX3_takeEntry 1 = .ok (.aload_n 0, 1) := by decide +kernel
theorem dX3_takeEntry_2 : decode cX3_takeEntry 2 = .ok (.bipush 103, 2) := by decide +kernel
theorem dX3_takeEntry_4 : decode cX3_takeEntry 4 = .ok (.bipush 116, 2) := by decide +kernel
theorem dX3_takeEntry_6 : decode cX3_takeEntry 6 = .ok (.invokevirtual 29, 3) := by decide +kernel
theorem dX3_takeEntry_9 : decode cX3_takeEntry 9 = .ok (.ifCond .ne 14, 3) := by decide +kernel
theorem dX3_takeEntry_12 : decode cX3_takeEntry 12 = .ok (.aload_n 0, 1) := by decide +kernel
theorem dX3_takeEntry_13 : decode cX3_takeEntry 13 = .ok (.bipush 119, 2) := by decide +kernel
theorem dX3_takeEntry_15 : decode cX3_takeEntry 15 = .ok (.bipush 119, 2) := by decide +kernel
theorem dX3_takeEntry_17 : decode cX3_takeEntry 17 = .ok (.invokevirtual 29, 3) := by decide +kernel
theorem dX3_takeEntry_20 : decode cX3_takeEntry 20 = .ok (.ifCond .eq 15, 3) := by decide +kernel
theorem dX3_takeEntry_23 : decode cX3_takeEntry 23 = .ok (.aload_n 0, 1) := by decide +kernel
theorem dX3_takeEntry_24 : decode cX3_takeEntry 24 = .ok (.getfield 9, 3) := by decide +kernel
theorem dX3_takeEntry_27 : decode cX3_takeEntry 27 = .ok (.aload_n 0, 1) := by decide +kernel
theorem dX3_takeEntry_28 : decode cX3_takeEntry 28 = .ok (.getfield 19, 3) := by decide +kernel
theorem dX3_takeEntry_31 : decode cX3_takeEntry 31 = .ok (.caload, 1) := by decide +kernel
theorem dX3_takeEntry_32 : decode cX3_takeEntry 32 = .ok (.goto 5, 3) := by decide +kernel
theorem dX3_takeEntry_35 : decode cX3_takeEntry 35 = .ok (.bipush 32, 2) := by decide +kernel
theorem dX3_takeEntry_37 : decode cX3_takeEntry 37 = .ok (.putfield 33, 3) := by decide +kernel
theorem dX3_takeEntry_40 : decode cX3_takeEntry 40 = .ok (.aload_n 0, 1) := by decide +kernel
theorem dX3_takeEntry_41 : decode cX3_takeEntry 41 = .ok (.getfield 33, 3) := by decide +kernel
theorem dX3_takeEntry_44 : decode cX3_takeEntry 44 = .ok (.lookupswitch 275 #[(103, 52), (113, 99), (115, 151), (116, 203), (119, 239)], 52) := by decide +kernel
theorem dX3_takeEntry_96 : decode cX3_takeEntry 96 = .ok (.aload_n 0, 1) := by decide +kernel
theorem dX3_takeEntry_97 : decode cX3_takeEntry 97 = .ok (.dup, 1) := by decide +kernel
theorem dX3_takeEntry_98 : decode cX3_takeEntry 98 = .ok (.getfield 19, 3) := by decide +kernel
theorem dX3_takeEntry_101 : decode cX3_takeEntry 101 = .ok (.iconst 1, 1) := by decide +kernel
theorem dX3_takeEntry_102 : decode cX3_takeEntry 102 = .ok (.iadd, 1) := by decide +kernel
theorem dX3_takeEntry_103 : decode cX3_takeEntry 103 = .ok (.putfield 19, 3) := by decide +kernel
theorem dX3_takeEntry_106 : decode cX3_takeEntry 106 = .ok (.aload_n 0, 1) := by decide +kernel
theorem dX3_takeEntry_107 : decode cX3_takeEntry 107 = .ok (.bipush 48, 2) := by decide +kernel
theorem dX3_takeEntry_109 : decode cX3_takeEntry 109 = .ok (.bipush 55, 2) := by decide +kernel
theorem dX3_takeEntry_111 : decode cX3_takeEntry 111 = .ok (.invokevirtual 36, 3) := by decide +kernel
theorem dX3_takeEntry_114 : decode cX3_takeEntry 114 = .ok (.ifCond .eq 27, 3) := by decide +kernel
theorem dX3_takeEntry_117 : decode cX3_takeEntry 117 = .ok (.aload_n 0, 1) := by decide +kernel
theorem dX3_takeEntry_118 : decode cX3_takeEntry 118 = .ok (.bipush 49, 2) := by decide +kernel
theorem dX3_takeEntry_120 : decode cX3_takeEntry 120 = .ok (.bipush 51, 2) := by decide +kernel
theorem dX3_takeEntry_122 : decode cX3_takeEntry 122 = .ok (.invokevirtual 39, 3) := by decide +kernel
theorem dX3_takeEntry_125 : decode cX3_takeEntry 125 = .ok (.ifCond .eq 16, 3) := by decide +kernel
theorem dX3_takeEntry_128 : decode cX3_takeEntry 128 = .ok (.aload_n 0, 1) := by decide +kernel
theorem dX3_takeEntry_129 : decode cX3_takeEntry 129 = .ok (.bipush 59, 2) := by decide +kernel
theorem dX3_takeEntry_131 : decode cX3_takeEntry 131 = .ok (.invokevirtual 42, 3) := by decide +kernel
theorem dX3_takeEntry_134 : decode cX3_takeEntry 134 = .ok (.ifCond .eq 7, 3) := by decide +kernel
theorem dX3_takeEntry_137 : decode cX3_takeEntry 137 = .ok (.iconst 1, 1) := by decide +kernel
theorem dX3_takeEntry_138 : decode cX3_takeEntry 138 = .ok (.goto 4, 3) := by decide +kernel
theorem dX3_takeEntry_141 : decode cX3_takeEntry 141 = .ok (.iconst 0, 1) := by decide +kernel
theorem dX3_takeEntry_142 : decode cX3_takeEntry 142 = .ok (.ireturn, 1) := by decide +kernel
theorem dX3_takeEntry_143 : decode cX3_takeEntry 143 = .ok (.aload_n 0, 1) := by decide +kernel
theorem dX3_takeEntry_144 : decode cX3_takeEntry 144 = .ok (.dup, 1) := by decide +kernel
theorem dX3_takeEntry_145 : decode cX3_takeEntry 145 = .ok (.getfield 19, 3) := by decide +kernel
theorem dX3_takeEntry_148 : decode cX3_takeEntry 148 = .ok (.iconst 1, 1) := by decide +kernel
theorem dX3_takeEntry_149 : decode cX3_takeEntry 149 = .ok (.iadd, 1) := by decide +kernel
theorem dX3_takeEntry_150 : decode cX3_takeEntry 150 = .ok (.putfield 19, 3) := by decide +kernel
theorem dX3_takeEntry_153 : decode cX3_takeEntry 153 = .ok (.aload_n 0, 1) := by decide +kernel
theorem dX3_takeEntry_154 : decode cX3_takeEntry 154 = .ok (.invokevirtual 46, 3) := by decide +kernel
theorem dX3_takeEntry_157 : decode cX3_takeEntry 157 = .ok (.ifCond .eq 36, 3) := by decide +kernel
theorem dX3_takeEntry_160 : decode cX3_takeEntry 160 = .ok (.aload_n 0, 1) := by decide +kernel
theorem dX3_takeEntry_161 : decode cX3_takeEntry 161 = .ok (.bipush 45, 2) := by decide +kernel
theorem dX3_takeEntry_163 : decode cX3_takeEntry 163 = .ok (.invokevirtual 42, 3) := by decide +kernel
theorem dX3_takeEntry_166 : decode cX3_takeEntry 166 = .ok (.ifCond .eq 27, 3) := by decide +kernel
theorem dX3_takeEntry_169 : decode cX3_takeEntry 169 = .ok (.aload_n 0, 1) := by decide +kernel
theorem dX3_takeEntry_170 : decode cX3_takeEntry 170 = .ok (.bipush 48, 2) := by decide +kernel
theorem dX3_takeEntry_172 : decode cX3_takeEntry 172 = .ok (.bipush 53, 2) := by decide +kernel
theorem dX3_takeEntry_174 : decode cX3_takeEntry 174 = .ok (.invokevirtual 39, 3) := by decide +kernel
theorem dX3_takeEntry_177 : decode cX3_takeEntry 177 = .ok (.ifCond .eq 16, 3) := by decide +kernel
theorem dX3_takeEntry_180 : decode cX3_takeEntry 180 = .ok (.aload_n 0, 1) := by decide +kernel
theorem dX3_takeEntry_181 : decode cX3_takeEntry 181 = .ok (.bipush 59, 2) := by decide +kernel
theorem dX3_takeEntry_183 : decode cX3_takeEntry 183 = .ok (.invokevirtual 42, 3) := by decide +kernel
theorem dX3_takeEntry_186 : decode cX3_takeEntry 186 = .ok (.ifCond .eq 7, 3) := by decide +kernel
theorem dX3_takeEntry_189 : decode cX3_takeEntry 189 = .ok (.iconst 1, 1) := by decide +kernel
theorem dX3_takeEntry_190 : decode cX3_takeEntry 190 = .ok (.goto 4, 3) := by decide +kernel
theorem dX3_takeEntry_193 : decode cX3_takeEntry 193 = .ok (.iconst 0, 1) := by decide +kernel
theorem dX3_takeEntry_194 : decode cX3_takeEntry 194 = .ok (.ireturn, 1) := by decide +kernel
theorem dX3_takeEntry_195 : decode cX3_takeEntry 195 = .ok (.aload_n 0, 1) := by decide +kernel
theorem dX3_takeEntry_196 : decode cX3_takeEntry 196 = .ok (.dup, 1) := by decide +kernel
theorem dX3_takeEntry_197 : decode cX3_takeEntry 197 = .ok (.getfield 19, 3) := by decide +kernel
theorem dX3_takeEntry_200 : decode cX3_takeEntry 200 = .ok (.iconst 1, 1) := by decide +kernel
theorem dX3_takeEntry_201 : decode cX3_takeEntry 201 = .ok (.iadd, 1) := by decide +kernel
theorem dX3_takeEntry_202 : decode cX3_takeEntry 202 = .ok (.putfield 19, 3) := by decide +kernel
theorem dX3_takeEntry_205 : decode cX3_takeEntry 205 = .ok (.aload_n 0, 1) := by decide +kernel
theorem dX3_takeEntry_206 : decode cX3_takeEntry 206 = .ok (.invokevirtual 46, 3) := by decide +kernel
theorem dX3_takeEntry_209 : decode cX3_takeEntry 209 = .ok (.ifCond .eq 36, 3) := by decide +kernel
theorem dX3_takeEntry_212 : decode cX3_takeEntry 212 = .ok (.aload_n 0, 1) := by decide +kernel
theorem dX3_takeEntry_213 : decode cX3_takeEntry 213 = .ok (.bipush 45, 2) := by decide +kernel
theorem dX3_takeEntry_215 : decode cX3_takeEntry 215 = .ok (.invokevirtual 42, 3) := by decide +kernel
theorem dX3_takeEntry_218 : decode cX3_takeEntry 218 = .ok (.ifCond .eq 27, 3) := by decide +kernel
theorem dX3_takeEntry_221 : decode cX3_takeEntry 221 = .ok (.aload_n 0, 1) := by decide +kernel
theorem dX3_takeEntry_222 : decode cX3_takeEntry 222 = .ok (.bipush 48, 2) := by decide +kernel
theorem dX3_takeEntry_224 : decode cX3_takeEntry 224 = .ok (.bipush 57, 2) := by decide +kernel
theorem dX3_takeEntry_226 : decode cX3_takeEntry 226 = .ok (.invokevirtual 39, 3) := by decide +kernel
theorem dX3_takeEntry_229 : decode cX3_takeEntry 229 = .ok (.ifCond .eq 16, 3) := by decide +kernel
theorem dX3_takeEntry_232 : decode cX3_takeEntry 232 = .ok (.aload_n 0, 1) := by decide +kernel
theorem dX3_takeEntry_233 : decode cX3_takeEntry 233 = .ok (.bipush 59, 2) := by decide +kernel
theorem dX3_takeEntry_235 : decode cX3_takeEntry 235 = .ok (.invokevirtual 42, 3) := by decide +kernel
theorem dX3_takeEntry_238 : decode cX3_takeEntry 238 = .ok (.ifCond .eq 7, 3) := by decide +kernel
theorem dX3_takeEntry_241 : decode cX3_takeEntry 241 = .ok (.iconst 1, 1) := by decide +kernel
theorem dX3_takeEntry_242 : decode cX3_takeEntry 242 = .ok (.goto 4, 3) := by decide +kernel
theorem dX3_takeEntry_245 : decode cX3_takeEntry 245 = .ok (.iconst 0, 1) := by decide +kernel
theorem dX3_takeEntry_246 : decode cX3_takeEntry 246 = .ok (.ireturn, 1) := by decide +kernel
theorem dX3_takeEntry_247 : decode cX3_takeEntry 247 = .ok (.aload_n 0, 1) := by decide +kernel
theorem dX3_takeEntry_248 : decode cX3_takeEntry 248 = .ok (.dup, 1) := by decide +kernel
theorem dX3_takeEntry_249 : decode cX3_takeEntry 249 = .ok (.getfield 19, 3) := by decide +kernel
theorem dX3_takeEntry_252 : decode cX3_takeEntry 252 = .ok (.iconst 1, 1) := by decide +kernel
theorem dX3_takeEntry_253 : decode cX3_takeEntry 253 = .ok (.iadd, 1) := by decide +kernel
theorem dX3_takeEntry_254 : decode cX3_takeEntry 254 = .ok (.putfield 19, 3) := by decide +kernel
theorem dX3_takeEntry_257 : decode cX3_takeEntry 257 = .ok (.aload_n 0, 1) := by decide +kernel
theorem dX3_takeEntry_258 : decode cX3_takeEntry 258 = .ok (.bipush 49, 2) := by decide +kernel
theorem dX3_takeEntry_260 : decode cX3_takeEntry 260 = .ok (.bipush 57, 2) := by decide +kernel
theorem dX3_takeEntry_262 : decode cX3_takeEntry 262 = .ok (.invokevirtual 36, 3) := by decide +kernel
theorem dX3_takeEntry_265 : decode cX3_takeEntry 265 = .ok (.ifCond .eq 16, 3) := by decide +kernel
theorem dX3_takeEntry_268 : decode cX3_takeEntry 268 = .ok (.aload_n 0, 1) := by decide +kernel
theorem dX3_takeEntry_269 : decode cX3_takeEntry 269 = .ok (.bipush 59, 2) := by decide +kernel
theorem dX3_takeEntry_271 : decode cX3_takeEntry 271 = .ok (.invokevirtual 42, 3) := by decide +kernel
theorem dX3_takeEntry_274 : decode cX3_takeEntry 274 = .ok (.ifCond .eq 7, 3) := by decide +kernel
theorem dX3_takeEntry_277 : decode cX3_takeEntry 277 = .ok (.iconst 1, 1) := by decide +kernel
theorem dX3_takeEntry_278 : decode cX3_takeEntry 278 = .ok (.goto 4, 3) := by decide +kernel
theorem dX3_takeEntry_281 : decode cX3_takeEntry 281 = .ok (.iconst 0, 1) := by decide +kernel
theorem dX3_takeEntry_282 : decode cX3_takeEntry 282 = .ok (.ireturn, 1) := by decide +kernel
theorem dX3_takeEntry_283 : decode cX3_takeEntry 283 = .ok (.aload_n 0, 1) := by decide +kernel
theorem dX3_takeEntry_284 : decode cX3_takeEntry 284 = .ok (.dup, 1) := by decide +kernel
theorem dX3_takeEntry_285 : decode cX3_takeEntry 285 = .ok (.getfield 19, 3) := by decide +kernel
theorem dX3_takeEntry_288 : decode cX3_takeEntry 288 = .ok (.iconst 1, 1) := by decide +kernel
theorem dX3_takeEntry_289 : decode cX3_takeEntry 289 = .ok (.iadd, 1) := by decide +kernel
theorem dX3_takeEntry_290 : decode cX3_takeEntry 290 = .ok (.putfield 19, 3) := by decide +kernel
theorem dX3_takeEntry_293 : decode cX3_takeEntry 293 = .ok (.aload_n 0, 1) := by decide +kernel
theorem dX3_takeEntry_294 : decode cX3_takeEntry 294 = .ok (.bipush 48, 2) := by decide +kernel
theorem dX3_takeEntry_296 : decode cX3_takeEntry 296 = .ok (.bipush 57, 2) := by decide +kernel
theorem dX3_takeEntry_298 : decode cX3_takeEntry 298 = .ok (.invokevirtual 36, 3) := by decide +kernel
theorem dX3_takeEntry_301 : decode cX3_takeEntry 301 = .ok (.ifCond .eq 16, 3) := by decide +kernel
theorem dX3_takeEntry_304 : decode cX3_takeEntry 304 = .ok (.aload_n 0, 1) := by decide +kernel
theorem dX3_takeEntry_305 : decode cX3_takeEntry 305 = .ok (.bipush 59, 2) := by decide +kernel
theorem dX3_takeEntry_307 : decode cX3_takeEntry 307 = .ok (.invokevirtual 42, 3) := by decide +kernel
theorem dX3_takeEntry_310 : decode cX3_takeEntry 310 = .ok (.ifCond .eq 7, 3) := by decide +kernel
theorem dX3_takeEntry_313 : decode cX3_takeEntry 313 = .ok (.iconst 1, 1) := by decide +kernel
theorem dX3_takeEntry_314 : decode cX3_takeEntry 314 = .ok (.goto 4, 3) := by decide +kernel
theorem dX3_takeEntry_317 : decode cX3_takeEntry 317 = .ok (.iconst 0, 1) := by decide +kernel
theorem dX3_takeEntry_318 : decode cX3_takeEntry 318 = .ok (.ireturn, 1) := by decide +kernel
theorem dX3_takeEntry_319 : decode cX3_takeEntry 319 = .ok (.iconst 0, 1) := by decide +kernel
theorem dX3_takeEntry_320 : decode cX3_takeEntry 320 = .ok (.ireturn, 1) := by decide +kernel
theorem dX3_isHere_0 : decode cX3_isHere 0 = .ok (.aload_n 0, 1) := by decide +kernel
theorem dX3_isHere_1 : decode cX3_isHere 1 = .ok (.getfield 19, 3) := by decide +kernel
theorem dX3_isHere_4 : decode cX3_isHere 4 = .ok (.ifCond .lt 53, 3) := by decide +kernel
theorem dX3_isHere_7 : decode cX3_isHere 7 = .ok (.aload_n 0, 1) := by decide +kernel
theorem dX3_isHere_8 : decode cX3_isHere 8 = .ok (.getfield 19, 3) := by decide +kernel
theorem dX3_isHere_11 : decode cX3_isHere 11 = .ok (.aload_n 0, 1) := by decide +kernel
theorem dX3_isHere_12 : decode cX3_isHere 12 = .ok (.getfield 15, 3) := by decide +kernel
theorem dX3_isHere_15 : decode cX3_isHere 15 = .ok (.if_icmp .ge 42, 3) := by decide +kernel
theorem dX3_isHere_18 : decode cX3_isHere 18 = .ok (.aload_n 0, 1) := by decide +kernel
theorem dX3_isHere_19 : decode cX3_isHere 19 = .ok (.getfield 19, 3) := by decide +kernel
theorem dX3_isHere_22 : decode cX3_isHere 22 = .ok (.bipush 60, 2) := by decide +kernel
theorem dX3_isHere_24 : decode cX3_isHere 24 = .ok (.if_icmp .ge 33, 3) := by decide +kernel
theorem dX3_isHere_27 : decode cX3_isHere 27 = .ok (.aload_n 0, 1) := by decide +kernel
theorem dX3_isHere_28 : decode cX3_isHere 28 = .ok (.getfield 9, 3) := by decide +kernel
theorem dX3_isHere_31 : decode cX3_isHere 31 = .ok (.aload_n 0, 1) := by decide +kernel
theorem dX3_isHere_32 : decode cX3_isHere 32 = .ok (.getfield 19, 3) := by decide +kernel
theorem dX3_isHere_35 : decode cX3_isHere 35 = .ok (.caload, 1) := by decide +kernel
theorem dX3_isHere_36 : decode cX3_isHere 36 = .ok (.iload_n 1, 1) := by decide +kernel
theorem dX3_isHere_37 : decode cX3_isHere 37 = .ok (.if_icmp .lt 20, 3) := by decide +kernel
theorem dX3_isHere_40 : decode cX3_isHere 40 = .ok (.aload_n 0, 1) := by decide +kernel
theorem dX3_isHere_41 : decode cX3_isHere 41 = .ok (.getfield 9, 3) := by decide +kernel
theorem dX3_isHere_44 : decode cX3_isHere 44 = .ok (.aload_n 0, 1) := by decide +kernel
theorem dX3_isHere_45 : decode cX3_isHere 45 = .ok (.getfield 19, 3) := by decide +kernel
theorem dX3_isHere_48 : decode cX3_isHere 48 = .ok (.caload, 1) := by decide +kernel
theorem dX3_isHere_49 : decode cX3_isHere 49 = .ok (.iload_n 2, 1) := by decide +kernel
theorem dX3_isHere_50 : decode cX3_isHere 50 = .ok (.if_icmp .gt 7, 3) := by decide +kernel
theorem dX3_isHere_53 : decode cX3_isHere 53 = .ok (.iconst 1, 1) := by decide +kernel
theorem dX3_isHere_54 : decode cX3_isHere 54 = .ok (.goto 4, 3) := by decide +kernel
theorem dX3_isHere_57 : decode cX3_isHere 57 = .ok (.iconst 0, 1) := by decide +kernel
theorem dX3_isHere_58 : decode cX3_isHere 58 = .ok (.ireturn, 1) := by decide +kernel
theorem dX3_takeSign_0 : decode cX3_takeSign 0 = .ok (.aload_n 0, 1) := by decide +kernel
theorem dX3_takeSign_1 : decode cX3_takeSign 1 = .ok (.iload_n 1, 1) := by decide +kernel
theorem dX3_takeSign_2 : decode cX3_takeSign 2 = .ok (.iload_n 1, 1) := by decide +kernel
theorem dX3_takeSign_3 : decode cX3_takeSign 3 = .ok (.invokevirtual 29, 3) := by decide +kernel
theorem dX3_takeSign_6 : decode cX3_takeSign 6 = .ok (.ifCond .ne 5, 3) := by decide +kernel
theorem dX3_takeSign_9 : decode cX3_takeSign 9 = .ok (.iconst 0, 1) := by decide +kernel
theorem dX3_takeSign_10 : decode cX3_takeSign 10 = .ok (.ireturn, 1) := by decide +kernel
theorem dX3_takeSign_11 : decode cX3_takeSign 11 = .ok (.aload_n 0, 1) := by decide +kernel
theorem dX3_takeSign_12 : decode cX3_takeSign 12 = .ok (.dup, 1) := by decide +kernel
theorem dX3_takeSign_13 : decode cX3_takeSign 13 = .ok (.getfield 19, 3) := by decide +kernel
theorem dX3_takeSign_16 : decode cX3_takeSign 16 = .ok (.iconst 1, 1) := by decide +kernel
theorem dX3_takeSign_17 : decode cX3_takeSign 17 = .ok (.iadd, 1) := by decide +kernel
theorem dX3_takeSign_18 : decode cX3_takeSign 18 = .ok (.putfield 19, 3) := by decide +kernel
theorem dX3_takeSign_21 : decode cX3_takeSign 21 = .ok (.iconst 1, 1) := by decide +kernel
theorem dX3_takeSign_22 : decode cX3_takeSign 22 = .ok (.ireturn, 1) := by decide +kernel
theorem dX3_takeDigit_0 : decode cX3_takeDigit 0 = .ok (.aload_n 0, 1) := by decide +kernel
theorem dX3_takeDigit_1 : decode cX3_takeDigit 1 = .ok (.iload_n 1, 1) := by decide +kernel
theorem dX3_takeDigit_2 : decode cX3_takeDigit 2 = .ok (.iload_n 2, 1) := by decide +kernel
theorem dX3_takeDigit_3 : decode cX3_takeDigit 3 = .ok (.invokevirtual 29, 3) := by decide +kernel
theorem dX3_takeDigit_6 : decode cX3_takeDigit 6 = .ok (.ifCond .ne 5, 3) := by decide +kernel
theorem dX3_takeDigit_9 : decode cX3_takeDigit 9 = .ok (.iconst (-1), 1) := by decide +kernel
theorem dX3_takeDigit_10 : decode cX3_takeDigit 10 = .ok (.ireturn, 1) := by decide +kernel
theorem dX3_takeDigit_11 : decode cX3_takeDigit 11 = .ok (.aload_n 0, 1) := by decide +kernel
theorem dX3_takeDigit_12 : decode cX3_takeDigit 12 = .ok (.getfield 9, 3) := by decide +kernel
theorem dX3_takeDigit_15 : decode cX3_takeDigit 15 = .ok (.aload_n 0, 1) := by decide +kernel
theorem dX3_takeDigit_16 : decode cX3_takeDigit 16 = .ok (.getfield 19, 3) := by decide +kernel
theorem dX3_takeDigit_19 : decode cX3_takeDigit 19 = .ok (.caload, 1) := by decide +kernel
theorem dX3_takeDigit_20 : decode cX3_takeDigit 20 = .ok (.bipush 48, 2) := by decide +kernel
theorem dX3_takeDigit_22 : decode cX3_takeDigit 22 = .ok (.isub, 1) := by decide +kernel
theorem dX3_takeDigit_23 : decode cX3_takeDigit 23 = .ok (.istore_n 3, 1) := by decide +kernel
theorem dX3_takeDigit_24 : decode cX3_takeDigit 24 = .ok (.aload_n 0, 1) := by decide +kernel
theorem dX3_takeDigit_25 : decode cX3_takeDigit 25 = .ok (.dup, 1) := by decide +kernel
theorem dX3_takeDigit_26 : decode cX3_takeDigit 26 = .ok (.getfield 19, 3) := by decide +kernel
theorem dX3_takeDigit_29 : decode cX3_takeDigit 29 = .ok (.iconst 1, 1) := by decide +kernel
theorem dX3_takeDigit_30 : decode cX3_takeDigit 30 = .ok (.iadd, 1) := by decide +kernel
theorem dX3_takeDigit_31 : decode cX3_takeDigit 31 = .ok (.putfield 19, 3) := by decide +kernel
theorem dX3_takeDigit_34 : decode cX3_takeDigit 34 = .ok (.iload_n 3, 1) := by decide +kernel
theorem dX3_takeDigit_35 : decode cX3_takeDigit 35 = .ok (.ireturn, 1) := by decide +kernel
theorem dX3_takeNumber_0 : decode cX3_takeNumber 0 = .ok (.aload_n 0, 1) := by decide +kernel
theorem dX3_takeNumber_1 : decode cX3_takeNumber 1 = .ok (.aload_n 0, 1) := by decide +kernel
theorem dX3_takeNumber_2 : decode cX3_takeNumber 2 = .ok (.iload_n 1, 1) := by decide +kernel
theorem dX3_takeNumber_3 : decode cX3_takeNumber 3 = .ok (.iload_n 2, 1) := by decide +kernel
theorem dX3_takeNumber_4 : decode cX3_takeNumber 4 = .ok (.invokevirtual 49, 3) := by decide +kernel
theorem dX3_takeNumber_7 : decode cX3_takeNumber 7 = .ok (.putfield 53, 3) := by decide +kernel
theorem dX3_takeNumber_10 : decode cX3_takeNumber 10 = .ok (.aload_n 0, 1) := by decide +kernel
theorem dX3_takeNumber_11 : decode cX3_takeNumber 11 = .ok (.getfield 53, 3) := by decide +kernel
theorem dX3_takeNumber_14 : decode cX3_takeNumber 14 = .ok (.iconst (-1), 1) := by decide +kernel
theorem dX3_takeNumber_15 : decode cX3_takeNumber 15 = .ok (.if_icmp .eq 7, 3) := by decide +kernel
theorem dX3_takeNumber_18 : decode cX3_takeNumber 18 = .ok (.iconst 1, 1) := by decide +kernel
theorem dX3_takeNumber_19 : decode cX3_takeNumber 19 = .ok (.goto 4, 3) := by decide +kernel
theorem dX3_takeNumber_22 : decode cX3_takeNumber 22 = .ok (.iconst 0, 1) := by decide +kernel
theorem dX3_takeNumber_23 : decode cX3_takeNumber 23 = .ok (.ireturn, 1) := by decide +kernel
theorem dX3_takeTarget_0 : decode cX3_takeTarget 0 = .ok (.aload_n 0, 1) := by decide +kernel
theorem dX3_takeTarget_1 : decode cX3_takeTarget 1 = .ok (.aload_n 0, 1) := by decide +kernel
theorem dX3_takeTarget_2 : decode cX3_takeTarget 2 = .ok (.iload_n 1, 1) := by decide +kernel
theorem dX3_takeTarget_3 : decode cX3_takeTarget 3 = .ok (.iload_n 2, 1) := by decide +kernel
theorem dX3_takeTarget_4 : decode cX3_takeTarget 4 = .ok (.invokevirtual 49, 3) := by decide +kernel
theorem dX3_takeTarget_7 : decode cX3_takeTarget 7 = .ok (.putfield 56, 3) := by decide +kernel
theorem dX3_takeTarget_10 : decode cX3_takeTarget 10 = .ok (.aload_n 0, 1) := by decide +kernel
theorem dX3_takeTarget_11 : decode cX3_takeTarget 11 = .ok (.getfield 56, 3) := by decide +kernel
theorem dX3_takeTarget_14 : decode cX3_takeTarget 14 = .ok (.iconst (-1), 1) := by decide +kernel
theorem dX3_takeTarget_15 : decode cX3_takeTarget 15 = .ok (.if_icmp .eq 7, 3) := by decide +kernel
theorem dX3_takeTarget_18 : decode cX3_takeTarget 18 = .ok (.iconst 1, 1) := by decide +kernel
theorem dX3_takeTarget_19 : decode cX3_takeTarget 19 = .ok (.goto 4, 3) := by decide +kernel
theorem dX3_takeTarget_22 : decode cX3_takeTarget 22 = .ok (.iconst 0, 1) := by decide +kernel
theorem dX3_takeTarget_23 : decode cX3_takeTarget 23 = .ok (.ireturn, 1) := by decide +kernel
theorem dX3_takeGuest_0 : decode cX3_takeGuest 0 = .ok (.aload_n 0, 1) := by decide +kernel
theorem dX3_takeGuest_1 : decode cX3_takeGuest 1 = .ok (.bipush 48, 2) := by decide +kernel
theorem dX3_takeGuest_3 : decode cX3_takeGuest 3 = .ok (.bipush 57, 2) := by decide +kernel
theorem dX3_takeGuest_5 : decode cX3_takeGuest 5 = .ok (.invokevirtual 36, 3) := by decide +kernel
theorem dX3_takeGuest_8 : decode cX3_takeGuest 8 = .ok (.ifCond .ne 5, 3) := by decide +kernel
theorem dX3_takeGuest_11 : decode cX3_takeGuest 11 = .ok (.iconst 0, 1) := by decide +kernel
theorem dX3_takeGuest_12 : decode cX3_takeGuest 12 = .ok (.ireturn, 1) := by decide +kernel
theorem dX3_takeGuest_13 : decode cX3_takeGuest 13 = .ok (.aload_n 0, 1) := by decide +kernel
theorem dX3_takeGuest_14 : decode cX3_takeGuest 14 = .ok (.getfield 53, 3) := by decide +kernel
theorem dX3_takeGuest_17 : decode cX3_takeGuest 17 = .ok (.iconst 1, 1) := by decide +kernel
theorem dX3_takeGuest_18 : decode cX3_takeGuest 18 = .ok (.if_icmp .ne 14, 3) := by decide +kernel
theorem dX3_takeGuest_21 : decode cX3_takeGuest 21 = .ok (.aload_n 0, 1) := by decide +kernel
theorem dX3_takeGuest_22 : decode cX3_takeGuest 22 = .ok (.bipush 48, 2) := by decide +kernel
theorem dX3_takeGuest_24 : decode cX3_takeGuest 24 = .ok (.bipush 53, 2) := by decide +kernel
theorem dX3_takeGuest_26 : decode cX3_takeGuest 26 = .ok (.invokevirtual 49, 3) := by decide +kernel
theorem dX3_takeGuest_29 : decode cX3_takeGuest 29 = .ok (.goto 4, 3) := by decide +kernel
theorem dX3_takeGuest_32 : decode cX3_takeGuest 32 = .ok (.iconst (-1), 1) := by decide +kernel
theorem dX3_takeGuest_33 : decode cX3_takeGuest 33 = .ok (.istore_n 1, 1) := by decide +kernel
theorem dX3_takeGuest_34 : decode cX3_takeGuest 34 = .ok (.iload_n 1, 1) := by decide +kernel
theorem dX3_takeGuest_35 : decode cX3_takeGuest 35 = .ok (.iconst (-1), 1) := by decide +kernel
theorem dX3_takeGuest_36 : decode cX3_takeGuest 36 = .ok (.if_icmp .eq 11, 3) := by decide +kernel
theorem dX3_takeGuest_39 : decode cX3_takeGuest 39 = .ok (.aload_n 0, 1) := by decide +kernel
theorem dX3_takeGuest_40 : decode cX3_takeGuest 40 = .ok (.bipush 10, 2) := by decide +kernel
theorem dX3_takeGuest_42 : decode cX3_takeGuest 42 = .ok (.iload_n 1, 1) := by decide +kernel
theorem dX3_takeGuest_43 : decode cX3_takeGuest 43 = .ok (.iadd, 1) := by decide +kernel
theorem dX3_takeGuest_44 : decode cX3_takeGuest 44 = .ok (.putfield 53, 3) := by decide +kernel
theorem dX3_takeGuest_47 : decode cX3_takeGuest 47 = .ok (.iconst 1, 1) := by decide +kernel
theorem dX3_takeGuest_48 : decode cX3_takeGuest 48 = .ok (.ireturn, 1) := by decide +kernel
theorem dX4_init_0 : decode cX4_init 0 = .ok (.aload_n 0, 1) := by decide +kernel
theorem dX4_init_1 : decode cX4_init 1 = .ok (.invokespecial 1, 3) := by decide +kernel
theorem dX4_init_4 : decode cX4_init 4 = .ok (.return_, 1) := by decide +kernel
theorem dX4_begin_0 : decode cX4_begin 0 = .ok (.aload_n 0, 1) := by decide +kernel
theorem dX4_begin_1 : decode cX4_begin 1 = .ok (.iload_n 1, 1) := by decide +kernel
theorem dX4_begin_2 : decode cX4_begin 2 = .ok (.putfield 7, 3) := by decide +kernel
theorem dX4_begin_5 : decode cX4_begin 5 = .ok (.aload_n 0, 1) := by decide +kernel
theorem dX4_begin_6 : decode cX4_begin 6 = .ok (.iload_n 2, 1) := by decide +kernel
theorem dX4_begin_7 : decode cX4_begin 7 = .ok (.putfield 13, 3) := by decide +kernel
theorem dX4_begin_10 : decode cX4_begin 10 = .ok (.aload_n 0, 1) := by decide +kernel
theorem dX4_begin_11 : decode cX4_begin 11 = .ok (.iload_n 3, 1) := by decide +kernel
theorem dX4_begin_12 : decode cX4_begin 12 = .ok (.putfield 16, 3) := by decide +kernel
theorem dX4_begin_15 : decode cX4_begin 15 = .ok (.aload_n 0, 1) := by decide +kernel
theorem dX4_begin_16 : decode cX4_begin 16 = .ok (.iload 4, 2) := by decide +kernel
theorem dX4_begin_18 : decode cX4_begin 18 = .ok (.putfield 19, 3) := by decide +kernel
theorem dX4_begin_21 : decode cX4_begin 21 = .ok (.aload_n 0, 1) := by decide +kernel
theorem dX4_begin_22 : decode cX4_begin 22 = .ok (.iload 5, 2) := by decide +kernel
theorem dX4_begin_24 : decode cX4_begin 24 = .ok (.putfield 22, 3) := by decide +kernel
theorem dX4_begin_27 : decode cX4_begin 27 = .ok (.aload_n 0, 1) := by decide +kernel
theorem dX4_begin_28 : decode cX4_begin 28 = .ok (.iload 6, 2) := by decide +kernel
theorem dX4_begin_30 : decode cX4_begin 30 = .ok (.bipush 10, 2) := by decide +kernel
theorem dX4_begin_32 : decode cX4_begin 32 = .ok (.idiv, 1) := by decide +kernel
theorem dX4_begin_33 : decode cX4_begin 33 = .ok (.putfield 25, 3) := by decide +kernel
theorem dX4_begin_36 : decode cX4_begin 36 = .ok (.aload_n 0, 1) := by decide +kernel
theorem dX4_begin_37 : decode cX4_begin 37 = .ok (.iload 6, 2) := by decide +kernel
theorem dX4_begin_39 : decode cX4_begin 39 = .ok (.bipush 10, 2) := by decide +kernel
theorem dX4_begin_41 : decode cX4_begin 41 = .ok (.irem, 1) := by decide +kernel
theorem dX4_begin_42 : decode cX4_begin 42 = .ok (.putfield 28, 3) := by decide +kernel
theorem dX4_begin_45 : decode cX4_begin 45 = .ok (.aload_n 0, 1) := by decide +kernel
theorem dX4_begin_46 : decode cX4_begin 46 = .ok (.iconst 0, 1) := by decide +kernel
theorem dX4_begin_47 : decode cX4_begin 47 = .ok (.putfield 31, 3) := by decide +kernel
theorem dX4_begin_50 : decode cX4_begin 50 = .ok (.aload_n 0, 1) := by decide +kernel
theorem dX4_begin_51 : decode cX4_begin 51 = .ok (.iconst 0, 1) := by decide +kernel
theorem dX4_begin_52 : decode cX4_begin 52 = .ok (.putfield 34, 3) := by decide +kernel
theorem dX4_begin_55 : decode cX4_begin 55 = .ok (.aload_n 0, 1) := by decide +kernel
theorem dX4_begin_56 : decode cX4_begin 56 = .ok (.iconst 0, 1) := by decide +kernel
theorem dX4_begin_57 : decode cX4_begin 57 = .ok (.putfield 37, 3) := by decide +kernel
theorem dX4_begin_60 : decode cX4_begin 60 = .ok (.return_, 1) := by decide +kernel
theorem dX4_copyFrom_0 : decode cX4_copyFrom 0 = .ok (.aload_n 0, 1) := by decide +kernel
theorem dX4_copyFrom_1 : decode cX4_copyFrom 1 = .ok (.aload_n 1, 1) := by decide +kernel
theorem dX4_copyFrom_2 : decode cX4_copyFrom 2 = .ok (.getfield 7, 3) := by decide +kernel
theorem dX4_copyFrom_5 : decode cX4_copyFrom 5 = .ok (.putfield 7, 3) := by decide +kernel
theorem dX4_copyFrom_8 : decode cX4_copyFrom 8 = .ok (.aload_n 0, 1) := by decide +kernel
theorem dX4_copyFrom_9 : decode cX4_copyFrom 9 = .ok (.aload_n 1, 1) := by decide +kernel
theorem dX4_copyFrom_10 : decode cX4_copyFrom 10 = .ok (.getfield 13, 3) := by decide +kernel
theorem dX4_copyFrom_13 : decode cX4_copyFrom 13 = .ok (.putfield 13, 3) := by decide +kernel
theorem dX4_copyFrom_16 : decode cX4_copyFrom 16 = .ok (.aload_n 0, 1) := by decide +kernel
theorem dX4_copyFrom_17 : decode cX4_copyFrom 17 = .ok (.aload_n 1, 1) := by decide +kernel
theorem dX4_copyFrom_18 : decode cX4_copyFrom 18 = .ok (.getfield 16, 3) := by decide +kernel
theorem dX4_copyFrom_21 : decode cX4_copyFrom 21 = .ok (.putfield 16, 3) := by decide +kernel
theorem dX4_copyFrom_24 : decode cX4_copyFrom 24 = .ok (.aload_n 0, 1) := by decide +kernel
theorem dX4_copyFrom_25 : decode cX4_copyFrom 25 = .ok (.aload_n 1, 1) := by decide +kernel
theorem dX4_copyFrom_26 : decode cX4_copyFrom 26 = .ok (.getfield 19, 3) := by decide +kernel
theorem dX4_copyFrom_29 : decode cX4_copyFrom 29 = .ok (.putfield 19, 3) := by decide +kernel
theorem dX4_copyFrom_32 : decode cX4_copyFrom 32 = .ok (.aload_n 0, 1) := by decide +kernel
theorem dX4_copyFrom_33 : decode cX4_copyFrom 33 = .ok (.aload_n 1, 1) := by decide +kernel
theorem dX4_copyFrom_34 : decode cX4_copyFrom 34 = .ok (.getfield 22, 3) := by decide +kernel
theorem dX4_copyFrom_37 : decode cX4_copyFrom 37 = .ok (.putfield 22, 3) := by decide +kernel
theorem dX4_copyFrom_40 : decode cX4_copyFrom 40 = .ok (.aload_n 0, 1) := by decide +kernel
theorem dX4_copyFrom_41 : decode cX4_copyFrom 41 = .ok (.aload_n 1, 1) := by decide +kernel
theorem dX4_copyFrom_42 : decode cX4_copyFrom 42 = .ok (.getfield 25, 3) := by decide +kernel
theorem dX4_copyFrom_45 : decode cX4_copyFrom 45 = .ok (.putfield 25, 3) := by decide +kernel
theorem dX4_copyFrom_48 : decode cX4_copyFrom 48 = .ok (.aload_n 0, 1) := by decide +kernel
theorem dX4_copyFrom_49 : decode cX4_copyFrom 49 = .ok (.aload_n 1, 1) := by decide +kernel
theorem dX4_copyFrom_50 : decode cX4_copyFrom 50 = .ok (.getfield 28, 3) := by decide +kernel
theorem dX4_copyFrom_53 : decode cX4_copyFrom 53 = .ok (.putfield 28, 3) := by decide +kernel
theorem dX4_copyFrom_56 : decode cX4_copyFrom 56 = .ok (.aload_n 0, 1) := by decide +kernel
theorem dX4_copyFrom_57 : decode cX4_copyFrom 57 = .ok (.aload_n 1, 1) := by decide +kernel
theorem dX4_copyFrom_58 : decode cX4_copyFrom 58 = .ok (.getfield 31, 3) := by decide +kernel
theorem dX4_copyFrom_61 : decode cX4_copyFrom 61 = .ok (.putfield 31, 3) := by decide +kernel
theorem dX4_copyFrom_64 : decode cX4_copyFrom 64 = .ok (.aload_n 0, 1) := by decide +kernel
theorem dX4_copyFrom_65 : decode cX4_copyFrom 65 = .ok (.aload_n 1, 1) := by decide +kernel
theorem dX4_copyFrom_66 : decode cX4_copyFrom 66 = .ok (.getfield 34, 3) := by decide +kernel
theorem dX4_copyFrom_69 : decode cX4_copyFrom 69 = .ok (.putfield 34, 3) := by decide +kernel
theorem dX4_copyFrom_72 : decode cX4_copyFrom 72 = .ok (.aload_n 0, 1) := by decide +kernel
theorem dX4_copyFrom_73 : decode cX4_copyFrom 73 = .ok (.aload_n 1, 1) := by decide +kernel
theorem dX4_copyFrom_74 : decode cX4_copyFrom 74 = .ok (.getfield 37, 3) := by decide +kernel
theorem dX4_copyFrom_77 : decode cX4_copyFrom 77 = .ok (.putfield 37, 3) := by decide +kernel
theorem dX4_copyFrom_80 : decode cX4_copyFrom 80 = .ok (.return_, 1) := by decide +kernel
theorem dX4_stepsToCabin_0 : decode cX4_stepsToCabin 0 = .ok (.iconst 2, 1) := by decide +kernel
theorem dX4_stepsToCabin_1 : decode cX4_stepsToCabin 1 = .ok (.aload_n 0, 1) := by decide +kernel
theorem dX4_stepsToCabin_2 : decode cX4_stepsToCabin 2 = .ok (.getfield 19, 3) := by decide +kernel
theorem dX4_stepsToCabin_5 : decode cX4_stepsToCabin 5 = .ok (.imul, 1) := by decide +kernel
theorem dX4_stepsToCabin_6 : decode cX4_stepsToCabin 6 = .ok (.iload_n 1, 1) := by decide +kernel
theorem dX4_stepsToCabin_7 : decode cX4_stepsToCabin 7 = .ok (.imul, 1) := by decide +kernel
theorem dX4_stepsToCabin_8 : decode cX4_stepsToCabin 8 = .ok (.aload_n 0, 1) := by decide +kernel
theorem dX4_stepsToCabin_9 : decode cX4_stepsToCabin 9 = .ok (.getfield 31, 3) := by decide +kernel
theorem dX4_stepsToCabin_12 : decode cX4_stepsToCabin 12 = .ok (.isub, 1) := by decide +kernel
theorem dX4_stepsToCabin_13 : decode cX4_stepsToCabin 13 = .ok (.ireturn, 1) := by decide +kernel
theorem dX4_restOfRide_0 : decode cX4_restOfRide 0 = .ok (.iconst 2, 1) := by decide +kernel
theorem dX4_restOfRide_1 : decode cX4_restOfRide 1 = .ok (.aload_n 0, 1) := by decide +kernel
theorem dX4_restOfRide_2 : decode cX4_restOfRide 2 = .ok (.getfield 25, 3) := by decide +kernel
theorem dX4_restOfRide_5 : decode cX4_restOfRide 5 = .ok (.imul, 1) := by decide +kernel
theorem dX4_restOfRide_6 : decode cX4_restOfRide 6 = .ok (.ireturn, 1) := by decide +kernel
theorem dX5_init_0 : decode cX5_init 0 = .ok (.aload_n 0, 1) := by decide +kernel
theorem dX5_init_1 : decode cX5_init 1 = .ok (.invokespecial 3, 3) := by decide +kernel
theorem dX5_init_4 : decode cX5_init 4 = .ok (.return_, 1) := by decide +kernel
theorem dX5_begin_0 : decode cX5_begin 0 = .ok (.aload_n 0, 1) := by decide +kernel
theorem dX5_begin_1 : decode cX5_begin 1 = .ok (.iload_n 1, 1) := by decide +kernel
theorem dX5_begin_2 : decode cX5_begin 2 = .ok (.putfield 9, 3) := by decide +kernel
theorem dX5_begin_5 : decode cX5_begin 5 = .ok (.aload_n 0, 1) := by decide +kernel
theorem dX5_begin_6 : decode cX5_begin 6 = .ok (.iload_n 2, 1) := by decide +kernel
theorem dX5_begin_7 : decode cX5_begin 7 = .ok (.putfield 15, 3) := by decide +kernel
theorem dX5_begin_10 : decode cX5_begin 10 = .ok (.aload_n 0, 1) := by decide +kernel
theorem dX5_begin_11 : decode cX5_begin 11 = .ok (.iload_n 3, 1) := by decide +kernel
theorem dX5_begin_12 : decode cX5_begin 12 = .ok (.putfield 18, 3) := by decide +kernel
theorem dX5_begin_15 : decode cX5_begin 15 = .ok (.aload_n 0, 1) := by decide +kernel
theorem dX5_begin_16 : decode cX5_begin 16 = .ok (.iload 4, 2) := by decide +kernel
theorem dX5_begin_18 : decode cX5_begin 18 = .ok (.putfield 21, 3) := by decide +kernel
theorem dX5_begin_21 : decode cX5_begin 21 = .ok (.aload_n 0, 1) := by decide +kernel
theorem dX5_begin_22 : decode cX5_begin 22 = .ok (.iconst 0, 1) := by decide +kernel
theorem dX5_begin_23 : decode cX5_begin 23 = .ok (.putfield 24, 3) := by decide +kernel
theorem dX5_begin_26 : decode cX5_begin 26 = .ok (.aload_n 0, 1) := by decide +kernel
theorem dX5_begin_27 : decode cX5_begin 27 = .ok (.iconst 0, 1) := by decide +kernel
theorem dX5_begin_28 : decode cX5_begin 28 = .ok (.putfield 27, 3) := by decide +kernel
theorem dX5_begin_31 : decode cX5_begin 31 = .ok (.aload_n 0, 1) := by decide +kernel
theorem dX5_begin_32 : decode cX5_begin 32 = .ok (.iconst 0, 1) := by decide +kernel
theorem dX5_begin_33 : decode cX5_begin 33 = .ok (.putfield 30, 3) := by decide +kernel
theorem dX5_begin_36 : decode cX5_begin 36 = .ok (.aload_n 0, 1) := by decide +kernel
theorem dX5_begin_37 : decode cX5_begin 37 = .ok (.iconst 0, 1) := by decide +kernel
theorem dX5_begin_38 : decode cX5_begin 38 = .ok (.putfield 33, 3) := by decide +kernel
theorem dX5_begin_41 : decode cX5_begin 41 = .ok (.return_, 1) := by decide +kernel
theorem dX5_copyFrom_0 : decode cX5_copyFrom 0 = .ok (.aload_n 0, 1) := by decide +kernel
theorem dX5_copyFrom_1 : decode cX5_copyFrom 1 = .ok (.aload_n 1, 1) := by decide +kernel
theorem dX5_copyFrom_2 : decode cX5_copyFrom 2 = .ok (.getfield 9, 3) := by decide +kernel
theorem dX5_copyFrom_5 : decode cX5_copyFrom 5 = .ok (.putfield 9, 3) := by decide +kernel
theorem dX5_copyFrom_8 : decode cX5_copyFrom 8 = .ok (.aload_n 0, 1) := by decide +kernel
theorem dX5_copyFrom_9 : decode cX5_copyFrom 9 = .ok (.aload_n 1, 1) := by decide +kernel
theorem dX5_copyFrom_10 : decode cX5_copyFrom 10 = .ok (.getfield 15, 3) := by decide +kernel
theorem dX5_copyFrom_13 : decode cX5_copyFrom 13 = .ok (.putfield 15, 3) := by decide +kernel
theorem dX5_copyFrom_16 : decode cX5_copyFrom 16 = .ok (.aload_n 0, 1) := by decide +kernel
theorem dX5_copyFrom_17 : decode cX5_copyFrom 17 = .ok (.aload_n 1, 1) := by decide +kernel
theorem dX5_copyFrom_18 : decode cX5_copyFrom 18 = .ok (.getfield 18, 3) := by decide +kernel
theorem dX5_copyFrom_21 : decode cX5_copyFrom 21 = .ok (.putfield 18, 3) := by decide +kernel
theorem dX5_copyFrom_24 : decode cX5_copyFrom 24 = .ok (.aload_n 0, 1) := by decide +kernel
theorem dX5_copyFrom_25 : decode cX5_copyFrom 25 = .ok (.aload_n 1, 1) := by decide +kernel
theorem dX5_copyFrom_26 : decode cX5_copyFrom 26 = .ok (.getfield 21, 3) := by decide +kernel
theorem dX5_copyFrom_29 : decode cX5_copyFrom 29 = .ok (.putfield 21, 3) := by decide +kernel
theorem dX5_copyFrom_32 : decode cX5_copyFrom 32 = .ok (.aload_n 0, 1) := by decide +kernel
theorem dX5_copyFrom_33 : decode cX5_copyFrom 33 = .ok (.aload_n 1, 1) := by decide +kernel
theorem dX5_copyFrom_34 : decode cX5_copyFrom 34 = .ok (.getfield 24, 3) := by decide +kernel
theorem dX5_copyFrom_37 : decode cX5_copyFrom 37 = .ok (.putfield 24, 3) := by decide +kernel
theorem dX5_copyFrom_40 : decode cX5_copyFrom 40 = .ok (.aload_n 0, 1) := by decide +kernel
theorem dX5_copyFrom_41 : decode cX5_copyFrom 41 = .ok (.aload_n 1, 1) := by decide +kernel
theorem dX5_copyFrom_42 : decode cX5_copyFrom 42 = .ok (.getfield 27, 3) := by decide +kernel
theorem dX5_copyFrom_45 : decode cX5_copyFrom 45 = .ok (.putfield 27, 3) := by decide +kernel
theorem dX5_copyFrom_48 : decode cX5_copyFrom 48 = .ok (.aload_n 0, 1) := by decide +kernel
theorem dX5_copyFrom_49 : decode cX5_copyFrom 49 = .ok (.aload_n 1, 1) := by decide +kernel
theorem dX5_copyFrom_50 : decode cX5_copyFrom 50 = .ok (.getfield 30, 3) := by decide +kernel
theorem dX5_copyFrom_53 : decode cX5_copyFrom 53 = .ok (.putfield 30, 3) := by decide +kernel
theorem dX5_copyFrom_56 : decode cX5_copyFrom 56 = .ok (.aload_n 0, 1) := by decide +kernel
theorem dX5_copyFrom_57 : decode cX5_copyFrom 57 = .ok (.aload_n 1, 1) := by decide +kernel
theorem dX5_copyFrom_58 : decode cX5_copyFrom 58 = .ok (.getfield 33, 3) := by decide +kernel
theorem dX5_copyFrom_61 : decode cX5_copyFrom 61 = .ok (.putfield 33, 3) := by decide +kernel
theorem dX5_copyFrom_64 : decode cX5_copyFrom 64 = .ok (.return_, 1) := by decide +kernel
theorem dX5_becomeFresh_0 : decode cX5_becomeFresh 0 = .ok (.aload_n 0, 1) := by decide +kernel
theorem dX5_becomeFresh_1 : decode cX5_becomeFresh 1 = .ok (.iconst 0, 1) := by decide +kernel
theorem dX5_becomeFresh_2 : decode cX5_becomeFresh 2 = .ok (.putfield 24, 3) := by decide +kernel
theorem dX5_becomeFresh_5 : decode cX5_becomeFresh 5 = .ok (.aload_n 0, 1) := by decide +kernel
theorem dX5_becomeFresh_6 : decode cX5_becomeFresh 6 = .ok (.iconst 0, 1) := by decide +kernel
theorem dX5_becomeFresh_7 : decode cX5_becomeFresh 7 = .ok (.putfield 27, 3) := by decide +kernel
theorem dX5_becomeFresh_10 : decode cX5_becomeFresh 10 = .ok (.aload_n 0, 1) := by decide +kernel
theorem dX5_becomeFresh_11 : decode cX5_becomeFresh 11 = .ok (.iconst 0, 1) := by decide +kernel
theorem dX5_becomeFresh_12 : decode cX5_becomeFresh 12 = .ok (.putfield 30, 3) := by decide +kernel
theorem dX5_becomeFresh_15 : decode cX5_becomeFresh 15 = .ok (.return_, 1) := by decide +kernel
theorem dX5_isTooDifficultFor_0 : decode cX5_isTooDifficultFor 0 = .ok (.aload_n 0, 1) := by decide +kernel
theorem dX5_isTooDifficultFor_1 : decode cX5_isTooDifficultFor 1 = .ok (.getfield 18, 3) := by decide +kernel
theorem dX5_isTooDifficultFor_4 : decode cX5_isTooDifficultFor 4 = .ok (.aload_n 1, 1) := by decide +kernel
theorem dX5_isTooDifficultFor_5 : decode cX5_isTooDifficultFor 5 = .ok (.getfield 36, 3) := by decide +kernel
theorem dX5_isTooDifficultFor_8 : decode cX5_isTooDifficultFor 8 = .ok (.iconst 1, 1) := by decide +kernel
theorem dX5_isTooDifficultFor_9 : decode cX5_isTooDifficultFor 9 = .ok (.iadd, 1) := by decide +kernel
theorem dX5_isTooDifficultFor_10 : decode cX5_isTooDifficultFor 10 = .ok (.if_icmp .le 7, 3) := by decide +kernel
theorem dX5_isTooDifficultFor_13 : decode cX5_isTooDifficultFor 13 = .ok (.iconst 1, 1) := by decide +kernel
theorem dX5_isTooDifficultFor_14 : decode cX5_isTooDifficultFor 14 = .ok (.goto 4, 3) := by decide +kernel
theorem dX5_isTooDifficultFor_17 : decode cX5_isTooDifficultFor 17 = .ok (.iconst 0, 1) := by decide +kernel
theorem dX5_isTooDifficultFor_18 : decode cX5_isTooDifficultFor 18 = .ok (.ireturn, 1) := by decide +kernel
theorem dX5_restFor_0 : decode cX5_restFor 0 = .ok (.aload_n 0, 1) := by decide +kernel
theorem dX5_restFor_1 : decode cX5_restFor 1 = .ok (.getfield 18, 3) := by decide +kernel
theorem dX5_restFor_4 : decode cX5_restFor 4 = .ok (.aload_n 1, 1) := by decide +kernel
theorem dX5_restFor_5 : decode cX5_restFor 5 = .ok (.getfield 36, 3) := by decide +kernel
theorem dX5_restFor_8 : decode cX5_restFor 8 = .ok (.if_icmp .le 12, 3) := by decide +kernel
theorem dX5_restFor_11 : decode cX5_restFor 11 = .ok (.iconst 2, 1) := by decide +kernel
theorem dX5_restFor_12 : decode cX5_restFor 12 = .ok (.aload_n 0, 1) := by decide +kernel
theorem dX5_restFor_13 : decode cX5_restFor 13 = .ok (.getfield 21, 3) := by decide +kernel
theorem dX5_restFor_16 : decode cX5_restFor 16 = .ok (.imul, 1) := by decide +kernel
theorem dX5_restFor_17 : decode cX5_restFor 17 = .ok (.goto 7, 3) := by decide +kernel
theorem dX5_restFor_20 : decode cX5_restFor 20 = .ok (.aload_n 0, 1) := by decide +kernel
theorem dX5_restFor_21 : decode cX5_restFor 21 = .ok (.getfield 21, 3) := by decide +kernel
theorem dX5_restFor_24 : decode cX5_restFor 24 = .ok (.ireturn, 1) := by decide +kernel
theorem dX6_init_0 : decode cX6_init 0 = .ok (.aload_n 0, 1) := by decide +kernel
theorem dX6_init_1 : decode cX6_init 1 = .ok (.invokespecial 3, 3) := by decide +kernel
theorem dX6_init_4 : decode cX6_init 4 = .ok (.aload_n 0, 1) := by decide +kernel
theorem dX6_init_5 : decode cX6_init 5 = .ok (.bipush 8, 2) := by decide +kernel
theorem dX6_init_7 : decode cX6_init 7 = .ok (.newarray .int, 2) := by decide +kernel
theorem dX6_init_9 : decode cX6_init 9 = .ok (.putfield 9, 3) := by decide +kernel
theorem dX6_init_12 : decode cX6_init 12 = .ok (.return_, 1) := by decide +kernel
theorem dX6_durationFrom_0 : decode cX6_durationFrom 0 = .ok (.iload_n 1, 1) := by decide +kernel
theorem dX6_durationFrom_1 : decode cX6_durationFrom 1 = .ok (.invokestatic 15, 3) := by decide +kernel
theorem dX6_durationFrom_4 : decode cX6_durationFrom 4 = .ok (.ifCond .eq 12, 3) := by decide +kernel
theorem dX6_durationFrom_7 : decode cX6_durationFrom 7 = .ok (.aload_n 0, 1) := by decide +kernel
theorem dX6_durationFrom_8 : decode cX6_durationFrom 8 = .ok (.getfield 9, 3) := by decide +kernel
theorem dX6_durationFrom_11 : decode cX6_durationFrom 11 = .ok (.iload_n 1, 1) := by decide +kernel
theorem dX6_durationFrom_12 : decode cX6_durationFrom 12 = .ok (.iaload, 1) := by decide +kernel
theorem dX6_durationFrom_13 : decode cX6_durationFrom 13 = .ok (.goto 5, 3) := by decide +kernel
theorem dX6_durationFrom_16 : decode cX6_durationFrom 16 = .ok (.ldc 19, 2) := by decide +kernel
theorem dX6_durationFrom_18 : decode cX6_durationFrom 18 = .ok (.ireturn, 1) := by decide +kernel
theorem dX6_measure_0 : decode cX6_measure 0 = .ok (.iconst 0, 1) := by decide +kernel
theorem dX6_measure_1 : decode cX6_measure 1 = .ok (.istore 4, 2) := by decide +kernel
theorem dX6_measure_3 : decode cX6_measure 3 = .ok (.iload 4, 2) := by decide +kernel
theorem dX6_measure_5 : decode cX6_measure 5 = .ok (.bipush 8, 2) := by decide +kernel
theorem dX6_measure_7 : decode cX6_measure 7 = .ok (.if_icmp .ge 28, 3) := by decide +kernel
theorem dX6_measure_10 : decode cX6_measure 10 = .ok (.aload_n 0, 1) := by decide +kernel
theorem dX6_measure_11 : decode cX6_measure 11 = .ok (.getfield 9, 3) := by decide +kernel
theorem dX6_measure_14 : decode cX6_measure 14 = .ok (.iload 4, 2) := by decide +kernel
theorem dX6_measure_16 : decode cX6_measure 16 = .ok (.iload 4, 2) := by decide +kernel
theorem dX6_measure_18 : decode cX6_measure 18 = .ok (.iload_n 3, 1) := by decide +kernel
theorem dX6_measure_19 : decode cX6_measure 19 = .ok (.if_icmp .ne 7, 3) := by decide +kernel
theorem dX6_measure_22 : decode cX6_measure 22 = .ok (.iconst 0, 1) := by decide +kernel
theorem dX6_measure_23 : decode cX6_measure 23 = .ok (.goto 5, 3) := by decide +kernel
theorem dX6_measure_26 : decode cX6_measure 26 = .ok (.ldc 19, 2) := by decide +kernel
theorem dX6_measure_28 : decode cX6_measure 28 = .ok (.iastore, 1) := by decide +kernel
theorem dX6_measure_29 : decode cX6_measure 29 = .ok (.iinc 4 1, 3) := by decide +kernel
theorem dX6_measure_32 : decode cX6_measure 32 = .ok (.goto (-29), 3) := by decide +kernel
theorem dX6_measure_35 : decode cX6_measure 35 = .ok (.iconst 1, 1) := by decide +kernel
theorem dX6_measure_36 : decode cX6_measure 36 = .ok (.istore 4, 2) := by decide +kernel
theorem dX6_measure_38 : decode cX6_measure 38 = .ok (.iload 4, 2) := by decide +kernel
theorem dX6_measure_40 : decode cX6_measure 40 = .ok (.bipush 8, 2) := by decide +kernel
theorem dX6_measure_42 : decode cX6_measure 42 = .ok (.if_icmp .ge 19, 3) := by decide +kernel
theorem dX6_measure_45 : decode cX6_measure 45 = .ok (.aload_n 0, 1) := by decide +kernel
theorem dX6_measure_46 : decode cX6_measure 46 = .ok (.aload_n 1, 1) := by decide +kernel
theorem dX6_measure_47 : decode cX6_measure 47 = .ok (.aload_n 2, 1) := by decide +kernel
theorem dX6_measure_48 : decode cX6_measure 48 = .ok (.invokevirtual 20, 3) := by decide +kernel
theorem dX6_measure_51 : decode cX6_measure 51 = .ok (.ifCond .ne 4, 3) := by decide +kernel
theorem dX6_measure_54 : decode cX6_measure 54 = .ok (.return_, 1) := by decide +kernel
theorem dX6_measure_55 : decode cX6_measure 55 = .ok (.iinc 4 1, 3) := by decide +kernel
theorem dX6_measure_58 : decode cX6_measure 58 = .ok (.goto (-20), 3) := by decide +kernel
theorem dX6_measure_61 : decode cX6_measure 61 = .ok (.return_, 1) := by decide +kernel
theorem dX6_shorten_0 : decode cX6_shorten 0 = .ok (.iconst 0, 1) := by decide +kernel
theorem dX6_shorten_1 : decode cX6_shorten 1 = .ok (.istore_n 3, 1) := by decide +kernel
theorem dX6_shorten_2 : decode cX6_shorten 2 = .ok (.iconst 0, 1) := by decide +kernel
theorem dX6_shorten_3 : decode cX6_shorten 3 = .ok (.istore 4, 2) := by decide +kernel
theorem dX6_shorten_5 : decode cX6_shorten 5 = .ok (.iload 4, 2) := by decide +kernel
theorem dX6_shorten_7 : decode cX6_shorten 7 = .ok (.aload_n 1, 1) := by decide +kernel
theorem dX6_shorten_8 : decode cX6_shorten 8 = .ok (.getfield 24, 3) := by decide +kernel
theorem dX6_shorten_11 : decode cX6_shorten 11 = .ok (.if_icmp .ge 57, 3) := by decide +kernel
theorem dX6_shorten_14 : decode cX6_shorten 14 = .ok (.aload_n 1, 1) := by decide +kernel
theorem dX6_shorten_15 : decode cX6_shorten 15 = .ok (.getfield 30, 3) := by decide +kernel
theorem dX6_shorten_18 : decode cX6_shorten 18 = .ok (.iload 4, 2) := by decide +kernel
theorem dX6_shorten_20 : decode cX6_shorten 20 = .ok (.aaload, 1) := by decide +kernel
theorem dX6_shorten_21 : decode cX6_shorten 21 = .ok (.astore 5, 2) := by decide +kernel
theorem dX6_shorten_23 : decode cX6_shorten 23 = .ok (.aload_n 1, 1) := by decide +kernel
theorem dX6_shorten_24 : decode cX6_shorten 24 = .ok (.aload_n 2, 1) := by decide +kernel
theorem dX6_shorten_25 : decode cX6_shorten 25 = .ok (.aload 5, 2) := by decide +kernel
theorem dX6_shorten_27 : decode cX6_shorten 27 = .ok (.invokevirtual 34, 3) := by decide +kernel
theorem dX6_shorten_30 : decode cX6_shorten 30 = .ok (.ifCond .eq 32, 3) := by decide +kernel
theorem dX6_shorten_33 : decode cX6_shorten 33 = .ok (.aload_n 0, 1) := by decide +kernel
theorem dX6_shorten_34 : decode cX6_shorten 34 = .ok (.aload 5, 2) := by decide +kernel
theorem dX6_shorten_36 : decode cX6_shorten 36 = .ok (.getfield 38, 3) := by decide +kernel
theorem dX6_shorten_39 : decode cX6_shorten 39 = .ok (.aload 5, 2) := by decide +kernel
theorem dX6_shorten_41 : decode cX6_shorten 41 = .ok (.getfield 43, 3) := by decide +kernel
theorem dX6_shorten_44 : decode cX6_shorten 44 = .ok (.aload_n 0, 1) := by decide +kernel
theorem dX6_shorten_45 : decode cX6_shorten 45 = .ok (.aload 5, 2) := by decide +kernel
theorem dX6_shorten_47 : decode cX6_shorten 47 = .ok (.getfield 46, 3) := by decide +kernel
theorem dX6_shorten_50 : decode cX6_shorten 50 = .ok (.invokevirtual 49, 3) := by decide +kernel
theorem dX6_shorten_53 : decode cX6_shorten 53 = .ok (.iadd, 1) := by decide +kernel
theorem dX6_shorten_54 : decode cX6_shorten 54 = .ok (.invokevirtual 53, 3) := by decide +kernel
theorem dX6_shorten_57 : decode cX6_shorten 57 = .ok (.ifCond .eq 5, 3) := by decide +kernel
theorem dX6_shorten_60 : decode cX6_shorten 60 = .ok (.iconst 1, 1) := by decide +kernel
theorem dX6_shorten_61 : decode cX6_shorten 61 = .ok (.istore_n 3, 1) := by decide +kernel
theorem dX6_shorten_62 : decode cX6_shorten 62 = .ok (.iinc 4 1, 3) := by decide +kernel
theorem dX6_shorten_65 : decode cX6_shorten 65 = .ok (.goto (-60), 3) := by decide +kernel
theorem dX6_shorten_68 : decode cX6_shorten 68 = .ok (.iconst 0, 1) := by decide +kernel
theorem dX6_shorten_69 : decode cX6_shorten 69 = .ok (.istore 4, 2) := by decide +kernel
theorem dX6_shorten_71 : decode cX6_shorten 71 = .ok (.iload 4, 2) := by decide +kernel
theorem dX6_shorten_73 : decode cX6_shorten 73 = .ok (.aload_n 1, 1) := by decide +kernel
theorem dX6_shorten_74 : decode cX6_shorten 74 = .ok (.getfield 57, 3) := by decide +kernel
theorem dX6_shorten_77 : decode cX6_shorten 77 = .ok (.if_icmp .ge 58, 3) := by decide +kernel
theorem dX6_shorten_80 : decode cX6_shorten 80 = .ok (.aload_n 1, 1) := by decide +kernel
theorem dX6_shorten_81 : decode cX6_shorten 81 = .ok (.getfield 60, 3) := by decide +kernel
theorem dX6_shorten_84 : decode cX6_shorten 84 = .ok (.iload 4, 2) := by decide +kernel
theorem dX6_shorten_86 : decode cX6_shorten 86 = .ok (.aaload, 1) := by decide +kernel
theorem dX6_shorten_87 : decode cX6_shorten 87 = .ok (.astore 5, 2) := by decide +kernel
theorem dX6_shorten_89 : decode cX6_shorten 89 = .ok (.aload_n 1, 1) := by decide +kernel
theorem dX6_shorten_90 : decode cX6_shorten 90 = .ok (.aload_n 2, 1) := by decide +kernel
theorem dX6_shorten_91 : decode cX6_shorten 91 = .ok (.aload 5, 2) := by decide +kernel
theorem dX6_shorten_93 : decode cX6_shorten 93 = .ok (.invokevirtual 64, 3) := by decide +kernel
theorem dX6_shorten_96 : decode cX6_shorten 96 = .ok (.ifCond .eq 33, 3) := by decide +kernel
theorem dX6_shorten_99 : decode cX6_shorten 99 = .ok (.aload_n 0, 1) := by decide +kernel
theorem dX6_shorten_100 : decode cX6_shorten 100 = .ok (.aload 5, 2) := by decide +kernel
theorem dX6_shorten_102 : decode cX6_shorten 102 = .ok (.getfield 67, 3) := by decide +kernel
theorem dX6_shorten_105 : decode cX6_shorten 105 = .ok (.aload 5, 2) := by decide +kernel
theorem dX6_shorten_107 : decode cX6_shorten 107 = .ok (.aload_n 2, 1) := by decide +kernel
theorem dX6_shorten_108 : decode cX6_shorten 108 = .ok (.invokevirtual 72, 3) := by decide +kernel
theorem dX6_shorten_111 : decode cX6_shorten 111 = .ok (.aload_n 0, 1) := by decide +kernel
theorem dX6_shorten_112 : decode cX6_shorten 112 = .ok (.aload 5, 2) := by decide +kernel
theorem dX6_shorten_114 : decode cX6_shorten 114 = .ok (.getfield 76, 3) := by decide +kernel
theorem dX6_shorten_117 : decode cX6_shorten 117 = .ok (.invokevirtual 49, 3) := by decide +kernel
theorem dX6_shorten_120 : decode cX6_shorten 120 = .ok (.iadd, 1) := by decide +kernel
theorem dX6_shorten_121 : decode cX6_shorten 121 = .ok (.invokevirtual 53, 3) := by decide +kernel
theorem dX6_shorten_124 : decode cX6_shorten 124 = .ok (.ifCond .eq 5, 3) := by decide +kernel
theorem dX6_shorten_127 : decode cX6_shorten 127 = .ok (.iconst 1, 1) := by decide +kernel
theorem dX6_shorten_128 : decode cX6_shorten 128 = .ok (.istore_n 3, 1) := by decide +kernel
theorem dX6_shorten_129 : decode cX6_shorten 129 = .ok (.iinc 4 1, 3) := by decide +kernel
theorem dX6_shorten_132 : decode cX6_shorten 132 = .ok (.goto (-61), 3) := by decide +kernel
theorem dX6_shorten_135 : decode cX6_shorten 135 = .ok (.iload_n 3, 1) := by decide +kernel
theorem dX6_shorten_136 : decode cX6_shorten 136 = .ok (.ireturn, 1) := by decide +kernel
theorem dX6_shortenFrom_0 : decode cX6_shortenFrom 0 = .ok (.iload_n 1, 1) := by decide +kernel
theorem dX6_shortenFrom_1 : decode cX6_shortenFrom 1 = .ok (.invokestatic 15, 3) := by decide +kernel
theorem dX6_shortenFrom_4 : decode cX6_shortenFrom 4 = .ok (.ifCond .eq 13, 3) := by decide +kernel
theorem dX6_shortenFrom_7 : decode cX6_shortenFrom 7 = .ok (.iload_n 2, 1) := by decide +kernel
theorem dX6_shortenFrom_8 : decode cX6_shortenFrom 8 = .ok (.aload_n 0, 1) := by decide +kernel
theorem dX6_shortenFrom_9 : decode cX6_shortenFrom 9 = .ok (.getfield 9, 3) := by decide +kernel
theorem dX6_shortenFrom_12 : decode cX6_shortenFrom 12 = .ok (.iload_n 1, 1) := by decide +kernel
theorem dX6_shortenFrom_13 : decode cX6_shortenFrom 13 = .ok (.iaload, 1) := by decide +kernel
theorem dX6_shortenFrom_14 : decode cX6_shortenFrom 14 = .ok (.if_icmp .lt 5, 3) := by decide +kernel
theorem dX6_shortenFrom_17 : decode cX6_shortenFrom 17 = .ok (.iconst 0, 1) := by decide +kernel
theorem dX6_shortenFrom_18 : decode cX6_shortenFrom 18 = .ok (.ireturn, 1) := by decide +kernel
theorem dX6_shortenFrom_19 : decode cX6_shortenFrom 19 = .ok (.aload_n 0, 1) := by decide +kernel
theorem dX6_shortenFrom_20 : decode cX6_shortenFrom 20 = .ok (.getfield 9, 3) := by decide +kernel
theorem dX6_shortenFrom_23 : decode cX6_shortenFrom 23 = .ok (.iload_n 1, 1) := by decide +kernel
theorem dX6_shortenFrom_24 : decode cX6_shortenFrom 24 = .ok (.iload_n 2, 1) := by decide +kernel
theorem dX6_shortenFrom_25 : decode cX6_shortenFrom 25 = .ok (.iastore, 1) := by decide +kernel
theorem dX6_shortenFrom_26 : decode cX6_shortenFrom 26 = .ok (.iconst 1, 1) := by decide +kernel
theorem dX6_shortenFrom_27 : decode cX6_shortenFrom 27 = .ok (.ireturn, 1) := by decide +kernel
theorem dX6_bestPartFrom_0 : decode cX6_bestPartFrom 0 = .ok (.aload_n 0, 1) := by decide +kernel
theorem dX6_bestPartFrom_1 : decode cX6_bestPartFrom 1 = .ok (.iload_n 3, 1) := by decide +kernel
theorem dX6_bestPartFrom_2 : decode cX6_bestPartFrom 2 = .ok (.invokevirtual 49, 3) := by decide +kernel
theorem dX6_bestPartFrom_5 : decode cX6_bestPartFrom 5 = .ok (.istore 4, 2) := by decide +kernel
theorem dX6_bestPartFrom_7 : decode cX6_bestPartFrom 7 = .ok (.iload 4, 2) := by decide +kernel
theorem dX6_bestPartFrom_9 : decode cX6_bestPartFrom 9 = .ok (.ldc 19, 2) := by decide +kernel
theorem dX6_bestPartFrom_11 : decode cX6_bestPartFrom 11 = .ok (.if_icmp .lt 5, 3) := by decide +kernel
theorem dX6_bestPartFrom_14 : decode cX6_bestPartFrom 14 = .ok (.iconst (-1), 1) := by decide +kernel
theorem dX6_bestPartFrom_15 : decode cX6_bestPartFrom 15 = .ok (.ireturn, 1) := by decide +kernel
theorem dX6_bestPartFrom_16 : decode cX6_bestPartFrom 16 = .ok (.iconst 0, 1) := by decide +kernel
theorem dX6_bestPartFrom_17 : decode cX6_bestPartFrom 17 = .ok (.istore 5, 2) := by decide +kernel
theorem dX6_bestPartFrom_19 : decode cX6_bestPartFrom 19 = .ok (.iload 5, 2) := by decide +kernel
theorem dX6_bestPartFrom_21 : decode cX6_bestPartFrom 21 = .ok (.aload_n 1, 1) := by decide +kernel
theorem dX6_bestPartFrom_22 : decode cX6_bestPartFrom 22 = .ok (.getfield 24, 3) := by decide +kernel
theorem dX6_bestPartFrom_25 : decode cX6_bestPartFrom 25 = .ok (.if_icmp .ge 60, 3) := by decide +kernel
theorem dX6_bestPartFrom_28 : decode cX6_bestPartFrom 28 = .ok (.aload_n 1, 1) := by decide +kernel
theorem dX6_bestPartFrom_29 : decode cX6_bestPartFrom 29 = .ok (.getfield 30, 3) := by decide +kernel
theorem dX6_bestPartFrom_32 : decode cX6_bestPartFrom 32 = .ok (.iload 5, 2) := by decide +kernel
theorem dX6_bestPartFrom_34 : decode cX6_bestPartFrom 34 = .ok (.aaload, 1) := by decide +kernel
theorem dX6_bestPartFrom_35 : decode cX6_bestPartFrom 35 = .ok (.astore 6, 2) := by decide +kernel
theorem dX6_bestPartFrom_37 : decode cX6_bestPartFrom 37 = .ok (.aload 6, 2) := by decide +kernel
theorem dX6_bestPartFrom_39 : decode cX6_bestPartFrom 39 = .ok (.getfield 38, 3) := by decide +kernel
theorem dX6_bestPartFrom_42 : decode cX6_bestPartFrom 42 = .ok (.iload_n 3, 1) := by decide +kernel
theorem dX6_bestPartFrom_43 : decode cX6_bestPartFrom 43 = .ok (.if_icmp .ne 36, 3) := by decide +kernel
theorem dX6_bestPartFrom_46 : decode cX6_bestPartFrom 46 = .ok (.aload_n 1, 1) := by decide +kernel
theorem dX6_bestPartFrom_47 : decode cX6_bestPartFrom 47 = .ok (.aload_n 2, 1) := by decide +kernel
theorem dX6_bestPartFrom_48 : decode cX6_bestPartFrom 48 = .ok (.aload 6, 2) := by decide +kernel
theorem dX6_bestPartFrom_50 : decode cX6_bestPartFrom 50 = .ok (.invokevirtual 34, 3) := by decide +kernel
theorem dX6_bestPartFrom_53 : decode cX6_bestPartFrom 53 = .ok (.ifCond .eq 26, 3) := by decide +kernel
theorem dX6_bestPartFrom_56 : decode cX6_bestPartFrom 56 = .ok (.aload 6, 2) := by decide +kernel
theorem dX6_bestPartFrom_58 : decode cX6_bestPartFrom 58 = .ok (.getfield 43, 3) := by decide +kernel
theorem dX6_bestPartFrom_61 : decode cX6_bestPartFrom 61 = .ok (.aload_n 0, 1) := by decide +kernel
theorem dX6_bestPartFrom_62 : decode cX6_bestPartFrom 62 = .ok (.aload 6, 2) := by decide +kernel
theorem dX6_bestPartFrom_64 : decode cX6_bestPartFrom 64 = .ok (.getfield 46, 3) := by decide +kernel
theorem dX6_bestPartFrom_67 : decode cX6_bestPartFrom 67 = .ok (.invokevirtual 49, 3) := by decide +kernel
theorem dX6_bestPartFrom_70 : decode cX6_bestPartFrom 70 = .ok (.iadd, 1) := by decide +kernel
theorem dX6_bestPartFrom_71 : decode cX6_bestPartFrom 71 = .ok (.iload 4, 2) := by decide +kernel
theorem dX6_bestPartFrom_73 : decode cX6_bestPartFrom 73 = .ok (.if_icmp .ne 6, 3) := by decide +kernel
theorem dX6_bestPartFrom_76 : decode cX6_bestPartFrom 76 = .ok (.iload 5, 2) := by decide +kernel
theorem dX6_bestPartFrom_78 : decode cX6_bestPartFrom 78 = .ok (.ireturn, 1) := by decide +kernel
theorem dX6_bestPartFrom_79 : decode cX6_bestPartFrom 79 = .ok (.iinc 5 1, 3) := by decide +kernel
theorem dX6_bestPartFrom_82 : decode cX6_bestPartFrom 82 = .ok (.goto (-63), 3) := by decide +kernel
theorem dX6_bestPartFrom_85 : decode cX6_bestPartFrom 85 = .ok (.iconst 0, 1) := by decide +kernel
theorem dX6_bestPartFrom_86 : decode cX6_bestPartFrom 86 = .ok (.istore 5, 2) := by decide +kernel
theorem dX6_bestPartFrom_88 : decode cX6_bestPartFrom 88 = .ok (.iload 5, 2) := by decide +kernel
theorem dX6_bestPartFrom_90 : decode cX6_bestPartFrom 90 = .ok (.aload_n 1, 1) := by decide +kernel
theorem dX6_bestPartFrom_91 : decode cX6_bestPartFrom 91 = .ok (.getfield 57, 3) := by decide +kernel
theorem dX6_bestPartFrom_94 : decode cX6_bestPartFrom 94 = .ok (.if_icmp .ge 64, 3) := by decide +kernel
theorem dX6_bestPartFrom_97 : decode cX6_bestPartFrom 97 = .ok (.aload_n 1, 1) := by decide +kernel
theorem dX6_bestPartFrom_98 : decode cX6_bestPartFrom 98 = .ok (.getfield 60, 3) := by decide +kernel
theorem dX6_bestPartFrom_101 : decode cX6_bestPartFrom 101 = .ok (.iload 5, 2) := by decide +kernel
theorem dX6_bestPartFrom_103 : decode cX6_bestPartFrom 103 = .ok (.aaload, 1) := by decide +kernel
theorem dX6_bestPartFrom_104 : decode cX6_bestPartFrom 104 = .ok (.astore 6, 2) := by decide +kernel
theorem dX6_bestPartFrom_106 : decode cX6_bestPartFrom 106 = .ok (.aload 6, 2) := by decide +kernel
theorem dX6_bestPartFrom_108 : decode cX6_bestPartFrom 108 = .ok (.getfield 67, 3) := by decide +kernel
theorem dX6_bestPartFrom_111 : decode cX6_bestPartFrom 111 = .ok (.iload_n 3, 1) := by decide +kernel
theorem dX6_bestPartFrom_112 : decode cX6_bestPartFrom 112 = .ok (.if_icmp .ne 40, 3) := by decide +kernel
theorem dX6_bestPartFrom_115 : decode cX6_bestPartFrom 115 = .ok (.aload_n 1, 1) := by decide +kernel
theorem dX6_bestPartFrom_116 : decode cX6_bestPartFrom 116 = .ok (.aload_n 2, 1) := by decide +kernel
theorem dX6_bestPartFrom_117 : decode cX6_bestPartFrom 117 = .ok (.aload 6, 2) := by decide +kernel
theorem dX6_bestPartFrom_119 : decode cX6_bestPartFrom 119 = .ok (.invokevirtual 64, 3) := by decide +kernel
theorem dX6_bestPartFrom_122 : decode cX6_bestPartFrom 122 = .ok (.ifCond .eq 30, 3) := by decide +kernel
theorem dX6_bestPartFrom_125 : decode cX6_bestPartFrom 125 = .ok (.aload 6, 2) := by decide +kernel
theorem dX6_bestPartFrom_127 : decode cX6_bestPartFrom 127 = .ok (.aload_n 2, 1) := by decide +kernel
theorem dX6_bestPartFrom_128 : decode cX6_bestPartFrom 128 = .ok (.invokevirtual 72, 3) := by decide +kernel
theorem dX6_bestPartFrom_131 : decode cX6_bestPartFrom 131 = .ok (.aload_n 0, 1) := by decide +kernel
theorem dX6_bestPartFrom_132 : decode cX6_bestPartFrom 132 = .ok (.aload 6, 2) := by decide +kernel
theorem dX6_bestPartFrom_134 : decode cX6_bestPartFrom 134 = .ok (.getfield 76, 3) := by decide +kernel
theorem dX6_bestPartFrom_137 : decode cX6_bestPartFrom 137 = .ok (.invokevirtual 49, 3) := by decide +kernel
theorem dX6_bestPartFrom_140 : decode cX6_bestPartFrom 140 = .ok (.iadd, 1) := by decide +kernel
theorem dX6_bestPartFrom_141 : decode cX6_bestPartFrom 141 = .ok (.iload 4, 2) := by decide +kernel
theorem dX6_bestPartFrom_143 : decode cX6_bestPartFrom 143 = .ok (.if_icmp .ne 9, 3) := by decide +kernel
theorem dX6_bestPartFrom_146 : decode cX6_bestPartFrom 146 = .ok (.bipush 100, 2) := by decide +kernel
theorem dX6_bestPartFrom_148 : decode cX6_bestPartFrom 148 = .ok (.iload 5, 2) := by decide +kernel
theorem dX6_bestPartFrom_150 : decode cX6_bestPartFrom 150 = .ok (.iadd, 1) := by decide +kernel
theorem dX6_bestPartFrom_151 : decode cX6_bestPartFrom 151 = .ok (.ireturn, 1) := by decide +kernel
theorem dX6_bestPartFrom_152 : decode cX6_bestPartFrom 152 = .ok (.iinc 5 1, 3) := by decide +kernel
theorem dX6_bestPartFrom_155 : decode cX6_bestPartFrom 155 = .ok (.goto (-67), 3) := by decide +kernel
theorem dX6_bestPartFrom_158 : decode cX6_bestPartFrom 158 = .ok (.iconst (-1), 1) := by decide +kernel
theorem dX6_bestPartFrom_159 : decode cX6_bestPartFrom 159 = .ok (.ireturn, 1) := by decide +kernel
theorem dX6_stationsWithoutWay_0 : decode cX6_stationsWithoutWay 0 = .ok (.iconst 0, 1) := by decide +kernel
theorem dX6_stationsWithoutWay_1 : decode cX6_stationsWithoutWay 1 = .ok (.istore_n 1, 1) := by decide +kernel
theorem dX6_stationsWithoutWay_2 : decode cX6_stationsWithoutWay 2 = .ok (.iconst 0, 1) := by decide +kernel
theorem dX6_stationsWithoutWay_3 : decode cX6_stationsWithoutWay 3 = .ok (.istore_n 2, 1) := by decide +kernel
theorem dX6_stationsWithoutWay_4 : decode cX6_stationsWithoutWay 4 = .ok (.iload_n 2, 1) := by decide +kernel
theorem dX6_stationsWithoutWay_5 : decode cX6_stationsWithoutWay 5 = .ok (.bipush 8, 2) := by decide +kernel
theorem dX6_stationsWithoutWay_7 : decode cX6_stationsWithoutWay 7 = .ok (.if_icmp .ge 26, 3) := by decide +kernel
theorem dX6_stationsWithoutWay_10 : decode cX6_stationsWithoutWay 10 = .ok (.aload_n 0, 1) := by decide +kernel
theorem dX6_stationsWithoutWay_11 : decode cX6_stationsWithoutWay 11 = .ok (.getfield 9, 3) := by decide +kernel
theorem dX6_stationsWithoutWay_14 : decode cX6_stationsWithoutWay 14 = .ok (.iload_n 2, 1) := by decide +kernel
theorem dX6_stationsWithoutWay_15 : decode cX6_stationsWithoutWay 15 = .ok (.iaload, 1) := by decide +kernel
theorem dX6_stationsWithoutWay_16 : decode cX6_stationsWithoutWay 16 = .ok (.ldc 19, 2) := by decide +kernel
theorem dX6_stationsWithoutWay_18 : decode cX6_stationsWithoutWay 18 = .ok (.if_icmp .lt 9, 3) := by decide +kernel
theorem dX6_stationsWithoutWay_21 : decode cX6_stationsWithoutWay 21 = .ok (.iload_n 1, 1) := by decide +kernel
theorem dX6_stationsWithoutWay_22 : decode cX6_stationsWithoutWay 22 = .ok (.iconst 1, 1) := by decide +kernel
theorem dX6_stationsWithoutWay_23 : decode cX6_stationsWithoutWay 23 = .ok (.iload_n 2, 1) := by decide +kernel
theorem dX6_stationsWithoutWay_24 : decode cX6_stationsWithoutWay 24 = .ok (.ishl, 1) := by decide +kernel
theorem dX6_stationsWithoutWay_25 : decode cX6_stationsWithoutWay 25 = .ok (.ior, 1) := by decide +kernel
theorem dX6_stationsWithoutWay_26 : decode cX6_stationsWithoutWay 26 = .ok (.istore_n 1, 1) := by decide +kernel
theorem dX6_stationsWithoutWay_27 : decode cX6_stationsWithoutWay 27 = .ok (.iinc 2 1, 3) := by decide +kernel
theorem dX6_stationsWithoutWay_30 : decode cX6_stationsWithoutWay 30 = .ok (.goto (-26), 3) := by decide +kernel
theorem dX6_stationsWithoutWay_33 : decode cX6_stationsWithoutWay 33 = .ok (.iload_n 1, 1) := by decide +kernel
theorem dX6_stationsWithoutWay_34 : decode cX6_stationsWithoutWay 34 = .ok (.ireturn, 1) := by decide +kernel
theorem dX6_stationsFrom_0 : decode cX6_stationsFrom 0 = .ok (.iconst 1, 1) := by decide +kernel
theorem dX6_stationsFrom_1 : decode cX6_stationsFrom 1 = .ok (.iload_n 3, 1) := by decide +kernel
theorem dX6_stationsFrom_2 : decode cX6_stationsFrom 2 = .ok (.ishl, 1) := by decide +kernel
theorem dX6_stationsFrom_3 : decode cX6_stationsFrom 3 = .ok (.istore 4, 2) := by decide +kernel
theorem dX6_stationsFrom_5 : decode cX6_stationsFrom 5 = .ok (.iconst 1, 1) := by decide +kernel
theorem dX6_stationsFrom_6 : decode cX6_stationsFrom 6 = .ok (.istore 5, 2) := by decide +kernel
theorem dX6_stationsFrom_8 : decode cX6_stationsFrom 8 = .ok (.iload 5, 2) := by decide +kernel
theorem dX6_stationsFrom_10 : decode cX6_stationsFrom 10 = .ok (.bipush 8, 2) := by decide +kernel
theorem dX6_stationsFrom_12 : decode cX6_stationsFrom 12 = .ok (.if_icmp .ge 19, 3) := by decide +kernel
theorem dX6_stationsFrom_15 : decode cX6_stationsFrom 15 = .ok (.aload_n 0, 1) := by decide +kernel
theorem dX6_stationsFrom_16 : decode cX6_stationsFrom 16 = .ok (.aload_n 1, 1) := by decide +kernel
theorem dX6_stationsFrom_17 : decode cX6_stationsFrom 17 = .ok (.aload_n 2, 1) := by decide +kernel
theorem dX6_stationsFrom_18 : decode cX6_stationsFrom 18 = .ok (.iload 4, 2) := by decide +kernel
theorem dX6_stationsFrom_20 : decode cX6_stationsFrom 20 = .ok (.invokevirtual 79, 3) := by decide +kernel
theorem dX6_stationsFrom_23 : decode cX6_stationsFrom 23 = .ok (.istore 4, 2) := by decide +kernel
theorem dX6_stationsFrom_25 : decode cX6_stationsFrom 25 = .ok (.iinc 5 1, 3) := by decide +kernel
theorem dX6_stationsFrom_28 : decode cX6_stationsFrom 28 = .ok (.goto (-20), 3) := by decide +kernel
theorem dX6_stationsFrom_31 : decode cX6_stationsFrom 31 = .ok (.iload 4, 2) := by decide +kernel
theorem dX6_stationsFrom_33 : decode cX6_stationsFrom 33 = .ok (.ireturn, 1) := by decide +kernel
theorem dX6_spread_0 : decode cX6_spread 0 = .ok (.iload_n 3, 1) := by decide +kernel
theorem dX6_spread_1 : decode cX6_spread 1 = .ok (.istore 4, 2) := by decide +kernel
theorem dX6_spread_3 : decode cX6_spread 3 = .ok (.iconst 0, 1) := by decide +kernel
theorem dX6_spread_4 : decode cX6_spread 4 = .ok (.istore 5, 2) := by decide +kernel
theorem dX6_spread_6 : decode cX6_spread 6 = .ok (.iload 5, 2) := by decide +kernel
theorem dX6_spread_8 : decode cX6_spread 8 = .ok (.aload_n 1, 1) := by decide +kernel
theorem dX6_spread_9 : decode cX6_spread 9 = .ok (.getfield 24, 3) := by decide +kernel
theorem dX6_spread_12 : decode cX6_spread 12 = .ok (.if_icmp .ge 53, 3) := by decide +kernel
theorem dX6_spread_15 : decode cX6_spread 15 = .ok (.aload_n 1, 1) := by decide +kernel
theorem dX6_spread_16 : decode cX6_spread 16 = .ok (.getfield 30, 3) := by decide +kernel
theorem dX6_spread_19 : decode cX6_spread 19 = .ok (.iload 5, 2) := by decide +kernel
theorem dX6_spread_21 : decode cX6_spread 21 = .ok (.aaload, 1) := by decide +kernel
theorem dX6_spread_22 : decode cX6_spread 22 = .ok (.astore 6, 2) := by decide +kernel
theorem dX6_spread_24 : decode cX6_spread 24 = .ok (.iload 4, 2) := by decide +kernel
theorem dX6_spread_26 : decode cX6_spread 26 = .ok (.aload 6, 2) := by decide +kernel
theorem dX6_spread_28 : decode cX6_spread 28 = .ok (.getfield 38, 3) := by decide +kernel
theorem dX6_spread_31 : decode cX6_spread 31 = .ok (.ishr, 1) := by decide +kernel
theorem dX6_spread_32 : decode cX6_spread 32 = .ok (.iconst 1, 1) := by decide +kernel
theorem dX6_spread_33 : decode cX6_spread 33 = .ok (.iand, 1) := by decide +kernel
theorem dX6_spread_34 : decode cX6_spread 34 = .ok (.ifCond .eq 25, 3) := by decide +kernel
theorem dX6_spread_37 : decode cX6_spread 37 = .ok (.aload_n 1, 1) := by decide +kernel
theorem dX6_spread_38 : decode cX6_spread 38 = .ok (.aload_n 2, 1) := by decide +kernel
theorem dX6_spread_39 : decode cX6_spread 39 = .ok (.aload 6, 2) := by decide +kernel
theorem dX6_spread_41 : decode cX6_spread 41 = .ok (.invokevirtual 34, 3) := by decide +kernel
theorem dX6_spread_44 : decode cX6_spread 44 = .ok (.ifCond .eq 15, 3) := by decide +kernel
theorem dX6_spread_47 : decode cX6_spread 47 = .ok (.iload 4, 2) := by decide +kernel
theorem dX6_spread_49 : decode cX6_spread 49 = .ok (.iconst 1, 1) := by decide +kernel
theorem dX6_spread_50 : decode cX6_spread 50 = .ok (.aload 6, 2) := by decide +kernel
theorem dX6_spread_52 : decode cX6_spread 52 = .ok (.getfield 46, 3) := by decide +kernel
theorem dX6_spread_55 : decode cX6_spread 55 = .ok (.ishl, 1) := by decide +kernel
theorem dX6_spread_56 : decode cX6_spread 56 = .ok (.ior, 1) := by decide +kernel
theorem dX6_spread_57 : decode cX6_spread 57 = .ok (.istore 4, 2) := by decide +kernel
theorem dX6_spread_59 : decode cX6_spread 59 = .ok (.iinc 5 1, 3) := by decide +kernel
theorem dX6_spread_62 : decode cX6_spread 62 = .ok (.goto (-56), 3) := by decide +kernel
theorem dX6_spread_65 : decode cX6_spread 65 = .ok (.iconst 0, 1) := by decide +kernel
theorem dX6_spread_66 : decode cX6_spread 66 = .ok (.istore 5, 2) := by decide +kernel
theorem dX6_spread_68 : decode cX6_spread 68 = .ok (.iload 5, 2) := by decide +kernel
theorem dX6_spread_70 : decode cX6_spread 70 = .ok (.aload_n 1, 1) := by decide +kernel
theorem dX6_spread_71 : decode cX6_spread 71 = .ok (.getfield 57, 3) := by decide +kernel
theorem dX6_spread_74 : decode cX6_spread 74 = .ok (.if_icmp .ge 53, 3) := by decide +kernel
theorem dX6_spread_77 : decode cX6_spread 77 = .ok (.aload_n 1, 1) := by decide +kernel
theorem dX6_spread_78 : decode cX6_spread 78 = .ok (.getfield 60, 3) := by decide +kernel
theorem dX6_spread_81 : decode cX6_spread 81 = .ok (.iload 5, 2) := by decide +kernel
theorem dX6_spread_83 : decode cX6_spread 83 = .ok (.aaload, 1) := by decide +kernel
theorem dX6_spread_84 : decode cX6_spread 84 = .ok (.astore 6, 2) := by decide +kernel
theorem dX6_spread_86 : decode cX6_spread 86 = .ok (.iload 4, 2) := by decide +kernel
theorem dX6_spread_88 : decode cX6_spread 88 = .ok (.aload 6, 2) := by decide +kernel
theorem dX6_spread_90 : decode cX6_spread 90 = .ok (.getfield 67, 3) := by decide +kernel
theorem dX6_spread_93 : decode cX6_spread 93 = .ok (.ishr, 1) := by decide +kernel
theorem dX6_spread_94 : decode cX6_spread 94 = .ok (.iconst 1, 1) := by decide +kernel
theorem dX6_spread_95 : decode cX6_spread 95 = .ok (.iand, 1) := by decide +kernel
theorem dX6_spread_96 : decode cX6_spread 96 = .ok (.ifCond .eq 25, 3) := by decide +kernel
theorem dX6_spread_99 : decode cX6_spread 99 = .ok (.aload_n 1, 1) := by decide +kernel
theorem dX6_spread_100 : decode cX6_spread 100 = .ok (.aload_n 2, 1) := by decide +kernel
theorem dX6_spread_101 : decode cX6_spread 101 = .ok (.aload 6, 2) := by decide +kernel
theorem dX6_spread_103 : decode cX6_spread 103 = .ok (.invokevirtual 64, 3) := by decide +kernel
theorem dX6_spread_106 : decode cX6_spread 106 = .ok (.ifCond .eq 15, 3) := by decide +kernel
theorem dX6_spread_109 : decode cX6_spread 109 = .ok (.iload 4, 2) := by decide +kernel
theorem dX6_spread_111 : decode cX6_spread 111 = .ok (.iconst 1, 1) := by decide +kernel
theorem dX6_spread_112 : decode cX6_spread 112 = .ok (.aload 6, 2) := by decide +kernel
theorem dX6_spread_114 : decode cX6_spread 114 = .ok (.getfield 76, 3) := by decide +kernel
theorem dX6_spread_117 : decode cX6_spread 117 = .ok (.ishl, 1) := by decide +kernel
theorem dX6_spread_118 : decode cX6_spread 118 = .ok (.ior, 1) := by decide +kernel
theorem dX6_spread_119 : decode cX6_spread 119 = .ok (.istore 4, 2) := by decide +kernel
theorem dX6_spread_121 : decode cX6_spread 121 = .ok (.iinc 5 1, 3) := by decide +kernel
theorem dX6_spread_124 : decode cX6_spread 124 = .ok (.goto (-56), 3) := by decide +kernel
theorem dX6_spread_127 : decode cX6_spread 127 = .ok (.iload 4, 2) := by decide +kernel
theorem dX6_spread_129 : decode cX6_spread 129 = .ok (.ireturn, 1) := by decide +kernel
theorem dX7_init_0 : decode cX7_init 0 = .ok (.aload_n 0, 1) := by decide +kernel
theorem dX7_init_1 : decode cX7_init 1 = .ok (.invokespecial 3, 3) := by decide +kernel
theorem dX7_init_4 : decode cX7_init 4 = .ok (.aload_n 0, 1) := by decide +kernel
theorem dX7_init_5 : decode cX7_init 5 = .ok (.new 9, 3) := by decide +kernel
theorem dX7_init_8 : decode cX7_init 8 = .ok (.dup, 1) := by decide +kernel
theorem dX7_init_9 : decode cX7_init 9 = .ok (.invokespecial 11, 3) := by decide +kernel
theorem dX7_init_12 : decode cX7_init 12 = .ok (.putfield 12, 3) := by decide +kernel
theorem dX7_init_15 : decode cX7_init 15 = .ok (.aload_n 0, 1) := by decide +kernel
theorem dX7_init_16 : decode cX7_init 16 = .ok (.new 9, 3) := by decide +kernel
theorem dX7_init_19 : decode cX7_init 19 = .ok (.dup, 1) := by decide +kernel
theorem dX7_init_20 : decode cX7_init 20 = .ok (.invokespecial 11, 3) := by decide +kernel
theorem dX7_init_23 : decode cX7_init 23 = .ok (.putfield 16, 3) := by decide +kernel
theorem dX7_init_26 : decode cX7_init 26 = .ok (.aload_n 0, 1) := by decide +kernel
theorem dX7_init_27 : decode cX7_init 27 = .ok (.new 9, 3) := by decide +kernel
theorem dX7_init_30 : decode cX7_init 30 = .ok (.dup, 1) := by decide +kernel
theorem dX7_init_31 : decode cX7_init 31 = .ok (.invokespecial 11, 3) := by decide +kernel
theorem dX7_init_34 : decode cX7_init 34 = .ok (.putfield 19, 3) := by decide +kernel
theorem dX7_init_37 : decode cX7_init 37 = .ok (.aload_n 0, 1) := by decide +kernel
theorem dX7_init_38 : decode cX7_init 38 = .ok (.new 22, 3) := by decide +kernel
theorem dX7_init_41 : decode cX7_init 41 = .ok (.dup, 1) := by decide +kernel
theorem dX7_init_42 : decode cX7_init 42 = .ok (.invokespecial 24, 3) := by decide +kernel
theorem dX7_init_45 : decode cX7_init 45 = .ok (.putfield 25, 3) := by decide +kernel
theorem dX7_init_48 : decode cX7_init 48 = .ok (.aload_n 0, 1) := by decide +kernel
theorem dX7_init_49 : decode cX7_init 49 = .ok (.new 29, 3) := by decide +kernel
theorem dX7_init_52 : decode cX7_init 52 = .ok (.dup, 1) := by decide +kernel
theorem dX7_init_53 : decode cX7_init 53 = .ok (.invokespecial 31, 3) := by decide +kernel
theorem dX7_init_56 : decode cX7_init 56 = .ok (.putfield 32, 3) := by decide +kernel
theorem dX7_init_59 : decode cX7_init 59 = .ok (.aload_n 0, 1) := by decide +kernel
theorem dX7_init_60 : decode cX7_init 60 = .ok (.new 36, 3) := by decide +kernel
theorem dX7_init_63 : decode cX7_init 63 = .ok (.dup, 1) := by decide +kernel
theorem dX7_init_64 : decode cX7_init 64 = .ok (.invokespecial 38, 3) := by decide +kernel
theorem dX7_init_67 : decode cX7_init 67 = .ok (.putfield 39, 3) := by decide +kernel
theorem dX7_init_70 : decode cX7_init 70 = .ok (.aload_n 0, 1) := by decide +kernel
theorem dX7_init_71 : decode cX7_init 71 = .ok (.iconst 0, 1) := by decide +kernel
theorem dX7_init_72 : decode cX7_init 72 = .ok (.putfield 43, 3) := by decide +kernel
theorem dX7_init_75 : decode cX7_init 75 = .ok (.aload_n 0, 1) := by decide +kernel
theorem dX7_init_76 : decode cX7_init 76 = .ok (.iconst 0, 1) := by decide +kernel
theorem dX7_init_77 : decode cX7_init 77 = .ok (.putfield 47, 3) := by decide +kernel
theorem dX7_init_80 : decode cX7_init 80 = .ok (.aload_n 0, 1) := by decide +kernel
theorem dX7_init_81 : decode cX7_init 81 = .ok (.iconst (-1), 1) := by decide +kernel
theorem dX7_init_82 : decode cX7_init 82 = .ok (.putfield 51, 3) := by decide +kernel
theorem dX7_init_85 : decode cX7_init 85 = .ok (.return_, 1) := by decide +kernel
theorem dX7_clear_0 : decode cX7_clear 0 = .ok (.aload_n 0, 1) := by decide +kernel
theorem dX7_clear_1 : decode cX7_clear 1 = .ok (.getfield 12, 3) := by decide +kernel
theorem dX7_clear_4 : decode cX7_clear 4 = .ok (.getfield 54, 3) := by decide +kernel
theorem dX7_clear_7 : decode cX7_clear 7 = .ok (.istore_n 1, 1) := by decide +kernel
theorem dX7_clear_8 : decode cX7_clear 8 = .ok (.aload_n 0, 1) := by decide +kernel
theorem dX7_clear_9 : decode cX7_clear 9 = .ok (.getfield 12, 3) := by decide +kernel
theorem dX7_clear_12 : decode cX7_clear 12 = .ok (.invokevirtual 57, 3) := by decide +kernel
theorem dX7_clear_15 : decode cX7_clear 15 = .ok (.aload_n 0, 1) := by decide +kernel
theorem dX7_clear_16 : decode cX7_clear 16 = .ok (.getfield 25, 3) := by decide +kernel
theorem dX7_clear_19 : decode cX7_clear 19 = .ok (.invokevirtual 60, 3) := by decide +kernel
theorem dX7_clear_22 : decode cX7_clear 22 = .ok (.iload_n 1, 1) := by decide +kernel
theorem dX7_clear_23 : decode cX7_clear 23 = .ok (.ireturn, 1) := by decide +kernel
theorem dX7_addLift_0 : decode cX7_addLift 0 = .ok (.iload_n 1, 1) := by decide +kernel
theorem dX7_addLift_1 : decode cX7_addLift 1 = .ok (.invokestatic 63, 3) := by decide +kernel
theorem dX7_addLift_4 : decode cX7_addLift 4 = .ok (.ifCond .eq 10, 3) := by decide +kernel
theorem dX7_addLift_7 : decode cX7_addLift 7 = .ok (.iload_n 2, 1) := by decide +kernel
theorem dX7_addLift_8 : decode cX7_addLift 8 = .ok (.invokestatic 63, 3) := by decide +kernel
theorem dX7_addLift_11 : decode cX7_addLift 11 = .ok (.ifCond .ne 13, 3) := by decide +kernel
theorem dX7_addLift_14 : decode cX7_addLift 14 = .ok (.new 67, 3) := by decide +kernel
theorem dX7_addLift_17 : decode cX7_addLift 17 = .ok (.dup, 1) := by decide +kernel
theorem dX7_addLift_18 : decode cX7_addLift 18 = .ok (.ldc 69, 2) := by decide +kernel
theorem dX7_addLift_20 : decode cX7_addLift 20 = .ok (.invokespecial 71, 3) := by decide +kernel
theorem dX7_addLift_23 : decode cX7_addLift 23 = .ok (.athrow, 1) := by decide +kernel
theorem dX7_addLift_24 : decode cX7_addLift 24 = .ok (.iload_n 1, 1) := by decide +kernel
theorem dX7_addLift_25 : decode cX7_addLift 25 = .ok (.iload_n 2, 1) := by decide +kernel
theorem dX7_addLift_26 : decode cX7_addLift 26 = .ok (.if_icmp .eq 61, 3) := by decide +kernel
theorem dX7_addLift_29 : decode cX7_addLift 29 = .ok (.iload_n 3, 1) := by decide +kernel
theorem dX7_addLift_30 : decode cX7_addLift 30 = .ok (.iconst 0, 1) := by decide +kernel
theorem dX7_addLift_31 : decode cX7_addLift 31 = .ok (.iconst 3, 1) := by decide +kernel
theorem dX7_addLift_32 : decode cX7_addLift 32 = .ok (.invokestatic 74, 3) := by decide +kernel
theorem dX7_addLift_35 : decode cX7_addLift 35 = .ok (.ifCond .eq 52, 3) := by decide +kernel
theorem dX7_addLift_38 : decode cX7_addLift 38 = .ok (.iload 4, 2) := by decide +kernel
theorem dX7_addLift_40 : decode cX7_addLift 40 = .ok (.iconst 1, 1) := by decide +kernel
theorem dX7_addLift_41 : decode cX7_addLift 41 = .ok (.bipush 6, 2) := by decide +kernel
theorem dX7_addLift_43 : decode cX7_addLift 43 = .ok (.invokestatic 74, 3) := by decide +kernel
theorem dX7_addLift_46 : decode cX7_addLift 46 = .ok (.ifCond .eq 41, 3) := by decide +kernel
theorem dX7_addLift_49 : decode cX7_addLift 49 = .ok (.iload 5, 2) := by decide +kernel
theorem dX7_addLift_51 : decode cX7_addLift 51 = .ok (.iconst 1, 1) := by decide +kernel
theorem dX7_addLift_52 : decode cX7_addLift 52 = .ok (.bipush 8, 2) := by decide +kernel
theorem dX7_addLift_54 : decode cX7_addLift 54 = .ok (.invokestatic 74, 3) := by decide +kernel
theorem dX7_addLift_57 : decode cX7_addLift 57 = .ok (.ifCond .eq 30, 3) := by decide +kernel
theorem dX7_addLift_60 : decode cX7_addLift 60 = .ok (.iload 6, 2) := by decide +kernel
theorem dX7_addLift_62 : decode cX7_addLift 62 = .ok (.bipush 10, 2) := by decide +kernel
theorem dX7_addLift_64 : decode cX7_addLift 64 = .ok (.idiv, 1) := by decide +kernel
theorem dX7_addLift_65 : decode cX7_addLift 65 = .ok (.iconst 1, 1) := by decide +kernel
theorem dX7_addLift_66 : decode cX7_addLift 66 = .ok (.bipush 9, 2) := by decide +kernel
theorem dX7_addLift_68 : decode cX7_addLift 68 = .ok (.invokestatic 74, 3) := by decide +kernel
theorem dX7_addLift_71 : decode cX7_addLift 71 = .ok (.ifCond .eq 16, 3) := by decide +kernel
theorem dX7_addLift_74 : decode cX7_addLift 74 = .ok (.iload 6, 2) := by decide +kernel
theorem dX7_addLift_76 : decode cX7_addLift 76 = .ok (.bipush 10, 2) := by decide +kernel
theorem dX7_addLift_78 : decode cX7_addLift 78 = .ok (.irem, 1) := by decide +kernel
theorem dX7_addLift_79 : decode cX7_addLift 79 = .ok (.iconst 0, 1) := by decide +kernel
theorem dX7_addLift_80 : decode cX7_addLift 80 = .ok (.iconst 3, 1) := by decide +kernel
theorem dX7_addLift_81 : decode cX7_addLift 81 = .ok (.invokestatic 74, 3) := by decide +kernel
theorem dX7_addLift_84 : decode cX7_addLift 84 = .ok (.ifCond .ne 13, 3) := by decide +kernel
theorem dX7_addLift_87 : decode cX7_addLift 87 = .ok (.new 78, 3) := by decide +kernel
theorem dX7_addLift_90 : decode cX7_addLift 90 = .ok (.dup, 1) := by decide +kernel
theorem dX7_addLift_91 : decode cX7_addLift 91 = .ok (.ldc 80, 2) := by decide +kernel
theorem dX7_addLift_93 : decode cX7_addLift 93 = .ok (.invokespecial 82, 3) := by decide +kernel
theorem dX7_addLift_96 : decode cX7_addLift 96 = .ok (.athrow, 1) := by decide +kernel
theorem dX7_addLift_97 : decode cX7_addLift 97 = .ok (.aload_n 0, 1) := by decide +kernel
theorem dX7_addLift_98 : decode cX7_addLift 98 = .ok (.getfield 12, 3) := by decide +kernel
theorem dX7_addLift_101 : decode cX7_addLift 101 = .ok (.getfield 83, 3) := by decide +kernel
theorem dX7_addLift_104 : decode cX7_addLift 104 = .ok (.bipush 6, 2) := by decide +kernel
theorem dX7_addLift_106 : decode cX7_addLift 106 = .ok (.if_icmp .lt 13, 3) := by decide +kernel
theorem dX7_addLift_109 : decode cX7_addLift 109 = .ok (.new 86, 3) := by decide +kernel
theorem dX7_addLift_112 : decode cX7_addLift 112 = .ok (.dup, 1) := by decide +kernel
theorem dX7_addLift_113 : decode cX7_addLift 113 = .ok (.ldc 88, 2) := by decide +kernel
theorem dX7_addLift_115 : decode cX7_addLift 115 = .ok (.invokespecial 90, 3) := by decide +kernel
theorem dX7_addLift_118 : decode cX7_addLift 118 = .ok (.athrow, 1) := by decide +kernel
theorem dX7_addLift_119 : decode cX7_addLift 119 = .ok (.aload_n 0, 1) := by decide +kernel
theorem dX7_addLift_120 : decode cX7_addLift 120 = .ok (.getfield 25, 3) := by decide +kernel
theorem dX7_addLift_123 : decode cX7_addLift 123 = .ok (.aload_n 0, 1) := by decide +kernel
theorem dX7_addLift_124 : decode cX7_addLift 124 = .ok (.getfield 12, 3) := by decide +kernel
theorem dX7_addLift_127 : decode cX7_addLift 127 = .ok (.invokevirtual 91, 3) := by decide +kernel
theorem dX7_addLift_130 : decode cX7_addLift 130 = .ok (.aload_n 0, 1) := by decide +kernel
theorem dX7_addLift_131 : decode cX7_addLift 131 = .ok (.getfield 12, 3) := by decide +kernel
theorem dX7_addLift_134 : decode cX7_addLift 134 = .ok (.getfield 95, 3) := by decide +kernel
theorem dX7_addLift_137 : decode cX7_addLift 137 = .ok (.aload_n 0, 1) := by decide +kernel
theorem dX7_addLift_138 : decode cX7_addLift 138 = .ok (.getfield 12, 3) := by decide +kernel
theorem dX7_addLift_141 : decode cX7_addLift 141 = .ok (.getfield 83, 3) := by decide +kernel
theorem dX7_addLift_144 : decode cX7_addLift 144 = .ok (.aaload, 1) := by decide +kernel
theorem dX7_addLift_145 : decode cX7_addLift 145 = .ok (.iload_n 1, 1) := by decide +kernel
theorem dX7_addLift_146 : decode cX7_addLift 146 = .ok (.iload_n 2, 1) := by decide +kernel
theorem dX7_addLift_147 : decode cX7_addLift 147 = .ok (.iload_n 3, 1) := by decide +kernel
theorem dX7_addLift_148 : decode cX7_addLift 148 = .ok (.iload 4, 2) := by decide +kernel
theorem dX7_addLift_150 : decode cX7_addLift 150 = .ok (.iload 5, 2) := by decide +kernel
theorem dX7_addLift_152 : decode cX7_addLift 152 = .ok (.iload 6, 2) := by decide +kernel
theorem dX7_addLift_154 : decode cX7_addLift 154 = .ok (.invokevirtual 99, 3) := by decide +kernel
theorem dX7_addLift_157 : decode cX7_addLift 157 = .ok (.aload_n 0, 1) := by decide +kernel
theorem dX7_addLift_158 : decode cX7_addLift 158 = .ok (.getfield 12, 3) := by decide +kernel
theorem dX7_addLift_161 : decode cX7_addLift 161 = .ok (.dup, 1) := by decide +kernel
theorem dX7_addLift_162 : decode cX7_addLift 162 = .ok (.getfield 83, 3) := by decide +kernel
theorem dX7_addLift_165 : decode cX7_addLift 165 = .ok (.iconst 1, 1) := by decide +kernel
theorem dX7_addLift_166 : decode cX7_addLift 166 = .ok (.iadd, 1) := by decide +kernel
theorem dX7_addLift_167 : decode cX7_addLift 167 = .ok (.putfield 83, 3) := by decide +kernel
theorem dX7_addLift_170 : decode cX7_addLift 170 = .ok (.aload_n 0, 1) := by decide +kernel
theorem dX7_addLift_171 : decode cX7_addLift 171 = .ok (.getfield 12, 3) := by decide +kernel
theorem dX7_addLift_174 : decode cX7_addLift 174 = .ok (.getfield 83, 3) := by decide +kernel
theorem dX7_addLift_177 : decode cX7_addLift 177 = .ok (.iconst 1, 1) := by decide +kernel
theorem dX7_addLift_178 : decode cX7_addLift 178 = .ok (.isub, 1) := by decide +kernel
theorem dX7_addLift_179 : decode cX7_addLift 179 = .ok (.ireturn, 1) := by decide +kernel
theorem dX7_addPiste_0 : decode cX7_addPiste 0 = .ok (.iload_n 1, 1) := by decide +kernel
theorem dX7_addPiste_1 : decode cX7_addPiste 1 = .ok (.invokestatic 63, 3) := by decide +kernel
theorem dX7_addPiste_4 : decode cX7_addPiste 4 = .ok (.ifCond .eq 10, 3) := by decide +kernel
theorem dX7_addPiste_7 : decode cX7_addPiste 7 = .ok (.iload_n 2, 1) := by decide +kernel
theorem dX7_addPiste_8 : decode cX7_addPiste 8 = .ok (.invokestatic 63, 3) := by decide +kernel
theorem dX7_addPiste_11 : decode cX7_addPiste 11 = .ok (.ifCond .ne 13, 3) := by decide +kernel
theorem dX7_addPiste_14 : decode cX7_addPiste 14 = .ok (.new 67, 3) := by decide +kernel
theorem dX7_addPiste_17 : decode cX7_addPiste 17 = .ok (.dup, 1) := by decide +kernel
theorem dX7_addPiste_18 : decode cX7_addPiste 18 = .ok (.ldc 69, 2) := by decide +kernel
theorem dX7_addPiste_20 : decode cX7_addPiste 20 = .ok (.invokespecial 71, 3) := by decide +kernel
theorem dX7_addPiste_23 : decode cX7_addPiste 23 = .ok (.athrow, 1) := by decide +kernel
theorem dX7_addPiste_24 : decode cX7_addPiste 24 = .ok (.iload_n 1, 1) := by decide +kernel
theorem dX7_addPiste_25 : decode cX7_addPiste 25 = .ok (.iload_n 2, 1) := by decide +kernel
theorem dX7_addPiste_26 : decode cX7_addPiste 26 = .ok (.if_icmp .eq 23, 3) := by decide +kernel
theorem dX7_addPiste_29 : decode cX7_addPiste 29 = .ok (.iload_n 3, 1) := by decide +kernel
theorem dX7_addPiste_30 : decode cX7_addPiste 30 = .ok (.iconst 1, 1) := by decide +kernel
theorem dX7_addPiste_31 : decode cX7_addPiste 31 = .ok (.iconst 3, 1) := by decide +kernel
theorem dX7_addPiste_32 : decode cX7_addPiste 32 = .ok (.invokestatic 74, 3) := by decide +kernel
theorem dX7_addPiste_35 : decode cX7_addPiste 35 = .ok (.ifCond .eq 14, 3) := by decide +kernel
theorem dX7_addPiste_38 : decode cX7_addPiste 38 = .ok (.iload 4, 2) := by decide +kernel
theorem dX7_addPiste_40 : decode cX7_addPiste 40 = .ok (.iconst 1, 1) := by decide +kernel
theorem dX7_addPiste_41 : decode cX7_addPiste 41 = .ok (.bipush 9, 2) := by decide +kernel
theorem dX7_addPiste_43 : decode cX7_addPiste 43 = .ok (.invokestatic 74, 3) := by decide +kernel
theorem dX7_addPiste_46 : decode cX7_addPiste 46 = .ok (.ifCond .ne 13, 3) := by decide +kernel
theorem dX7_addPiste_49 : decode cX7_addPiste 49 = .ok (.new 78, 3) := by decide +kernel
theorem dX7_addPiste_52 : decode cX7_addPiste 52 = .ok (.dup, 1) := by decide +kernel
theorem dX7_addPiste_53 : decode cX7_addPiste 53 = .ok (.ldc 105, 2) := by decide +kernel
theorem dX7_addPiste_55 : decode cX7_addPiste 55 = .ok (.invokespecial 82, 3) := by decide +kernel
theorem dX7_addPiste_58 : decode cX7_addPiste 58 = .ok (.athrow, 1) := by decide +kernel
theorem dX7_addPiste_59 : decode cX7_addPiste 59 = .ok (.aload_n 0, 1) := by decide +kernel
theorem dX7_addPiste_60 : decode cX7_addPiste 60 = .ok (.getfield 12, 3) := by decide +kernel
theorem dX7_addPiste_63 : decode cX7_addPiste 63 = .ok (.getfield 107, 3) := by decide +kernel
theorem dX7_addPiste_66 : decode cX7_addPiste 66 = .ok (.bipush 10, 2) := by decide +kernel
theorem dX7_addPiste_68 : decode cX7_addPiste 68 = .ok (.if_icmp .lt 13, 3) := by decide +kernel
theorem dX7_addPiste_71 : decode cX7_addPiste 71 = .ok (.new 86, 3) := by decide +kernel
theorem dX7_addPiste_74 : decode cX7_addPiste 74 = .ok (.dup, 1) := by decide +kernel
theorem dX7_addPiste_75 : decode cX7_addPiste 75 = .ok (.ldc 110, 2) := by decide +kernel
theorem dX7_addPiste_77 : decode cX7_addPiste 77 = .ok (.invokespecial 90, 3) := by decide +kernel
theorem dX7_addPiste_80 : decode cX7_addPiste 80 = .ok (.athrow, 1) := by decide +kernel
theorem dX7_addPiste_81 : decode cX7_addPiste 81 = .ok (.aload_n 0, 1) := by decide +kernel
theorem dX7_addPiste_82 : decode cX7_addPiste 82 = .ok (.getfield 25, 3) := by decide +kernel
theorem dX7_addPiste_85 : decode cX7_addPiste 85 = .ok (.aload_n 0, 1) := by decide +kernel
theorem dX7_addPiste_86 : decode cX7_addPiste 86 = .ok (.getfield 12, 3) := by decide +kernel
theorem dX7_addPiste_89 : decode cX7_addPiste 89 = .ok (.invokevirtual 91, 3) := by decide +kernel
theorem dX7_addPiste_92 : decode cX7_addPiste 92 = .ok (.aload_n 0, 1) := by decide +kernel
theorem dX7_addPiste_93 : decode cX7_addPiste 93 = .ok (.getfield 12, 3) := by decide +kernel
theorem dX7_addPiste_96 : decode cX7_addPiste 96 = .ok (.getfield 112, 3) := by decide +kernel
theorem dX7_addPiste_99 : decode cX7_addPiste 99 = .ok (.aload_n 0, 1) := by decide +kernel
theorem dX7_addPiste_100 : decode cX7_addPiste 100 = .ok (.getfield 12, 3) := by decide +kernel
theorem dX7_addPiste_103 : decode cX7_addPiste 103 = .ok (.getfield 107, 3) := by decide +kernel
theorem dX7_addPiste_106 : decode cX7_addPiste 106 = .ok (.aaload, 1) := by decide +kernel
theorem dX7_addPiste_107 : decode cX7_addPiste 107 = .ok (.iload_n 1, 1) := by decide +kernel
theorem dX7_addPiste_108 : decode cX7_addPiste 108 = .ok (.iload_n 2, 1) := by decide +kernel
theorem dX7_addPiste_109 : decode cX7_addPiste 109 = .ok (.iload_n 3, 1) := by decide +kernel
theorem dX7_addPiste_110 : decode cX7_addPiste 110 = .ok (.iload 4, 2) := by decide +kernel
theorem dX7_addPiste_112 : decode cX7_addPiste 112 = .ok (.invokevirtual 116, 3) := by decide +kernel
theorem dX7_addPiste_115 : decode cX7_addPiste 115 = .ok (.aload_n 0, 1) := by decide +kernel
theorem dX7_addPiste_116 : decode cX7_addPiste 116 = .ok (.getfield 12, 3) := by decide +kernel
theorem dX7_addPiste_119 : decode cX7_addPiste 119 = .ok (.dup, 1) := by decide +kernel
theorem dX7_addPiste_120 : decode cX7_addPiste 120 = .ok (.getfield 107, 3) := by decide +kernel
theorem dX7_addPiste_123 : decode cX7_addPiste 123 = .ok (.iconst 1, 1) := by decide +kernel
theorem dX7_addPiste_124 : decode cX7_addPiste 124 = .ok (.iadd, 1) := by decide +kernel
theorem dX7_addPiste_125 : decode cX7_addPiste 125 = .ok (.putfield 107, 3) := by decide +kernel
theorem dX7_addPiste_128 : decode cX7_addPiste 128 = .ok (.aload_n 0, 1) := by decide +kernel
theorem dX7_addPiste_129 : decode cX7_addPiste 129 = .ok (.getfield 12, 3) := by decide +kernel
theorem dX7_addPiste_132 : decode cX7_addPiste 132 = .ok (.getfield 107, 3) := by decide +kernel
theorem dX7_addPiste_135 : decode cX7_addPiste 135 = .ok (.iconst 1, 1) := by decide +kernel
theorem dX7_addPiste_136 : decode cX7_addPiste 136 = .ok (.isub, 1) := by decide +kernel
theorem dX7_addPiste_137 : decode cX7_addPiste 137 = .ok (.ireturn, 1) := by decide +kernel
theorem dX7_setWind_0 : decode cX7_setWind 0 = .ok (.iload_n 1, 1) := by decide +kernel
theorem dX7_setWind_1 : decode cX7_setWind 1 = .ok (.iconst 0, 1) := by decide +kernel
theorem dX7_setWind_2 : decode cX7_setWind 2 = .ok (.bipush 9, 2) := by decide +kernel
theorem dX7_setWind_4 : decode cX7_setWind 4 = .ok (.invokestatic 74, 3) := by decide +kernel
theorem dX7_setWind_7 : decode cX7_setWind 7 = .ok (.ifCond .ne 13, 3) := by decide +kernel
theorem dX7_setWind_10 : decode cX7_setWind 10 = .ok (.new 78, 3) := by decide +kernel
theorem dX7_setWind_13 : decode cX7_setWind 13 = .ok (.dup, 1) := by decide +kernel
theorem dX7_setWind_14 : decode cX7_setWind 14 = .ok (.ldc 121, 2) := by decide +kernel
theorem dX7_setWind_16 : decode cX7_setWind 16 = .ok (.invokespecial 82, 3) := by decide +kernel
theorem dX7_setWind_19 : decode cX7_setWind 19 = .ok (.athrow, 1) := by decide +kernel
theorem dX7_setWind_20 : decode cX7_setWind 20 = .ok (.aload_n 0, 1) := by decide +kernel
theorem dX7_setWind_21 : decode cX7_setWind 21 = .ok (.getfield 25, 3) := by decide +kernel
theorem dX7_setWind_24 : decode cX7_setWind 24 = .ok (.aload_n 0, 1) := by decide +kernel
theorem dX7_setWind_25 : decode cX7_setWind 25 = .ok (.getfield 12, 3) := by decide +kernel
theorem dX7_setWind_28 : decode cX7_setWind 28 = .ok (.invokevirtual 91, 3) := by decide +kernel
theorem dX7_setWind_31 : decode cX7_setWind 31 = .ok (.aload_n 0, 1) := by decide +kernel
theorem dX7_setWind_32 : decode cX7_setWind 32 = .ok (.getfield 12, 3) := by decide +kernel
theorem dX7_setWind_35 : decode cX7_setWind 35 = .ok (.iload_n 1, 1) := by decide +kernel
theorem dX7_setWind_36 : decode cX7_setWind 36 = .ok (.putfield 123, 3) := by decide +kernel
theorem dX7_setWind_39 : decode cX7_setWind 39 = .ok (.aload_n 0, 1) := by decide +kernel
theorem dX7_setWind_40 : decode cX7_setWind 40 = .ok (.getfield 12, 3) := by decide +kernel
theorem dX7_setWind_43 : decode cX7_setWind 43 = .ok (.invokevirtual 126, 3) := by decide +kernel
theorem dX7_setWind_46 : decode cX7_setWind 46 = .ok (.ireturn, 1) := by decide +kernel
theorem dX7_lift_0 : decode cX7_lift 0 = .ok (.aload_n 0, 1) := by decide +kernel
theorem dX7_lift_1 : decode cX7_lift 1 = .ok (.getfield 12, 3) := by decide +kernel
theorem dX7_lift_4 : decode cX7_lift 4 = .ok (.iload_n 1, 1) := by decide +kernel
theorem dX7_lift_5 : decode cX7_lift 5 = .ok (.invokevirtual 130, 3) := by decide +kernel
theorem dX7_lift_8 : decode cX7_lift 8 = .ok (.astore_n 3, 1) := by decide +kernel
theorem dX7_lift_9 : decode cX7_lift 9 = .ok (.aload_n 3, 1) := by decide +kernel
theorem dX7_lift_10 : decode cX7_lift 10 = .ok (.ifnonnull 13, 3) := by decide +kernel
theorem dX7_lift_13 : decode cX7_lift 13 = .ok (.new 67, 3) := by decide +kernel
theorem dX7_lift_16 : decode cX7_lift 16 = .ok (.dup, 1) := by decide +kernel
theorem dX7_lift_17 : decode cX7_lift 17 = .ok (.ldc 134, 2) := by decide +kernel
theorem dX7_lift_19 : decode cX7_lift 19 = .ok (.invokespecial 71, 3) := by decide +kernel
theorem dX7_lift_22 : decode cX7_lift 22 = .ok (.athrow, 1) := by decide +kernel
theorem dX7_lift_23 : decode cX7_lift 23 = .ok (.iload_n 2, 1) := by decide +kernel
theorem dX7_lift_24 : decode cX7_lift 24 = .ok (.tableswitch 131 0 10 #[60, 65, 70, 75, 80, 85, 90, 95, 106, 111, 121], 60) := by decide +kernel
theorem dX7_lift_84 : decode cX7_lift 84 = .ok (.aload_n 3, 1) := by decide +kernel
theorem dX7_lift_85 : decode cX7_lift 85 = .ok (.getfield 136, 3) := by decide +kernel
theorem dX7_lift_88 : decode cX7_lift 88 = .ok (.ireturn, 1) := by decide +kernel
theorem dX7_lift_89 : decode cX7_lift 89 = .ok (.aload_n 3, 1) := by decide +kernel
theorem dX7_lift_90 : decode cX7_lift 90 = .ok (.getfield 139, 3) := by decide +kernel
theorem dX7_lift_93 : decode cX7_lift 93 = .ok (.ireturn, 1) := by decide +kernel
theorem dX7_lift_94 : decode cX7_lift 94 = .ok (.aload_n 3, 1) := by decide +kernel
theorem dX7_lift_95 : decode cX7_lift 95 = .ok (.getfield 142, 3) := by decide +kernel
theorem dX7_lift_98 : decode cX7_lift 98 = .ok (.ireturn, 1) := by decide +kernel
theorem dX7_lift_99 : decode cX7_lift 99 = .ok (.aload_n 3, 1) := by decide +kernel
theorem dX7_lift_100 : decode cX7_lift 100 = .ok (.getfield 145, 3) := by decide +kernel
theorem dX7_lift_103 : decode cX7_lift 103 = .ok (.ireturn, 1) := by decide +kernel
theorem dX7_lift_104 : decode cX7_lift 104 = .ok (.aload_n 3, 1) := by decide +kernel
theorem dX7_lift_105 : decode cX7_lift 105 = .ok (.getfield 148, 3) := by decide +kernel
theorem dX7_lift_108 : decode cX7_lift 108 = .ok (.ireturn, 1) := by decide +kernel
theorem dX7_lift_109 : decode cX7_lift 109 = .ok (.aload_n 3, 1) := by decide +kernel
theorem dX7_lift_110 : decode cX7_lift 110 = .ok (.getfield 151, 3) := by decide +kernel
theorem dX7_lift_113 : decode cX7_lift 113 = .ok (.ireturn, 1) := by decide +kernel
theorem dX7_lift_114 : decode cX7_lift 114 = .ok (.aload_n 3, 1) := by decide +kernel
theorem dX7_lift_115 : decode cX7_lift 115 = .ok (.getfield 154, 3) := by decide +kernel
theorem dX7_lift_118 : decode cX7_lift 118 = .ok (.ireturn, 1) := by decide +kernel
theorem dX7_lift_119 : decode cX7_lift 119 = .ok (.iconst 2, 1) := by decide +kernel
theorem dX7_lift_120 : decode cX7_lift 120 = .ok (.aload_n 0, 1) := by decide +kernel
theorem dX7_lift_121 : decode cX7_lift 121 = .ok (.getfield 12, 3) := by decide +kernel
theorem dX7_lift_124 : decode cX7_lift 124 = .ok (.aload_n 3, 1) := by decide +kernel
theorem dX7_lift_125 : decode cX7_lift 125 = .ok (.invokevirtual 157, 3) := by decide +kernel
theorem dX7_lift_128 : decode cX7_lift 128 = .ok (.isub, 1) := by decide +kernel
theorem dX7_lift_129 : decode cX7_lift 129 = .ok (.ireturn, 1) := by decide +kernel
theorem dX7_lift_130 : decode cX7_lift 130 = .ok (.aload_n 3, 1) := by decide +kernel
theorem dX7_lift_131 : decode cX7_lift 131 = .ok (.getfield 161, 3) := by decide +kernel
theorem dX7_lift_134 : decode cX7_lift 134 = .ok (.ireturn, 1) := by decide +kernel
theorem dX7_lift_135 : decode cX7_lift 135 = .ok (.aload_n 0, 1) := by decide +kernel
theorem dX7_lift_136 : decode cX7_lift 136 = .ok (.getfield 12, 3) := by decide +kernel
theorem dX7_lift_139 : decode cX7_lift 139 = .ok (.iconst 1, 1) := by decide +kernel
theorem dX7_lift_140 : decode cX7_lift 140 = .ok (.iload_n 1, 1) := by decide +kernel
theorem dX7_lift_141 : decode cX7_lift 141 = .ok (.invokevirtual 164, 3) := by decide +kernel
theorem dX7_lift_144 : decode cX7_lift 144 = .ok (.ireturn, 1) := by decide +kernel
theorem dX7_lift_145 : decode cX7_lift 145 = .ok (.aload_n 0, 1) := by decide +kernel
theorem dX7_lift_146 : decode cX7_lift 146 = .ok (.getfield 12, 3) := by decide +kernel
theorem dX7_lift_149 : decode cX7_lift 149 = .ok (.iconst 2, 1) := by decide +kernel
theorem dX7_lift_150 : decode cX7_lift 150 = .ok (.iload_n 1, 1) := by decide +kernel
theorem dX7_lift_151 : decode cX7_lift 151 = .ok (.invokevirtual 164, 3) := by decide +kernel
theorem dX7_lift_154 : decode cX7_lift 154 = .ok (.ireturn, 1) := by decide +kernel
theorem dX7_lift_155 : decode cX7_lift 155 = .ok (.new 78, 3) := by decide +kernel
theorem dX7_lift_158 : decode cX7_lift 158 = .ok (.dup, 1) := by decide +kernel
theorem dX7_lift_159 : decode cX7_lift 159 = .ok (.ldc 168, 2) := by decide +kernel
theorem dX7_lift_161 : decode cX7_lift 161 = .ok (.invokespecial 82, 3) := by decide +kernel
theorem dX7_lift_164 : decode cX7_lift 164 = .ok (.athrow, 1) := by decide +kernel
theorem dX7_piste_0 : decode cX7_piste 0 = .ok (.aload_n 0, 1) := by decide +kernel
theorem dX7_piste_1 : decode cX7_piste 1 = .ok (.getfield 12, 3) := by decide +kernel
theorem dX7_piste_4 : decode cX7_piste 4 = .ok (.iload_n 1, 1) := by decide +kernel
theorem dX7_piste_5 : decode cX7_piste 5 = .ok (.invokevirtual 170, 3) := by decide +kernel
theorem dX7_piste_8 : decode cX7_piste 8 = .ok (.astore_n 3, 1) := by decide +kernel
theorem dX7_piste_9 : decode cX7_piste 9 = .ok (.aload_n 3, 1) := by decide +kernel
theorem dX7_piste_10 : decode cX7_piste 10 = .ok (.ifnonnull 13, 3) := by decide +kernel
theorem dX7_piste_13 : decode cX7_piste 13 = .ok (.new 67, 3) := by decide +kernel
theorem dX7_piste_16 : decode cX7_piste 16 = .ok (.dup, 1) := by decide +kernel
theorem dX7_piste_17 : decode cX7_piste 17 = .ok (.ldc 174, 2) := by decide +kernel
theorem dX7_piste_19 : decode cX7_piste 19 = .ok (.invokespecial 71, 3) := by decide +kernel
theorem dX7_piste_22 : decode cX7_piste 22 = .ok (.athrow, 1) := by decide +kernel
theorem dX7_piste_23 : decode cX7_piste 23 = .ok (.iload_n 2, 1) := by decide +kernel
theorem dX7_piste_24 : decode cX7_piste 24 = .ok (.tableswitch 93 0 7 #[48, 53, 58, 63, 68, 73, 78, 83], 48) := by decide +kernel
theorem dX7_piste_72 : decode cX7_piste 72 = .ok (.aload_n 3, 1) := by decide +kernel
theorem dX7_piste_73 : decode cX7_piste 73 = .ok (.getfield 176, 3) := by decide +kernel
theorem dX7_piste_76 : decode cX7_piste 76 = .ok (.ireturn, 1) := by decide +kernel
theorem dX7_piste_77 : decode cX7_piste 77 = .ok (.aload_n 3, 1) := by decide +kernel
theorem dX7_piste_78 : decode cX7_piste 78 = .ok (.getfield 179, 3) := by decide +kernel
theorem dX7_piste_81 : decode cX7_piste 81 = .ok (.ireturn, 1) := by decide +kernel
theorem dX7_piste_82 : decode cX7_piste 82 = .ok (.aload_n 3, 1) := by decide +kernel
theorem dX7_piste_83 : decode cX7_piste 83 = .ok (.getfield 182, 3) := by decide +kernel
theorem dX7_piste_86 : decode cX7_piste 86 = .ok (.ireturn, 1) := by decide +kernel
theorem dX7_piste_87 : decode cX7_piste 87 = .ok (.aload_n 3, 1) := by decide +kernel
theorem dX7_piste_88 : decode cX7_piste 88 = .ok (.getfield 185, 3) := by decide +kernel
theorem dX7_piste_91 : decode cX7_piste 91 = .ok (.ireturn, 1) := by decide +kernel
theorem dX7_piste_92 : decode cX7_piste 92 = .ok (.aload_n 3, 1) := by decide +kernel
theorem dX7_piste_93 : decode cX7_piste 93 = .ok (.getfield 188, 3) := by decide +kernel
theorem dX7_piste_96 : decode cX7_piste 96 = .ok (.ireturn, 1) := by decide +kernel
theorem dX7_piste_97 : decode cX7_piste 97 = .ok (.aload_n 3, 1) := by decide +kernel
theorem dX7_piste_98 : decode cX7_piste 98 = .ok (.getfield 191, 3) := by decide +kernel
theorem dX7_piste_101 : decode cX7_piste 101 = .ok (.ireturn, 1) := by decide +kernel
theorem dX7_piste_102 : decode cX7_piste 102 = .ok (.aload_n 3, 1) := by decide +kernel
theorem dX7_piste_103 : decode cX7_piste 103 = .ok (.getfield 194, 3) := by decide +kernel
theorem dX7_piste_106 : decode cX7_piste 106 = .ok (.ireturn, 1) := by decide +kernel
theorem dX7_piste_107 : decode cX7_piste 107 = .ok (.aload_n 0, 1) := by decide +kernel
theorem dX7_piste_108 : decode cX7_piste 108 = .ok (.getfield 12, 3) := by decide +kernel
theorem dX7_piste_111 : decode cX7_piste 111 = .ok (.iconst 3, 1) := by decide +kernel
theorem dX7_piste_112 : decode cX7_piste 112 = .ok (.iload_n 1, 1) := by decide +kernel
theorem dX7_piste_113 : decode cX7_piste 113 = .ok (.invokevirtual 164, 3) := by decide +kernel
theorem dX7_piste_116 : decode cX7_piste 116 = .ok (.ireturn, 1) := by decide +kernel
theorem dX7_piste_117 : decode cX7_piste 117 = .ok (.new 78, 3) := by decide +kernel
theorem dX7_piste_120 : decode cX7_piste 120 = .ok (.dup, 1) := by decide +kernel
theorem dX7_piste_121 : decode cX7_piste 121 = .ok (.ldc 197, 2) := by decide +kernel
theorem dX7_piste_123 : decode cX7_piste 123 = .ok (.invokespecial 82, 3) := by decide +kernel
theorem dX7_piste_126 : decode cX7_piste 126 = .ok (.athrow, 1) := by decide +kernel
theorem dX7_open_0 : decode cX7_open 0 = .ok (.aload_n 0, 1) := by decide +kernel
theorem dX7_open_1 : decode cX7_open 1 = .ok (.getfield 12, 3) := by decide +kernel
theorem dX7_open_4 : decode cX7_open 4 = .ok (.iload_n 1, 1) := by decide +kernel
theorem dX7_open_5 : decode cX7_open 5 = .ok (.invokevirtual 170, 3) := by decide +kernel
theorem dX7_open_8 : decode cX7_open 8 = .ok (.astore_n 3, 1) := by decide +kernel
theorem dX7_open_9 : decode cX7_open 9 = .ok (.aload_n 3, 1) := by decide +kernel
theorem dX7_open_10 : decode cX7_open 10 = .ok (.ifnonnull 13, 3) := by decide +kernel
theorem dX7_open_13 : decode cX7_open 13 = .ok (.new 67, 3) := by decide +kernel
theorem dX7_open_16 : decode cX7_open 16 = .ok (.dup, 1) := by decide +kernel
theorem dX7_open_17 : decode cX7_open 17 = .ok (.ldc 174, 2) := by decide +kernel
theorem dX7_open_19 : decode cX7_open 19 = .ok (.invokespecial 71, 3) := by decide +kernel
theorem dX7_open_22 : decode cX7_open 22 = .ok (.athrow, 1) := by decide +kernel
theorem dX7_open_23 : decode cX7_open 23 = .ok (.iload_n 2, 1) := by decide +kernel
theorem dX7_open_24 : decode cX7_open 24 = .ok (.ifCond .eq 22, 3) := by decide +kernel
theorem dX7_open_27 : decode cX7_open 27 = .ok (.aload_n 3, 1) := by decide +kernel
theorem dX7_open_28 : decode cX7_open 28 = .ok (.getfield 191, 3) := by decide +kernel
theorem dX7_open_31 : decode cX7_open 31 = .ok (.bipush 20, 2) := by decide +kernel
theorem dX7_open_33 : decode cX7_open 33 = .ok (.if_icmp .lt 13, 3) := by decide +kernel
theorem dX7_open_36 : decode cX7_open 36 = .ok (.new 86, 3) := by decide +kernel
theorem dX7_open_39 : decode cX7_open 39 = .ok (.dup, 1) := by decide +kernel
theorem dX7_open_40 : decode cX7_open 40 = .ok (.ldc 199, 2) := by decide +kernel
theorem dX7_open_42 : decode cX7_open 42 = .ok (.invokespecial 90, 3) := by decide +kernel
theorem dX7_open_45 : decode cX7_open 45 = .ok (.athrow, 1) := by decide +kernel
theorem dX7_open_46 : decode cX7_open 46 = .ok (.aload_n 0, 1) := by decide +kernel
theorem dX7_open_47 : decode cX7_open 47 = .ok (.getfield 25, 3) := by decide +kernel
theorem dX7_open_50 : decode cX7_open 50 = .ok (.aload_n 0, 1) := by decide +kernel
theorem dX7_open_51 : decode cX7_open 51 = .ok (.getfield 12, 3) := by decide +kernel
theorem dX7_open_54 : decode cX7_open 54 = .ok (.invokevirtual 91, 3) := by decide +kernel
theorem dX7_open_57 : decode cX7_open 57 = .ok (.aload_n 3, 1) := by decide +kernel
theorem dX7_open_58 : decode cX7_open 58 = .ok (.getfield 188, 3) := by decide +kernel
theorem dX7_open_61 : decode cX7_open 61 = .ok (.istore 4, 2) := by decide +kernel
theorem dX7_open_63 : decode cX7_open 63 = .ok (.aload_n 3, 1) := by decide +kernel
theorem dX7_open_64 : decode cX7_open 64 = .ok (.iload_n 2, 1) := by decide +kernel
theorem dX7_open_65 : decode cX7_open 65 = .ok (.ifCond .eq 7, 3) := by decide +kernel
theorem dX7_open_68 : decode cX7_open 68 = .ok (.iconst 0, 1) := by decide +kernel
theorem dX7_open_69 : decode cX7_open 69 = .ok (.goto 4, 3) := by decide +kernel
theorem dX7_open_72 : decode cX7_open 72 = .ok (.iconst 1, 1) := by decide +kernel
theorem dX7_open_73 : decode cX7_open 73 = .ok (.putfield 188, 3) := by decide +kernel
theorem dX7_open_76 : decode cX7_open 76 = .ok (.aload_n 3, 1) := by decide +kernel
