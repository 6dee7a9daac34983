theorem dX7_open_77 : decode cX7_open 77 = .ok (.iconst 0, 1) := by decide +kernel
theorem dX7_open_78 : decode cX7_open 78 = .ok (.putfield 194, 3) := by decide +kernel
theorem dX7_open_81 : decode cX7_open 81 = .ok (.iload 4, 2) := by decide +kernel
theorem dX7_open_83 : decode cX7_open 83 = .ok (.ireturn, 1) := by decide +kernel
theorem dX7_groom_0 : decode cX7_groom 0 = .ok (.aload_n 0, 1) := by decide +kernel
theorem dX7_groom_1 : decode cX7_groom 1 = .ok (.getfield 12, 3) := by decide +kernel
theorem dX7_groom_4 : decode cX7_groom 4 = .ok (.iload_n 1, 1) := by decide +kernel
theorem dX7_groom_5 : decode cX7_groom 5 = .ok (.invokevirtual 170, 3) := by decide +kernel
theorem dX7_groom_8 : decode cX7_groom 8 = .ok (.astore_n 2, 1) := by decide +kernel
theorem dX7_groom_9 : decode cX7_groom 9 = .ok (.aload_n 2, 1) := by decide +kernel
theorem dX7_groom_10 : decode cX7_groom 10 = .ok (.ifnonnull 13, 3) := by decide +kernel
theorem dX7_groom_13 : decode cX7_groom 13 = .ok (.new 67, 3) := by decide +kernel
theorem dX7_groom_16 : decode cX7_groom 16 = .ok (.dup, 1) := by decide +kernel
theorem dX7_groom_17 : decode cX7_groom 17 = .ok (.ldc 174, 2) := by decide +kernel
theorem dX7_groom_19 : decode cX7_groom 19 = .ok (.invokespecial 71, 3) := by decide +kernel
theorem dX7_groom_22 : decode cX7_groom 22 = .ok (.athrow, 1) := by decide +kernel
theorem dX7_groom_23 : decode cX7_groom 23 = .ok (.aload_n 2, 1) := by decide +kernel
theorem dX7_groom_24 : decode cX7_groom 24 = .ok (.getfield 188, 3) := by decide +kernel
theorem dX7_groom_27 : decode cX7_groom 27 = .ok (.iconst 1, 1) := by decide +kernel
theorem dX7_groom_28 : decode cX7_groom 28 = .ok (.if_icmp .eq 13, 3) := by decide +kernel
theorem dX7_groom_31 : decode cX7_groom 31 = .ok (.new 86, 3) := by decide +kernel
theorem dX7_groom_34 : decode cX7_groom 34 = .ok (.dup, 1) := by decide +kernel
theorem dX7_groom_35 : decode cX7_groom 35 = .ok (.ldc 201, 2) := by decide +kernel
theorem dX7_groom_37 : decode cX7_groom 37 = .ok (.invokespecial 90, 3) := by decide +kernel
theorem dX7_groom_40 : decode cX7_groom 40 = .ok (.athrow, 1) := by decide +kernel
theorem dX7_groom_41 : decode cX7_groom 41 = .ok (.aload_n 0, 1) := by decide +kernel
theorem dX7_groom_42 : decode cX7_groom 42 = .ok (.getfield 25, 3) := by decide +kernel
theorem dX7_groom_45 : decode cX7_groom 45 = .ok (.aload_n 0, 1) := by decide +kernel
theorem dX7_groom_46 : decode cX7_groom 46 = .ok (.getfield 12, 3) := by decide +kernel
theorem dX7_groom_49 : decode cX7_groom 49 = .ok (.invokevirtual 91, 3) := by decide +kernel
theorem dX7_groom_52 : decode cX7_groom 52 = .ok (.aload_n 2, 1) := by decide +kernel
theorem dX7_groom_53 : decode cX7_groom 53 = .ok (.iconst 2, 1) := by decide +kernel
theorem dX7_groom_54 : decode cX7_groom 54 = .ok (.putfield 188, 3) := by decide +kernel
theorem dX7_groom_57 : decode cX7_groom 57 = .ok (.aload_n 2, 1) := by decide +kernel
theorem dX7_groom_58 : decode cX7_groom 58 = .ok (.iconst 1, 1) := by decide +kernel
theorem dX7_groom_59 : decode cX7_groom 59 = .ok (.aload_n 2, 1) := by decide +kernel
theorem dX7_groom_60 : decode cX7_groom 60 = .ok (.getfield 191, 3) := by decide +kernel
theorem dX7_groom_63 : decode cX7_groom 63 = .ok (.iconst 5, 1) := by decide +kernel
theorem dX7_groom_64 : decode cX7_groom 64 = .ok (.idiv, 1) := by decide +kernel
theorem dX7_groom_65 : decode cX7_groom 65 = .ok (.iadd, 1) := by decide +kernel
theorem dX7_groom_66 : decode cX7_groom 66 = .ok (.putfield 194, 3) := by decide +kernel
theorem dX7_groom_69 : decode cX7_groom 69 = .ok (.aload_n 2, 1) := by decide +kernel
theorem dX7_groom_70 : decode cX7_groom 70 = .ok (.getfield 194, 3) := by decide +kernel
theorem dX7_groom_73 : decode cX7_groom 73 = .ok (.ireturn, 1) := by decide +kernel
theorem dX7_count_0 : decode cX7_count 0 = .ok (.iload_n 1, 1) := by decide +kernel
theorem dX7_count_1 : decode cX7_count 1 = .ok (.tableswitch 164 0 11 #[63, 71, 79, 87, 95, 103, 111, 120, 129, 138, 147, 156], 63) := by decide +kernel
theorem dX7_count_64 : decode cX7_count 64 = .ok (.aload_n 0, 1) := by decide +kernel
theorem dX7_count_65 : decode cX7_count 65 = .ok (.getfield 12, 3) := by decide +kernel
theorem dX7_count_68 : decode cX7_count 68 = .ok (.getfield 83, 3) := by decide +kernel
theorem dX7_count_71 : decode cX7_count 71 = .ok (.ireturn, 1) := by decide +kernel
theorem dX7_count_72 : decode cX7_count 72 = .ok (.aload_n 0, 1) := by decide +kernel
theorem dX7_count_73 : decode cX7_count 73 = .ok (.getfield 12, 3) := by decide +kernel
theorem dX7_count_76 : decode cX7_count 76 = .ok (.getfield 107, 3) := by decide +kernel
theorem dX7_count_79 : decode cX7_count 79 = .ok (.ireturn, 1) := by decide +kernel
theorem dX7_count_80 : decode cX7_count 80 = .ok (.aload_n 0, 1) := by decide +kernel
theorem dX7_count_81 : decode cX7_count 81 = .ok (.getfield 12, 3) := by decide +kernel
theorem dX7_count_84 : decode cX7_count 84 = .ok (.getfield 54, 3) := by decide +kernel
theorem dX7_count_87 : decode cX7_count 87 = .ok (.ireturn, 1) := by decide +kernel
theorem dX7_count_88 : decode cX7_count 88 = .ok (.aload_n 0, 1) := by decide +kernel
theorem dX7_count_89 : decode cX7_count 89 = .ok (.getfield 12, 3) := by decide +kernel
theorem dX7_count_92 : decode cX7_count 92 = .ok (.getfield 123, 3) := by decide +kernel
theorem dX7_count_95 : decode cX7_count 95 = .ok (.ireturn, 1) := by decide +kernel
theorem dX7_count_96 : decode cX7_count 96 = .ok (.aload_n 0, 1) := by decide +kernel
theorem dX7_count_97 : decode cX7_count 97 = .ok (.getfield 12, 3) := by decide +kernel
theorem dX7_count_100 : decode cX7_count 100 = .ok (.getfield 203, 3) := by decide +kernel
theorem dX7_count_103 : decode cX7_count 103 = .ok (.ireturn, 1) := by decide +kernel
theorem dX7_count_104 : decode cX7_count 104 = .ok (.aload_n 0, 1) := by decide +kernel
theorem dX7_count_105 : decode cX7_count 105 = .ok (.getfield 12, 3) := by decide +kernel
theorem dX7_count_108 : decode cX7_count 108 = .ok (.getfield 206, 3) := by decide +kernel
theorem dX7_count_111 : decode cX7_count 111 = .ok (.ireturn, 1) := by decide +kernel
theorem dX7_count_112 : decode cX7_count 112 = .ok (.aload_n 0, 1) := by decide +kernel
theorem dX7_count_113 : decode cX7_count 113 = .ok (.getfield 12, 3) := by decide +kernel
theorem dX7_count_116 : decode cX7_count 116 = .ok (.iconst 0, 1) := by decide +kernel
theorem dX7_count_117 : decode cX7_count 117 = .ok (.invokevirtual 209, 3) := by decide +kernel
theorem dX7_count_120 : decode cX7_count 120 = .ok (.ireturn, 1) := by decide +kernel
theorem dX7_count_121 : decode cX7_count 121 = .ok (.aload_n 0, 1) := by decide +kernel
theorem dX7_count_122 : decode cX7_count 122 = .ok (.getfield 12, 3) := by decide +kernel
theorem dX7_count_125 : decode cX7_count 125 = .ok (.iconst 1, 1) := by decide +kernel
theorem dX7_count_126 : decode cX7_count 126 = .ok (.invokevirtual 209, 3) := by decide +kernel
theorem dX7_count_129 : decode cX7_count 129 = .ok (.ireturn, 1) := by decide +kernel
theorem dX7_count_130 : decode cX7_count 130 = .ok (.aload_n 0, 1) := by decide +kernel
theorem dX7_count_131 : decode cX7_count 131 = .ok (.getfield 12, 3) := by decide +kernel
theorem dX7_count_134 : decode cX7_count 134 = .ok (.iconst 2, 1) := by decide +kernel
theorem dX7_count_135 : decode cX7_count 135 = .ok (.invokevirtual 209, 3) := by decide +kernel
theorem dX7_count_138 : decode cX7_count 138 = .ok (.ireturn, 1) := by decide +kernel
theorem dX7_count_139 : decode cX7_count 139 = .ok (.aload_n 0, 1) := by decide +kernel
theorem dX7_count_140 : decode cX7_count 140 = .ok (.getfield 12, 3) := by decide +kernel
theorem dX7_count_143 : decode cX7_count 143 = .ok (.iconst 3, 1) := by decide +kernel
theorem dX7_count_144 : decode cX7_count 144 = .ok (.invokevirtual 209, 3) := by decide +kernel
theorem dX7_count_147 : decode cX7_count 147 = .ok (.ireturn, 1) := by decide +kernel
theorem dX7_count_148 : decode cX7_count 148 = .ok (.aload_n 0, 1) := by decide +kernel
theorem dX7_count_149 : decode cX7_count 149 = .ok (.getfield 12, 3) := by decide +kernel
theorem dX7_count_152 : decode cX7_count 152 = .ok (.iconst 4, 1) := by decide +kernel
theorem dX7_count_153 : decode cX7_count 153 = .ok (.invokevirtual 209, 3) := by decide +kernel
theorem dX7_count_156 : decode cX7_count 156 = .ok (.ireturn, 1) := by decide +kernel
theorem dX7_count_157 : decode cX7_count 157 = .ok (.aload_n 0, 1) := by decide +kernel
theorem dX7_count_158 : decode cX7_count 158 = .ok (.getfield 12, 3) := by decide +kernel
theorem dX7_count_161 : decode cX7_count 161 = .ok (.invokevirtual 213, 3) := by decide +kernel
theorem dX7_count_164 : decode cX7_count 164 = .ok (.ireturn, 1) := by decide +kernel
theorem dX7_count_165 : decode cX7_count 165 = .ok (.new 78, 3) := by decide +kernel
theorem dX7_count_168 : decode cX7_count 168 = .ok (.dup, 1) := by decide +kernel
theorem dX7_count_169 : decode cX7_count 169 = .ok (.ldc 216, 2) := by decide +kernel
theorem dX7_count_171 : decode cX7_count 171 = .ok (.invokespecial 82, 3) := by decide +kernel
theorem dX7_count_174 : decode cX7_count 174 = .ok (.athrow, 1) := by decide +kernel
theorem dX7_addGuest_0 : decode cX7_addGuest 0 = .ok (.iload_n 1, 1) := by decide +kernel
theorem dX7_addGuest_1 : decode cX7_addGuest 1 = .ok (.invokestatic 63, 3) := by decide +kernel
theorem dX7_addGuest_4 : decode cX7_addGuest 4 = .ok (.ifCond .ne 13, 3) := by decide +kernel
theorem dX7_addGuest_7 : decode cX7_addGuest 7 = .ok (.new 67, 3) := by decide +kernel
theorem dX7_addGuest_10 : decode cX7_addGuest 10 = .ok (.dup, 1) := by decide +kernel
theorem dX7_addGuest_11 : decode cX7_addGuest 11 = .ok (.ldc 69, 2) := by decide +kernel
theorem dX7_addGuest_13 : decode cX7_addGuest 13 = .ok (.invokespecial 71, 3) := by decide +kernel
theorem dX7_addGuest_16 : decode cX7_addGuest 16 = .ok (.athrow, 1) := by decide +kernel
theorem dX7_addGuest_17 : decode cX7_addGuest 17 = .ok (.iload_n 2, 1) := by decide +kernel
theorem dX7_addGuest_18 : decode cX7_addGuest 18 = .ok (.iconst 1, 1) := by decide +kernel
theorem dX7_addGuest_19 : decode cX7_addGuest 19 = .ok (.iconst 3, 1) := by decide +kernel
theorem dX7_addGuest_20 : decode cX7_addGuest 20 = .ok (.invokestatic 74, 3) := by decide +kernel
theorem dX7_addGuest_23 : decode cX7_addGuest 23 = .ok (.ifCond .eq 37, 3) := by decide +kernel
theorem dX7_addGuest_26 : decode cX7_addGuest 26 = .ok (.iload_n 3, 1) := by decide +kernel
theorem dX7_addGuest_27 : decode cX7_addGuest 27 = .ok (.iconst 0, 1) := by decide +kernel
theorem dX7_addGuest_28 : decode cX7_addGuest 28 = .ok (.bipush 15, 2) := by decide +kernel
theorem dX7_addGuest_30 : decode cX7_addGuest 30 = .ok (.invokestatic 74, 3) := by decide +kernel
theorem dX7_addGuest_33 : decode cX7_addGuest 33 = .ok (.ifCond .eq 27, 3) := by decide +kernel
theorem dX7_addGuest_36 : decode cX7_addGuest 36 = .ok (.iload 4, 2) := by decide +kernel
theorem dX7_addGuest_38 : decode cX7_addGuest 38 = .ok (.iconst 0, 1) := by decide +kernel
theorem dX7_addGuest_39 : decode cX7_addGuest 39 = .ok (.sipush 1000, 3) := by decide +kernel
theorem dX7_addGuest_42 : decode cX7_addGuest 42 = .ok (.invokestatic 74, 3) := by decide +kernel
theorem dX7_addGuest_45 : decode cX7_addGuest 45 = .ok (.ifCond .eq 15, 3) := by decide +kernel
theorem dX7_addGuest_48 : decode cX7_addGuest 48 = .ok (.iload 5, 2) := by decide +kernel
theorem dX7_addGuest_50 : decode cX7_addGuest 50 = .ok (.iconst 0, 1) := by decide +kernel
theorem dX7_addGuest_51 : decode cX7_addGuest 51 = .ok (.sipush 1000, 3) := by decide +kernel
theorem dX7_addGuest_54 : decode cX7_addGuest 54 = .ok (.invokestatic 74, 3) := by decide +kernel
theorem dX7_addGuest_57 : decode cX7_addGuest 57 = .ok (.ifCond .ne 13, 3) := by decide +kernel
theorem dX7_addGuest_60 : decode cX7_addGuest 60 = .ok (.new 78, 3) := by decide +kernel
theorem dX7_addGuest_63 : decode cX7_addGuest 63 = .ok (.dup, 1) := by decide +kernel
theorem dX7_addGuest_64 : decode cX7_addGuest 64 = .ok (.ldc 218, 2) := by decide +kernel
theorem dX7_addGuest_66 : decode cX7_addGuest 66 = .ok (.invokespecial 82, 3) := by decide +kernel
theorem dX7_addGuest_69 : decode cX7_addGuest 69 = .ok (.athrow, 1) := by decide +kernel
theorem dX7_addGuest_70 : decode cX7_addGuest 70 = .ok (.aload_n 0, 1) := by decide +kernel
theorem dX7_addGuest_71 : decode cX7_addGuest 71 = .ok (.getfield 12, 3) := by decide +kernel
theorem dX7_addGuest_74 : decode cX7_addGuest 74 = .ok (.getfield 54, 3) := by decide +kernel
theorem dX7_addGuest_77 : decode cX7_addGuest 77 = .ok (.bipush 16, 2) := by decide +kernel
theorem dX7_addGuest_79 : decode cX7_addGuest 79 = .ok (.if_icmp .lt 13, 3) := by decide +kernel
theorem dX7_addGuest_82 : decode cX7_addGuest 82 = .ok (.new 86, 3) := by decide +kernel
theorem dX7_addGuest_85 : decode cX7_addGuest 85 = .ok (.dup, 1) := by decide +kernel
theorem dX7_addGuest_86 : decode cX7_addGuest 86 = .ok (.ldc 220, 2) := by decide +kernel
theorem dX7_addGuest_88 : decode cX7_addGuest 88 = .ok (.invokespecial 90, 3) := by decide +kernel
theorem dX7_addGuest_91 : decode cX7_addGuest 91 = .ok (.athrow, 1) := by decide +kernel
theorem dX7_addGuest_92 : decode cX7_addGuest 92 = .ok (.aload_n 0, 1) := by decide +kernel
theorem dX7_addGuest_93 : decode cX7_addGuest 93 = .ok (.getfield 25, 3) := by decide +kernel
theorem dX7_addGuest_96 : decode cX7_addGuest 96 = .ok (.aload_n 0, 1) := by decide +kernel
theorem dX7_addGuest_97 : decode cX7_addGuest 97 = .ok (.getfield 12, 3) := by decide +kernel
theorem dX7_addGuest_100 : decode cX7_addGuest 100 = .ok (.invokevirtual 91, 3) := by decide +kernel
theorem dX7_addGuest_103 : decode cX7_addGuest 103 = .ok (.aload_n 0, 1) := by decide +kernel
theorem dX7_addGuest_104 : decode cX7_addGuest 104 = .ok (.getfield 12, 3) := by decide +kernel
theorem dX7_addGuest_107 : decode cX7_addGuest 107 = .ok (.iload_n 1, 1) := by decide +kernel
theorem dX7_addGuest_108 : decode cX7_addGuest 108 = .ok (.iload_n 2, 1) := by decide +kernel
theorem dX7_addGuest_109 : decode cX7_addGuest 109 = .ok (.iload_n 3, 1) := by decide +kernel
theorem dX7_addGuest_110 : decode cX7_addGuest 110 = .ok (.iload 4, 2) := by decide +kernel
theorem dX7_addGuest_112 : decode cX7_addGuest 112 = .ok (.iload 5, 2) := by decide +kernel
theorem dX7_addGuest_114 : decode cX7_addGuest 114 = .ok (.invokevirtual 222, 3) := by decide +kernel
theorem dX7_addGuest_117 : decode cX7_addGuest 117 = .ok (.ireturn, 1) := by decide +kernel
theorem dX7_guest_0 : decode cX7_guest 0 = .ok (.aload_n 0, 1) := by decide +kernel
theorem dX7_guest_1 : decode cX7_guest 1 = .ok (.getfield 12, 3) := by decide +kernel
theorem dX7_guest_4 : decode cX7_guest 4 = .ok (.iload_n 1, 1) := by decide +kernel
theorem dX7_guest_5 : decode cX7_guest 5 = .ok (.invokevirtual 226, 3) := by decide +kernel
theorem dX7_guest_8 : decode cX7_guest 8 = .ok (.astore_n 3, 1) := by decide +kernel
theorem dX7_guest_9 : decode cX7_guest 9 = .ok (.aload_n 3, 1) := by decide +kernel
theorem dX7_guest_10 : decode cX7_guest 10 = .ok (.ifnonnull 13, 3) := by decide +kernel
theorem dX7_guest_13 : decode cX7_guest 13 = .ok (.new 67, 3) := by decide +kernel
theorem dX7_guest_16 : decode cX7_guest 16 = .ok (.dup, 1) := by decide +kernel
theorem dX7_guest_17 : decode cX7_guest 17 = .ok (.ldc 230, 2) := by decide +kernel
theorem dX7_guest_19 : decode cX7_guest 19 = .ok (.invokespecial 71, 3) := by decide +kernel
theorem dX7_guest_22 : decode cX7_guest 22 = .ok (.athrow, 1) := by decide +kernel
theorem dX7_guest_23 : decode cX7_guest 23 = .ok (.iload_n 2, 1) := by decide +kernel
theorem dX7_guest_24 : decode cX7_guest 24 = .ok (.tableswitch 94 0 6 #[44, 49, 54, 74, 79, 84, 89], 44) := by decide +kernel
theorem dX7_guest_68 : decode cX7_guest 68 = .ok (.aload_n 3, 1) := by decide +kernel
theorem dX7_guest_69 : decode cX7_guest 69 = .ok (.getfield 232, 3) := by decide +kernel
theorem dX7_guest_72 : decode cX7_guest 72 = .ok (.ireturn, 1) := by decide +kernel
theorem dX7_guest_73 : decode cX7_guest 73 = .ok (.aload_n 3, 1) := by decide +kernel
theorem dX7_guest_74 : decode cX7_guest 74 = .ok (.getfield 235, 3) := by decide +kernel
theorem dX7_guest_77 : decode cX7_guest 77 = .ok (.ireturn, 1) := by decide +kernel
theorem dX7_guest_78 : decode cX7_guest 78 = .ok (.aload_n 3, 1) := by decide +kernel
theorem dX7_guest_79 : decode cX7_guest 79 = .ok (.getfield 232, 3) := by decide +kernel
theorem dX7_guest_82 : decode cX7_guest 82 = .ok (.iconst 1, 1) := by decide +kernel
theorem dX7_guest_83 : decode cX7_guest 83 = .ok (.if_icmp .ne 10, 3) := by decide +kernel
theorem dX7_guest_86 : decode cX7_guest 86 = .ok (.aload_n 3, 1) := by decide +kernel
theorem dX7_guest_87 : decode cX7_guest 87 = .ok (.getfield 238, 3) := by decide +kernel
theorem dX7_guest_90 : decode cX7_guest 90 = .ok (.goto 7, 3) := by decide +kernel
theorem dX7_guest_93 : decode cX7_guest 93 = .ok (.aload_n 3, 1) := by decide +kernel
theorem dX7_guest_94 : decode cX7_guest 94 = .ok (.getfield 241, 3) := by decide +kernel
theorem dX7_guest_97 : decode cX7_guest 97 = .ok (.ireturn, 1) := by decide +kernel
theorem dX7_guest_98 : decode cX7_guest 98 = .ok (.aload_n 3, 1) := by decide +kernel
theorem dX7_guest_99 : decode cX7_guest 99 = .ok (.getfield 242, 3) := by decide +kernel
theorem dX7_guest_102 : decode cX7_guest 102 = .ok (.ireturn, 1) := by decide +kernel
theorem dX7_guest_103 : decode cX7_guest 103 = .ok (.aload_n 3, 1) := by decide +kernel
theorem dX7_guest_104 : decode cX7_guest 104 = .ok (.getfield 245, 3) := by decide +kernel
theorem dX7_guest_107 : decode cX7_guest 107 = .ok (.ireturn, 1) := by decide +kernel
theorem dX7_guest_108 : decode cX7_guest 108 = .ok (.aload_n 3, 1) := by decide +kernel
theorem dX7_guest_109 : decode cX7_guest 109 = .ok (.getfield 248, 3) := by decide +kernel
theorem dX7_guest_112 : decode cX7_guest 112 = .ok (.ireturn, 1) := by decide +kernel
theorem dX7_guest_113 : decode cX7_guest 113 = .ok (.aload_n 3, 1) := by decide +kernel
theorem dX7_guest_114 : decode cX7_guest 114 = .ok (.getfield 251, 3) := by decide +kernel
theorem dX7_guest_117 : decode cX7_guest 117 = .ok (.ireturn, 1) := by decide +kernel
theorem dX7_guest_118 : decode cX7_guest 118 = .ok (.new 78, 3) := by decide +kernel
theorem dX7_guest_121 : decode cX7_guest 121 = .ok (.dup, 1) := by decide +kernel
theorem dX7_guest_122 : decode cX7_guest 122 = .ok (.ldc 254, 2) := by decide +kernel
theorem dX7_guest_124 : decode cX7_guest 124 = .ok (.invokespecial 82, 3) := by decide +kernel
theorem dX7_guest_127 : decode cX7_guest 127 = .ok (.athrow, 1) := by decide +kernel
theorem dX7_queue_0 : decode cX7_queue 0 = .ok (.aload_n 0, 1) := by decide +kernel
theorem dX7_queue_1 : decode cX7_queue 1 = .ok (.getfield 12, 3) := by decide +kernel
theorem dX7_queue_4 : decode cX7_queue 4 = .ok (.iload_n 1, 1) := by decide +kernel
theorem dX7_queue_5 : decode cX7_queue 5 = .ok (.invokevirtual 226, 3) := by decide +kernel
theorem dX7_queue_8 : decode cX7_queue 8 = .ok (.astore_n 3, 1) := by decide +kernel
theorem dX7_queue_9 : decode cX7_queue 9 = .ok (.aload_n 0, 1) := by decide +kernel
theorem dX7_queue_10 : decode cX7_queue 10 = .ok (.getfield 12, 3) := by decide +kernel
theorem dX7_queue_13 : decode cX7_queue 13 = .ok (.iload_n 2, 1) := by decide +kernel
theorem dX7_queue_14 : decode cX7_queue 14 = .ok (.invokevirtual 130, 3) := by decide +kernel
theorem dX7_queue_17 : decode cX7_queue 17 = .ok (.astore 4, 2) := by decide +kernel
theorem dX7_queue_19 : decode cX7_queue 19 = .ok (.aload_n 3, 1) := by decide +kernel
theorem dX7_queue_20 : decode cX7_queue 20 = .ok (.ifnull 8, 3) := by decide +kernel
theorem dX7_queue_23 : decode cX7_queue 23 = .ok (.aload 4, 2) := by decide +kernel
theorem dX7_queue_25 : decode cX7_queue 25 = .ok (.ifnonnull 14, 3) := by decide +kernel
theorem dX7_queue_28 : decode cX7_queue 28 = .ok (.new 67, 3) := by decide +kernel
theorem dX7_queue_31 : decode cX7_queue 31 = .ok (.dup, 1) := by decide +kernel
theorem dX7_queue_32 : decode cX7_queue 32 = .ok (.ldc_w 256, 3) := by decide +kernel
theorem dX7_queue_35 : decode cX7_queue 35 = .ok (.invokespecial 71, 3) := by decide +kernel
theorem dX7_queue_38 : decode cX7_queue 38 = .ok (.athrow, 1) := by decide +kernel
theorem dX7_queue_39 : decode cX7_queue 39 = .ok (.aload_n 0, 1) := by decide +kernel
theorem dX7_queue_40 : decode cX7_queue 40 = .ok (.getfield 12, 3) := by decide +kernel
theorem dX7_queue_43 : decode cX7_queue 43 = .ok (.aload_n 3, 1) := by decide +kernel
theorem dX7_queue_44 : decode cX7_queue 44 = .ok (.aload 4, 2) := by decide +kernel
theorem dX7_queue_46 : decode cX7_queue 46 = .ok (.iload_n 2, 1) := by decide +kernel
theorem dX7_queue_47 : decode cX7_queue 47 = .ok (.invokevirtual 258, 3) := by decide +kernel
theorem dX7_queue_50 : decode cX7_queue 50 = .ok (.istore 5, 2) := by decide +kernel
theorem dX7_queue_52 : decode cX7_queue 52 = .ok (.iload 5, 2) := by decide +kernel
theorem dX7_queue_54 : decode cX7_queue 54 = .ok (.ifCond .eq 21, 3) := by decide +kernel
theorem dX7_queue_57 : decode cX7_queue 57 = .ok (.aload_n 0, 1) := by decide +kernel
theorem dX7_queue_58 : decode cX7_queue 58 = .ok (.aload_n 3, 1) := by decide +kernel
theorem dX7_queue_59 : decode cX7_queue 59 = .ok (.iload 5, 2) := by decide +kernel
theorem dX7_queue_61 : decode cX7_queue 61 = .ok (.invokevirtual 262, 3) := by decide +kernel
theorem dX7_queue_64 : decode cX7_queue 64 = .ok (.new 266, 3) := by decide +kernel
theorem dX7_queue_67 : decode cX7_queue 67 = .ok (.dup, 1) := by decide +kernel
theorem dX7_queue_68 : decode cX7_queue 68 = .ok (.ldc_w 268, 3) := by decide +kernel
theorem dX7_queue_71 : decode cX7_queue 71 = .ok (.invokespecial 270, 3) := by decide +kernel
theorem dX7_queue_74 : decode cX7_queue 74 = .ok (.athrow, 1) := by decide +kernel
theorem dX7_queue_75 : decode cX7_queue 75 = .ok (.aload_n 0, 1) := by decide +kernel
theorem dX7_queue_76 : decode cX7_queue 76 = .ok (.getfield 25, 3) := by decide +kernel
theorem dX7_queue_79 : decode cX7_queue 79 = .ok (.aload_n 0, 1) := by decide +kernel
theorem dX7_queue_80 : decode cX7_queue 80 = .ok (.getfield 12, 3) := by decide +kernel
theorem dX7_queue_83 : decode cX7_queue 83 = .ok (.invokevirtual 91, 3) := by decide +kernel
theorem dX7_queue_86 : decode cX7_queue 86 = .ok (.aload_n 0, 1) := by decide +kernel
theorem dX7_queue_87 : decode cX7_queue 87 = .ok (.getfield 12, 3) := by decide +kernel
theorem dX7_queue_90 : decode cX7_queue 90 = .ok (.aload_n 3, 1) := by decide +kernel
theorem dX7_queue_91 : decode cX7_queue 91 = .ok (.iload_n 2, 1) := by decide +kernel
theorem dX7_queue_92 : decode cX7_queue 92 = .ok (.invokevirtual 271, 3) := by decide +kernel
theorem dX7_queue_95 : decode cX7_queue 95 = .ok (.ireturn, 1) := by decide +kernel
theorem dX7_ski_0 : decode cX7_ski 0 = .ok (.aload_n 0, 1) := by decide +kernel
theorem dX7_ski_1 : decode cX7_ski 1 = .ok (.getfield 12, 3) := by decide +kernel
theorem dX7_ski_4 : decode cX7_ski 4 = .ok (.iload_n 1, 1) := by decide +kernel
theorem dX7_ski_5 : decode cX7_ski 5 = .ok (.invokevirtual 226, 3) := by decide +kernel
theorem dX7_ski_8 : decode cX7_ski 8 = .ok (.astore_n 3, 1) := by decide +kernel
theorem dX7_ski_9 : decode cX7_ski 9 = .ok (.aload_n 0, 1) := by decide +kernel
theorem dX7_ski_10 : decode cX7_ski 10 = .ok (.getfield 12, 3) := by decide +kernel
theorem dX7_ski_13 : decode cX7_ski 13 = .ok (.iload_n 2, 1) := by decide +kernel
theorem dX7_ski_14 : decode cX7_ski 14 = .ok (.invokevirtual 170, 3) := by decide +kernel
theorem dX7_ski_17 : decode cX7_ski 17 = .ok (.astore 4, 2) := by decide +kernel
theorem dX7_ski_19 : decode cX7_ski 19 = .ok (.aload_n 3, 1) := by decide +kernel
theorem dX7_ski_20 : decode cX7_ski 20 = .ok (.ifnull 8, 3) := by decide +kernel
theorem dX7_ski_23 : decode cX7_ski 23 = .ok (.aload 4, 2) := by decide +kernel
theorem dX7_ski_25 : decode cX7_ski 25 = .ok (.ifnonnull 14, 3) := by decide +kernel
theorem dX7_ski_28 : decode cX7_ski 28 = .ok (.new 67, 3) := by decide +kernel
theorem dX7_ski_31 : decode cX7_ski 31 = .ok (.dup, 1) := by decide +kernel
theorem dX7_ski_32 : decode cX7_ski 32 = .ok (.ldc_w 275, 3) := by decide +kernel
theorem dX7_ski_35 : decode cX7_ski 35 = .ok (.invokespecial 71, 3) := by decide +kernel
theorem dX7_ski_38 : decode cX7_ski 38 = .ok (.athrow, 1) := by decide +kernel
theorem dX7_ski_39 : decode cX7_ski 39 = .ok (.aload_n 0, 1) := by decide +kernel
theorem dX7_ski_40 : decode cX7_ski 40 = .ok (.getfield 12, 3) := by decide +kernel
theorem dX7_ski_43 : decode cX7_ski 43 = .ok (.aload_n 3, 1) := by decide +kernel
theorem dX7_ski_44 : decode cX7_ski 44 = .ok (.aload 4, 2) := by decide +kernel
theorem dX7_ski_46 : decode cX7_ski 46 = .ok (.invokevirtual 277, 3) := by decide +kernel
theorem dX7_ski_49 : decode cX7_ski 49 = .ok (.istore 5, 2) := by decide +kernel
theorem dX7_ski_51 : decode cX7_ski 51 = .ok (.iload 5, 2) := by decide +kernel
theorem dX7_ski_53 : decode cX7_ski 53 = .ok (.ifCond .eq 21, 3) := by decide +kernel
theorem dX7_ski_56 : decode cX7_ski 56 = .ok (.aload_n 0, 1) := by decide +kernel
theorem dX7_ski_57 : decode cX7_ski 57 = .ok (.aload_n 3, 1) := by decide +kernel
theorem dX7_ski_58 : decode cX7_ski 58 = .ok (.iload 5, 2) := by decide +kernel
theorem dX7_ski_60 : decode cX7_ski 60 = .ok (.invokevirtual 262, 3) := by decide +kernel
theorem dX7_ski_63 : decode cX7_ski 63 = .ok (.new 266, 3) := by decide +kernel
theorem dX7_ski_66 : decode cX7_ski 66 = .ok (.dup, 1) := by decide +kernel
theorem dX7_ski_67 : decode cX7_ski 67 = .ok (.ldc_w 268, 3) := by decide +kernel
theorem dX7_ski_70 : decode cX7_ski 70 = .ok (.invokespecial 270, 3) := by decide +kernel
theorem dX7_ski_73 : decode cX7_ski 73 = .ok (.athrow, 1) := by decide +kernel
theorem dX7_ski_74 : decode cX7_ski 74 = .ok (.aload_n 0, 1) := by decide +kernel
theorem dX7_ski_75 : decode cX7_ski 75 = .ok (.getfield 25, 3) := by decide +kernel
theorem dX7_ski_78 : decode cX7_ski 78 = .ok (.aload_n 0, 1) := by decide +kernel
theorem dX7_ski_79 : decode cX7_ski 79 = .ok (.getfield 12, 3) := by decide +kernel
theorem dX7_ski_82 : decode cX7_ski 82 = .ok (.invokevirtual 91, 3) := by decide +kernel
theorem dX7_ski_85 : decode cX7_ski 85 = .ok (.aload_n 0, 1) := by decide +kernel
theorem dX7_ski_86 : decode cX7_ski 86 = .ok (.getfield 12, 3) := by decide +kernel
theorem dX7_ski_89 : decode cX7_ski 89 = .ok (.aload_n 3, 1) := by decide +kernel
theorem dX7_ski_90 : decode cX7_ski 90 = .ok (.aload 4, 2) := by decide +kernel
theorem dX7_ski_92 : decode cX7_ski 92 = .ok (.iload_n 2, 1) := by decide +kernel
theorem dX7_ski_93 : decode cX7_ski 93 = .ok (.invokevirtual 281, 3) := by decide +kernel
theorem dX7_ski_96 : decode cX7_ski 96 = .ok (.ireturn, 1) := by decide +kernel
theorem dX7_leave_0 : decode cX7_leave 0 = .ok (.aload_n 0, 1) := by decide +kernel
theorem dX7_leave_1 : decode cX7_leave 1 = .ok (.getfield 12, 3) := by decide +kernel
theorem dX7_leave_4 : decode cX7_leave 4 = .ok (.iload_n 1, 1) := by decide +kernel
theorem dX7_leave_5 : decode cX7_leave 5 = .ok (.invokevirtual 226, 3) := by decide +kernel
theorem dX7_leave_8 : decode cX7_leave 8 = .ok (.astore_n 2, 1) := by decide +kernel
theorem dX7_leave_9 : decode cX7_leave 9 = .ok (.aload_n 2, 1) := by decide +kernel
theorem dX7_leave_10 : decode cX7_leave 10 = .ok (.ifnonnull 13, 3) := by decide +kernel
theorem dX7_leave_13 : decode cX7_leave 13 = .ok (.new 67, 3) := by decide +kernel
theorem dX7_leave_16 : decode cX7_leave 16 = .ok (.dup, 1) := by decide +kernel
theorem dX7_leave_17 : decode cX7_leave 17 = .ok (.ldc 230, 2) := by decide +kernel
theorem dX7_leave_19 : decode cX7_leave 19 = .ok (.invokespecial 71, 3) := by decide +kernel
theorem dX7_leave_22 : decode cX7_leave 22 = .ok (.athrow, 1) := by decide +kernel
theorem dX7_leave_23 : decode cX7_leave 23 = .ok (.aload_n 2, 1) := by decide +kernel
theorem dX7_leave_24 : decode cX7_leave 24 = .ok (.getfield 232, 3) := by decide +kernel
theorem dX7_leave_27 : decode cX7_leave 27 = .ok (.ifCond .eq 22, 3) := by decide +kernel
theorem dX7_leave_30 : decode cX7_leave 30 = .ok (.aload_n 2, 1) := by decide +kernel
theorem dX7_leave_31 : decode cX7_leave 31 = .ok (.getfield 232, 3) := by decide +kernel
theorem dX7_leave_34 : decode cX7_leave 34 = .ok (.iconst 1, 1) := by decide +kernel
theorem dX7_leave_35 : decode cX7_leave 35 = .ok (.if_icmp .eq 14, 3) := by decide +kernel
theorem dX7_leave_38 : decode cX7_leave 38 = .ok (.new 86, 3) := by decide +kernel
theorem dX7_leave_41 : decode cX7_leave 41 = .ok (.dup, 1) := by decide +kernel
theorem dX7_leave_42 : decode cX7_leave 42 = .ok (.ldc_w 285, 3) := by decide +kernel
theorem dX7_leave_45 : decode cX7_leave 45 = .ok (.invokespecial 90, 3) := by decide +kernel
theorem dX7_leave_48 : decode cX7_leave 48 = .ok (.athrow, 1) := by decide +kernel
theorem dX7_leave_49 : decode cX7_leave 49 = .ok (.aload_n 0, 1) := by decide +kernel
theorem dX7_leave_50 : decode cX7_leave 50 = .ok (.getfield 25, 3) := by decide +kernel
theorem dX7_leave_53 : decode cX7_leave 53 = .ok (.aload_n 0, 1) := by decide +kernel
theorem dX7_leave_54 : decode cX7_leave 54 = .ok (.getfield 12, 3) := by decide +kernel
theorem dX7_leave_57 : decode cX7_leave 57 = .ok (.invokevirtual 91, 3) := by decide +kernel
theorem dX7_leave_60 : decode cX7_leave 60 = .ok (.aload_n 2, 1) := by decide +kernel
theorem dX7_leave_61 : decode cX7_leave 61 = .ok (.getfield 232, 3) := by decide +kernel
theorem dX7_leave_64 : decode cX7_leave 64 = .ok (.ifCond .ne 10, 3) := by decide +kernel
theorem dX7_leave_67 : decode cX7_leave 67 = .ok (.aload_n 2, 1) := by decide +kernel
theorem dX7_leave_68 : decode cX7_leave 68 = .ok (.invokevirtual 287, 3) := by decide +kernel
theorem dX7_leave_71 : decode cX7_leave 71 = .ok (.goto 11, 3) := by decide +kernel
theorem dX7_leave_74 : decode cX7_leave 74 = .ok (.aload_n 0, 1) := by decide +kernel
theorem dX7_leave_75 : decode cX7_leave 75 = .ok (.getfield 12, 3) := by decide +kernel
theorem dX7_leave_78 : decode cX7_leave 78 = .ok (.aload_n 2, 1) := by decide +kernel
theorem dX7_leave_79 : decode cX7_leave 79 = .ok (.invokevirtual 290, 3) := by decide +kernel
theorem dX7_leave_82 : decode cX7_leave 82 = .ok (.aload_n 2, 1) := by decide +kernel
theorem dX7_leave_83 : decode cX7_leave 83 = .ok (.getfield 232, 3) := by decide +kernel
theorem dX7_leave_86 : decode cX7_leave 86 = .ok (.ireturn, 1) := by decide +kernel
theorem dX7_whyNotQueue_0 : decode cX7_whyNotQueue 0 = .ok (.aload_n 0, 1) := by decide +kernel
theorem dX7_whyNotQueue_1 : decode cX7_whyNotQueue 1 = .ok (.getfield 12, 3) := by decide +kernel
theorem dX7_whyNotQueue_4 : decode cX7_whyNotQueue 4 = .ok (.iload_n 1, 1) := by decide +kernel
theorem dX7_whyNotQueue_5 : decode cX7_whyNotQueue 5 = .ok (.invokevirtual 226, 3) := by decide +kernel
theorem dX7_whyNotQueue_8 : decode cX7_whyNotQueue 8 = .ok (.astore_n 3, 1) := by decide +kernel
theorem dX7_whyNotQueue_9 : decode cX7_whyNotQueue 9 = .ok (.aload_n 0, 1) := by decide +kernel
theorem dX7_whyNotQueue_10 : decode cX7_whyNotQueue 10 = .ok (.getfield 12, 3) := by decide +kernel
theorem dX7_whyNotQueue_13 : decode cX7_whyNotQueue 13 = .ok (.iload_n 2, 1) := by decide +kernel
theorem dX7_whyNotQueue_14 : decode cX7_whyNotQueue 14 = .ok (.invokevirtual 130, 3) := by decide +kernel
theorem dX7_whyNotQueue_17 : decode cX7_whyNotQueue 17 = .ok (.astore 4, 2) := by decide +kernel
theorem dX7_whyNotQueue_19 : decode cX7_whyNotQueue 19 = .ok (.aload_n 3, 1) := by decide +kernel
theorem dX7_whyNotQueue_20 : decode cX7_whyNotQueue 20 = .ok (.ifnull 8, 3) := by decide +kernel
theorem dX7_whyNotQueue_23 : decode cX7_whyNotQueue 23 = .ok (.aload 4, 2) := by decide +kernel
theorem dX7_whyNotQueue_25 : decode cX7_whyNotQueue 25 = .ok (.ifnonnull 14, 3) := by decide +kernel
theorem dX7_whyNotQueue_28 : decode cX7_whyNotQueue 28 = .ok (.new 67, 3) := by decide +kernel
theorem dX7_whyNotQueue_31 : decode cX7_whyNotQueue 31 = .ok (.dup, 1) := by decide +kernel
theorem dX7_whyNotQueue_32 : decode cX7_whyNotQueue 32 = .ok (.ldc_w 256, 3) := by decide +kernel
theorem dX7_whyNotQueue_35 : decode cX7_whyNotQueue 35 = .ok (.invokespecial 71, 3) := by decide +kernel
theorem dX7_whyNotQueue_38 : decode cX7_whyNotQueue 38 = .ok (.athrow, 1) := by decide +kernel
theorem dX7_whyNotQueue_39 : decode cX7_whyNotQueue 39 = .ok (.aload_n 0, 1) := by decide +kernel
theorem dX7_whyNotQueue_40 : decode cX7_whyNotQueue 40 = .ok (.getfield 12, 3) := by decide +kernel
theorem dX7_whyNotQueue_43 : decode cX7_whyNotQueue 43 = .ok (.aload_n 3, 1) := by decide +kernel
theorem dX7_whyNotQueue_44 : decode cX7_whyNotQueue 44 = .ok (.aload 4, 2) := by decide +kernel
theorem dX7_whyNotQueue_46 : decode cX7_whyNotQueue 46 = .ok (.iload_n 2, 1) := by decide +kernel
theorem dX7_whyNotQueue_47 : decode cX7_whyNotQueue 47 = .ok (.invokevirtual 258, 3) := by decide +kernel
theorem dX7_whyNotQueue_50 : decode cX7_whyNotQueue 50 = .ok (.ireturn, 1) := by decide +kernel
theorem dX7_whyNotSki_0 : decode cX7_whyNotSki 0 = .ok (.aload_n 0, 1) := by decide +kernel
theorem dX7_whyNotSki_1 : decode cX7_whyNotSki 1 = .ok (.getfield 12, 3) := by decide +kernel
theorem dX7_whyNotSki_4 : decode cX7_whyNotSki 4 = .ok (.iload_n 1, 1) := by decide +kernel
theorem dX7_whyNotSki_5 : decode cX7_whyNotSki 5 = .ok (.invokevirtual 226, 3) := by decide +kernel
theorem dX7_whyNotSki_8 : decode cX7_whyNotSki 8 = .ok (.astore_n 3, 1) := by decide +kernel
theorem dX7_whyNotSki_9 : decode cX7_whyNotSki 9 = .ok (.aload_n 0, 1) := by decide +kernel
theorem dX7_whyNotSki_10 : decode cX7_whyNotSki 10 = .ok (.getfield 12, 3) := by decide +kernel
theorem dX7_whyNotSki_13 : decode cX7_whyNotSki 13 = .ok (.iload_n 2, 1) := by decide +kernel
theorem dX7_whyNotSki_14 : decode cX7_whyNotSki 14 = .ok (.invokevirtual 170, 3) := by decide +kernel
theorem dX7_whyNotSki_17 : decode cX7_whyNotSki 17 = .ok (.astore 4, 2) := by decide +kernel
theorem dX7_whyNotSki_19 : decode cX7_whyNotSki 19 = .ok (.aload_n 3, 1) := by decide +kernel
theorem dX7_whyNotSki_20 : decode cX7_whyNotSki 20 = .ok (.ifnull 8, 3) := by decide +kernel
theorem dX7_whyNotSki_23 : decode cX7_whyNotSki 23 = .ok (.aload 4, 2) := by decide +kernel
theorem dX7_whyNotSki_25 : decode cX7_whyNotSki 25 = .ok (.ifnonnull 14, 3) := by decide +kernel
theorem dX7_whyNotSki_28 : decode cX7_whyNotSki 28 = .ok (.new 67, 3) := by decide +kernel
theorem dX7_whyNotSki_31 : decode cX7_whyNotSki 31 = .ok (.dup, 1) := by decide +kernel
theorem dX7_whyNotSki_32 : decode cX7_whyNotSki 32 = .ok (.ldc_w 275, 3) := by decide +kernel
theorem dX7_whyNotSki_35 : decode cX7_whyNotSki 35 = .ok (.invokespecial 71, 3) := by decide +kernel
theorem dX7_whyNotSki_38 : decode cX7_whyNotSki 38 = .ok (.athrow, 1) := by decide +kernel
theorem dX7_whyNotSki_39 : decode cX7_whyNotSki 39 = .ok (.aload_n 0, 1) := by decide +kernel
theorem dX7_whyNotSki_40 : decode cX7_whyNotSki 40 = .ok (.getfield 12, 3) := by decide +kernel
theorem dX7_whyNotSki_43 : decode cX7_whyNotSki 43 = .ok (.aload_n 3, 1) := by decide +kernel
theorem dX7_whyNotSki_44 : decode cX7_whyNotSki 44 = .ok (.aload 4, 2) := by decide +kernel
theorem dX7_whyNotSki_46 : decode cX7_whyNotSki 46 = .ok (.invokevirtual 277, 3) := by decide +kernel
theorem dX7_whyNotSki_49 : decode cX7_whyNotSki 49 = .ok (.ireturn, 1) := by decide +kernel
theorem dX7_reason_0 : decode cX7_reason 0 = .ok (.aload_n 0, 1) := by decide +kernel
theorem dX7_reason_1 : decode cX7_reason 1 = .ok (.getfield 47, 3) := by decide +kernel
theorem dX7_reason_4 : decode cX7_reason 4 = .ok (.ifCond .ne 14, 3) := by decide +kernel
theorem dX7_reason_7 : decode cX7_reason 7 = .ok (.new 294, 3) := by decide +kernel
theorem dX7_reason_10 : decode cX7_reason 10 = .ok (.dup, 1) := by decide +kernel
theorem dX7_reason_11 : decode cX7_reason 11 = .ok (.ldc_w 296, 3) := by decide +kernel
theorem dX7_reason_14 : decode cX7_reason 14 = .ok (.invokespecial 298, 3) := by decide +kernel
theorem dX7_reason_17 : decode cX7_reason 17 = .ok (.athrow, 1) := by decide +kernel
theorem dX7_reason_18 : decode cX7_reason 18 = .ok (.aload_n 0, 1) := by decide +kernel
theorem dX7_reason_19 : decode cX7_reason 19 = .ok (.getfield 47, 3) := by decide +kernel
theorem dX7_reason_22 : decode cX7_reason 22 = .ok (.ireturn, 1) := by decide +kernel
theorem dX7_opened_0 : decode cX7_opened 0 = .ok (.aload_n 0, 1) := by decide +kernel
theorem dX7_opened_1 : decode cX7_opened 1 = .ok (.getfield 12, 3) := by decide +kernel
theorem dX7_opened_4 : decode cX7_opened 4 = .ok (.iload_n 1, 1) := by decide +kernel
theorem dX7_opened_5 : decode cX7_opened 5 = .ok (.invokevirtual 226, 3) := by decide +kernel
theorem dX7_opened_8 : decode cX7_opened 8 = .ok (.astore_n 2, 1) := by decide +kernel
theorem dX7_opened_9 : decode cX7_opened 9 = .ok (.aload_n 2, 1) := by decide +kernel
theorem dX7_opened_10 : decode cX7_opened 10 = .ok (.ifnonnull 13, 3) := by decide +kernel
theorem dX7_opened_13 : decode cX7_opened 13 = .ok (.new 67, 3) := by decide +kernel
theorem dX7_opened_16 : decode cX7_opened 16 = .ok (.dup, 1) := by decide +kernel
theorem dX7_opened_17 : decode cX7_opened 17 = .ok (.ldc 230, 2) := by decide +kernel
theorem dX7_opened_19 : decode cX7_opened 19 = .ok (.invokespecial 71, 3) := by decide +kernel
theorem dX7_opened_22 : decode cX7_opened 22 = .ok (.athrow, 1) := by decide +kernel
theorem dX7_opened_23 : decode cX7_opened 23 = .ok (.aload_n 0, 1) := by decide +kernel
theorem dX7_opened_24 : decode cX7_opened 24 = .ok (.getfield 12, 3) := by decide +kernel
theorem dX7_opened_27 : decode cX7_opened 27 = .ok (.aload_n 2, 1) := by decide +kernel
theorem dX7_opened_28 : decode cX7_opened 28 = .ok (.invokevirtual 299, 3) := by decide +kernel
theorem dX7_opened_31 : decode cX7_opened 31 = .ok (.ireturn, 1) := by decide +kernel
theorem dX7_queued_0 : decode cX7_queued 0 = .ok (.aload_n 0, 1) := by decide +kernel
theorem dX7_queued_1 : decode cX7_queued 1 = .ok (.getfield 12, 3) := by decide +kernel
theorem dX7_queued_4 : decode cX7_queued 4 = .ok (.iload_n 1, 1) := by decide +kernel
theorem dX7_queued_5 : decode cX7_queued 5 = .ok (.invokevirtual 130, 3) := by decide +kernel
theorem dX7_queued_8 : decode cX7_queued 8 = .ok (.ifnonnull 13, 3) := by decide +kernel
theorem dX7_queued_11 : decode cX7_queued 11 = .ok (.new 67, 3) := by decide +kernel
theorem dX7_queued_14 : decode cX7_queued 14 = .ok (.dup, 1) := by decide +kernel
theorem dX7_queued_15 : decode cX7_queued 15 = .ok (.ldc 134, 2) := by decide +kernel
theorem dX7_queued_17 : decode cX7_queued 17 = .ok (.invokespecial 71, 3) := by decide +kernel
theorem dX7_queued_20 : decode cX7_queued 20 = .ok (.athrow, 1) := by decide +kernel
theorem dX7_queued_21 : decode cX7_queued 21 = .ok (.aload_n 0, 1) := by decide +kernel
theorem dX7_queued_22 : decode cX7_queued 22 = .ok (.getfield 12, 3) := by decide +kernel
theorem dX7_queued_25 : decode cX7_queued 25 = .ok (.iload_n 1, 1) := by decide +kernel
theorem dX7_queued_26 : decode cX7_queued 26 = .ok (.iload_n 2, 1) := by decide +kernel
theorem dX7_queued_27 : decode cX7_queued 27 = .ok (.invokevirtual 303, 3) := by decide +kernel
theorem dX7_queued_30 : decode cX7_queued 30 = .ok (.istore_n 3, 1) := by decide +kernel
theorem dX7_queued_31 : decode cX7_queued 31 = .ok (.iload_n 3, 1) := by decide +kernel
theorem dX7_queued_32 : decode cX7_queued 32 = .ok (.iconst (-1), 1) := by decide +kernel
theorem dX7_queued_33 : decode cX7_queued 33 = .ok (.if_icmp .ne 14, 3) := by decide +kernel
theorem dX7_queued_36 : decode cX7_queued 36 = .ok (.new 294, 3) := by decide +kernel
theorem dX7_queued_39 : decode cX7_queued 39 = .ok (.dup, 1) := by decide +kernel
theorem dX7_queued_40 : decode cX7_queued 40 = .ok (.ldc_w 306, 3) := by decide +kernel
theorem dX7_queued_43 : decode cX7_queued 43 = .ok (.invokespecial 298, 3) := by decide +kernel
theorem dX7_queued_46 : decode cX7_queued 46 = .ok (.athrow, 1) := by decide +kernel
theorem dX7_queued_47 : decode cX7_queued 47 = .ok (.iload_n 3, 1) := by decide +kernel
theorem dX7_queued_48 : decode cX7_queued 48 = .ok (.ireturn, 1) := by decide +kernel
theorem dX7_advance_0 : decode cX7_advance 0 = .ok (.iload_n 1, 1) := by decide +kernel
theorem dX7_advance_1 : decode cX7_advance 1 = .ok (.iconst 1, 1) := by decide +kernel
theorem dX7_advance_2 : decode cX7_advance 2 = .ok (.bipush 50, 2) := by decide +kernel
theorem dX7_advance_4 : decode cX7_advance 4 = .ok (.invokestatic 74, 3) := by decide +kernel
theorem dX7_advance_7 : decode cX7_advance 7 = .ok (.ifCond .ne 14, 3) := by decide +kernel
theorem dX7_advance_10 : decode cX7_advance 10 = .ok (.new 78, 3) := by decide +kernel
theorem dX7_advance_13 : decode cX7_advance 13 = .ok (.dup, 1) := by decide +kernel
theorem dX7_advance_14 : decode cX7_advance 14 = .ok (.ldc_w 308, 3) := by decide +kernel
theorem dX7_advance_17 : decode cX7_advance 17 = .ok (.invokespecial 82, 3) := by decide +kernel
theorem dX7_advance_20 : decode cX7_advance 20 = .ok (.athrow, 1) := by decide +kernel
theorem dX7_advance_21 : decode cX7_advance 21 = .ok (.aload_n 0, 1) := by decide +kernel
theorem dX7_advance_22 : decode cX7_advance 22 = .ok (.getfield 12, 3) := by decide +kernel
theorem dX7_advance_25 : decode cX7_advance 25 = .ok (.getfield 203, 3) := by decide +kernel
theorem dX7_advance_28 : decode cX7_advance 28 = .ok (.iload_n 1, 1) := by decide +kernel
theorem dX7_advance_29 : decode cX7_advance 29 = .ok (.iadd, 1) := by decide +kernel
theorem dX7_advance_30 : decode cX7_advance 30 = .ok (.sipush 1000, 3) := by decide +kernel
theorem dX7_advance_33 : decode cX7_advance 33 = .ok (.if_icmp .le 14, 3) := by decide +kernel
theorem dX7_advance_36 : decode cX7_advance 36 = .ok (.new 86, 3) := by decide +kernel
theorem dX7_advance_39 : decode cX7_advance 39 = .ok (.dup, 1) := by decide +kernel
theorem dX7_advance_40 : decode cX7_advance 40 = .ok (.ldc_w 310, 3) := by decide +kernel
theorem dX7_advance_43 : decode cX7_advance 43 = .ok (.invokespecial 90, 3) := by decide +kernel
theorem dX7_advance_46 : decode cX7_advance 46 = .ok (.athrow, 1) := by decide +kernel
theorem dX7_advance_47 : decode cX7_advance 47 = .ok (.aload_n 0, 1) := by decide +kernel
theorem dX7_advance_48 : decode cX7_advance 48 = .ok (.getfield 25, 3) := by decide +kernel
theorem dX7_advance_51 : decode cX7_advance 51 = .ok (.aload_n 0, 1) := by decide +kernel
theorem dX7_advance_52 : decode cX7_advance 52 = .ok (.getfield 12, 3) := by decide +kernel
theorem dX7_advance_55 : decode cX7_advance 55 = .ok (.invokevirtual 91, 3) := by decide +kernel
theorem dX7_advance_58 : decode cX7_advance 58 = .ok (.aload_n 0, 1) := by decide +kernel
theorem dX7_advance_59 : decode cX7_advance 59 = .ok (.getfield 12, 3) := by decide +kernel
theorem dX7_advance_62 : decode cX7_advance 62 = .ok (.iload_n 1, 1) := by decide +kernel
theorem dX7_advance_63 : decode cX7_advance 63 = .ok (.invokevirtual 312, 3) := by decide +kernel
theorem dX7_advance_66 : decode cX7_advance 66 = .ok (.ireturn, 1) := by decide +kernel
theorem dX7_endDay_0 : decode cX7_endDay 0 = .ok (.aload_n 0, 1) := by decide +kernel
theorem dX7_endDay_1 : decode cX7_endDay 1 = .ok (.getfield 12, 3) := by decide +kernel
theorem dX7_endDay_4 : decode cX7_endDay 4 = .ok (.getfield 206, 3) := by decide +kernel
theorem dX7_endDay_7 : decode cX7_endDay 7 = .ok (.sipush 1000, 3) := by decide +kernel
theorem dX7_endDay_10 : decode cX7_endDay 10 = .ok (.if_icmp .lt 14, 3) := by decide +kernel
theorem dX7_endDay_13 : decode cX7_endDay 13 = .ok (.new 86, 3) := by decide +kernel
theorem dX7_endDay_16 : decode cX7_endDay 16 = .ok (.dup, 1) := by decide +kernel
theorem dX7_endDay_17 : decode cX7_endDay 17 = .ok (.ldc_w 315, 3) := by decide +kernel
theorem dX7_endDay_20 : decode cX7_endDay 20 = .ok (.invokespecial 90, 3) := by decide +kernel
theorem dX7_endDay_23 : decode cX7_endDay 23 = .ok (.athrow, 1) := by decide +kernel
theorem dX7_endDay_24 : decode cX7_endDay 24 = .ok (.aload_n 0, 1) := by decide +kernel
theorem dX7_endDay_25 : decode cX7_endDay 25 = .ok (.getfield 25, 3) := by decide +kernel
theorem dX7_endDay_28 : decode cX7_endDay 28 = .ok (.aload_n 0, 1) := by decide +kernel
theorem dX7_endDay_29 : decode cX7_endDay 29 = .ok (.getfield 12, 3) := by decide +kernel
theorem dX7_endDay_32 : decode cX7_endDay 32 = .ok (.invokevirtual 91, 3) := by decide +kernel
theorem dX7_endDay_35 : decode cX7_endDay 35 = .ok (.aload_n 0, 1) := by decide +kernel
theorem dX7_endDay_36 : decode cX7_endDay 36 = .ok (.getfield 12, 3) := by decide +kernel
theorem dX7_endDay_39 : decode cX7_endDay 39 = .ok (.invokevirtual 317, 3) := by decide +kernel
theorem dX7_endDay_42 : decode cX7_endDay 42 = .ok (.ireturn, 1) := by decide +kernel
theorem dX7_arrival_0 : decode cX7_arrival 0 = .ok (.aload_n 0, 1) := by decide +kernel
theorem dX7_arrival_1 : decode cX7_arrival 1 = .ok (.getfield 12, 3) := by decide +kernel
theorem dX7_arrival_4 : decode cX7_arrival 4 = .ok (.iload_n 1, 1) := by decide +kernel
theorem dX7_arrival_5 : decode cX7_arrival 5 = .ok (.invokevirtual 226, 3) := by decide +kernel
theorem dX7_arrival_8 : decode cX7_arrival 8 = .ok (.astore_n 2, 1) := by decide +kernel
theorem dX7_arrival_9 : decode cX7_arrival 9 = .ok (.aload_n 2, 1) := by decide +kernel
theorem dX7_arrival_10 : decode cX7_arrival 10 = .ok (.ifnonnull 13, 3) := by decide +kernel
theorem dX7_arrival_13 : decode cX7_arrival 13 = .ok (.new 67, 3) := by decide +kernel
theorem dX7_arrival_16 : decode cX7_arrival 16 = .ok (.dup, 1) := by decide +kernel
theorem dX7_arrival_17 : decode cX7_arrival 17 = .ok (.ldc 230, 2) := by decide +kernel
theorem dX7_arrival_19 : decode cX7_arrival 19 = .ok (.invokespecial 71, 3) := by decide +kernel
theorem dX7_arrival_22 : decode cX7_arrival 22 = .ok (.athrow, 1) := by decide +kernel
theorem dX7_arrival_23 : decode cX7_arrival 23 = .ok (.aload_n 0, 1) := by decide +kernel
theorem dX7_arrival_24 : decode cX7_arrival 24 = .ok (.getfield 12, 3) := by decide +kernel
theorem dX7_arrival_27 : decode cX7_arrival 27 = .ok (.aload_n 2, 1) := by decide +kernel
theorem dX7_arrival_28 : decode cX7_arrival 28 = .ok (.invokevirtual 320, 3) := by decide +kernel
theorem dX7_arrival_31 : decode cX7_arrival 31 = .ok (.istore_n 3, 1) := by decide +kernel
theorem dX7_arrival_32 : decode cX7_arrival 32 = .ok (.iload_n 3, 1) := by decide +kernel
theorem dX7_arrival_33 : decode cX7_arrival 33 = .ok (.iconst (-1), 1) := by decide +kernel
theorem dX7_arrival_34 : decode cX7_arrival 34 = .ok (.if_icmp .eq 9, 3) := by decide +kernel
theorem dX7_arrival_37 : decode cX7_arrival 37 = .ok (.iload_n 3, 1) := by decide +kernel
theorem dX7_arrival_38 : decode cX7_arrival 38 = .ok (.bipush 60, 2) := by decide +kernel
theorem dX7_arrival_40 : decode cX7_arrival 40 = .ok (.if_icmp .le 14, 3) := by decide +kernel
theorem dX7_arrival_43 : decode cX7_arrival 43 = .ok (.new 294, 3) := by decide +kernel
theorem dX7_arrival_46 : decode cX7_arrival 46 = .ok (.dup, 1) := by decide +kernel
theorem dX7_arrival_47 : decode cX7_arrival 47 = .ok (.ldc_w 323, 3) := by decide +kernel
theorem dX7_arrival_50 : decode cX7_arrival 50 = .ok (.invokespecial 298, 3) := by decide +kernel
theorem dX7_arrival_53 : decode cX7_arrival 53 = .ok (.athrow, 1) := by decide +kernel
theorem dX7_arrival_54 : decode cX7_arrival 54 = .ok (.iload_n 3, 1) := by decide +kernel
theorem dX7_arrival_55 : decode cX7_arrival 55 = .ok (.ireturn, 1) := by decide +kernel
theorem dX7_nextCabin_0 : decode cX7_nextCabin 0 = .ok (.aload_n 0, 1) := by decide +kernel
theorem dX7_nextCabin_1 : decode cX7_nextCabin 1 = .ok (.getfield 12, 3) := by decide +kernel
theorem dX7_nextCabin_4 : decode cX7_nextCabin 4 = .ok (.iload_n 1, 1) := by decide +kernel
theorem dX7_nextCabin_5 : decode cX7_nextCabin 5 = .ok (.invokevirtual 130, 3) := by decide +kernel
theorem dX7_nextCabin_8 : decode cX7_nextCabin 8 = .ok (.astore_n 2, 1) := by decide +kernel
theorem dX7_nextCabin_9 : decode cX7_nextCabin 9 = .ok (.aload_n 2, 1) := by decide +kernel
theorem dX7_nextCabin_10 : decode cX7_nextCabin 10 = .ok (.ifnonnull 13, 3) := by decide +kernel
theorem dX7_nextCabin_13 : decode cX7_nextCabin 13 = .ok (.new 67, 3) := by decide +kernel
theorem dX7_nextCabin_16 : decode cX7_nextCabin 16 = .ok (.dup, 1) := by decide +kernel
theorem dX7_nextCabin_17 : decode cX7_nextCabin 17 = .ok (.ldc 134, 2) := by decide +kernel
theorem dX7_nextCabin_19 : decode cX7_nextCabin 19 = .ok (.invokespecial 71, 3) := by decide +kernel
theorem dX7_nextCabin_22 : decode cX7_nextCabin 22 = .ok (.athrow, 1) := by decide +kernel
theorem dX7_nextCabin_23 : decode cX7_nextCabin 23 = .ok (.aload_n 0, 1) := by decide +kernel
theorem dX7_nextCabin_24 : decode cX7_nextCabin 24 = .ok (.getfield 12, 3) := by decide +kernel
theorem dX7_nextCabin_27 : decode cX7_nextCabin 27 = .ok (.aload_n 2, 1) := by decide +kernel
theorem dX7_nextCabin_28 : decode cX7_nextCabin 28 = .ok (.invokevirtual 157, 3) := by decide +kernel
theorem dX7_nextCabin_31 : decode cX7_nextCabin 31 = .ok (.istore_n 3, 1) := by decide +kernel
theorem dX7_nextCabin_32 : decode cX7_nextCabin 32 = .ok (.iload_n 3, 1) := by decide +kernel
theorem dX7_nextCabin_33 : decode cX7_nextCabin 33 = .ok (.ifCond .ne 14, 3) := by decide +kernel
theorem dX7_nextCabin_36 : decode cX7_nextCabin 36 = .ok (.new 294, 3) := by decide +kernel
theorem dX7_nextCabin_39 : decode cX7_nextCabin 39 = .ok (.dup, 1) := by decide +kernel
theorem dX7_nextCabin_40 : decode cX7_nextCabin 40 = .ok (.ldc_w 325, 3) := by decide +kernel
theorem dX7_nextCabin_43 : decode cX7_nextCabin 43 = .ok (.invokespecial 298, 3) := by decide +kernel
theorem dX7_nextCabin_46 : decode cX7_nextCabin 46 = .ok (.athrow, 1) := by decide +kernel
theorem dX7_nextCabin_47 : decode cX7_nextCabin 47 = .ok (.aload_n 2, 1) := by decide +kernel
theorem dX7_nextCabin_48 : decode cX7_nextCabin 48 = .ok (.iconst 1, 1) := by decide +kernel
theorem dX7_nextCabin_49 : decode cX7_nextCabin 49 = .ok (.invokevirtual 327, 3) := by decide +kernel
theorem dX7_nextCabin_52 : decode cX7_nextCabin 52 = .ok (.iload_n 3, 1) := by decide +kernel
theorem dX7_nextCabin_53 : decode cX7_nextCabin 53 = .ok (.invokestatic 330, 3) := by decide +kernel
theorem dX7_nextCabin_56 : decode cX7_nextCabin 56 = .ok (.ireturn, 1) := by decide +kernel
theorem dX7_duration_0 : decode cX7_duration 0 = .ok (.aload_n 0, 1) := by decide +kernel
theorem dX7_duration_1 : decode cX7_duration 1 = .ok (.getfield 12, 3) := by decide +kernel
theorem dX7_duration_4 : decode cX7_duration 4 = .ok (.iload_n 1, 1) := by decide +kernel
theorem dX7_duration_5 : decode cX7_duration 5 = .ok (.invokevirtual 226, 3) := by decide +kernel
theorem dX7_duration_8 : decode cX7_duration 8 = .ok (.astore 4, 2) := by decide +kernel
theorem dX7_duration_10 : decode cX7_duration 10 = .ok (.aload 4, 2) := by decide +kernel
theorem dX7_duration_12 : decode cX7_duration 12 = .ok (.ifnull 17, 3) := by decide +kernel
theorem dX7_duration_15 : decode cX7_duration 15 = .ok (.iload_n 2, 1) := by decide +kernel
theorem dX7_duration_16 : decode cX7_duration 16 = .ok (.invokestatic 63, 3) := by decide +kernel
theorem dX7_duration_19 : decode cX7_duration 19 = .ok (.ifCond .eq 10, 3) := by decide +kernel
theorem dX7_duration_22 : decode cX7_duration 22 = .ok (.iload_n 3, 1) := by decide +kernel
theorem dX7_duration_23 : decode cX7_duration 23 = .ok (.invokestatic 63, 3) := by decide +kernel
theorem dX7_duration_26 : decode cX7_duration 26 = .ok (.ifCond .ne 14, 3) := by decide +kernel
theorem dX7_duration_29 : decode cX7_duration 29 = .ok (.new 67, 3) := by decide +kernel
theorem dX7_duration_32 : decode cX7_duration 32 = .ok (.dup, 1) := by decide +kernel
theorem dX7_duration_33 : decode cX7_duration 33 = .ok (.ldc_w 333, 3) := by decide +kernel
theorem dX7_duration_36 : decode cX7_duration 36 = .ok (.invokespecial 71, 3) := by decide +kernel
theorem dX7_duration_39 : decode cX7_duration 39 = .ok (.athrow, 1) := by decide +kernel
theorem dX7_duration_40 : decode cX7_duration 40 = .ok (.aload_n 0, 1) := by decide +kernel
theorem dX7_duration_41 : decode cX7_duration 41 = .ok (.getfield 39, 3) := by decide +kernel
theorem dX7_duration_44 : decode cX7_duration 44 = .ok (.aload_n 0, 1) := by decide +kernel
theorem dX7_duration_45 : decode cX7_duration 45 = .ok (.getfield 12, 3) := by decide +kernel
theorem dX7_duration_48 : decode cX7_duration 48 = .ok (.aload 4, 2) := by decide +kernel
theorem dX7_duration_50 : decode cX7_duration 50 = .ok (.iload_n 3, 1) := by decide +kernel
theorem dX7_duration_51 : decode cX7_duration 51 = .ok (.invokevirtual 335, 3) := by decide +kernel
theorem dX7_duration_54 : decode cX7_duration 54 = .ok (.aload_n 0, 1) := by decide +kernel
theorem dX7_duration_55 : decode cX7_duration 55 = .ok (.getfield 39, 3) := by decide +kernel
theorem dX7_duration_58 : decode cX7_duration 58 = .ok (.iload_n 2, 1) := by decide +kernel
theorem dX7_duration_59 : decode cX7_duration 59 = .ok (.invokevirtual 339, 3) := by decide +kernel
theorem dX7_duration_62 : decode cX7_duration 62 = .ok (.istore 5, 2) := by decide +kernel
theorem dX7_duration_64 : decode cX7_duration 64 = .ok (.iload 5, 2) := by decide +kernel
theorem dX7_duration_66 : decode cX7_duration 66 = .ok (.ldc_w 342, 3) := by decide +kernel
theorem dX7_duration_69 : decode cX7_duration 69 = .ok (.if_icmp .lt 14, 3) := by decide +kernel
theorem dX7_duration_72 : decode cX7_duration 72 = .ok (.new 294, 3) := by decide +kernel
theorem dX7_duration_75 : decode cX7_duration 75 = .ok (.dup, 1) := by decide +kernel
theorem dX7_duration_76 : decode cX7_duration 76 = .ok (.ldc_w 343, 3) := by decide +kernel
theorem dX7_duration_79 : decode cX7_duration 79 = .ok (.invokespecial 298, 3) := by decide +kernel
theorem dX7_duration_82 : decode cX7_duration 82 = .ok (.athrow, 1) := by decide +kernel
theorem dX7_duration_83 : decode cX7_duration 83 = .ok (.iload 5, 2) := by decide +kernel
theorem dX7_duration_85 : decode cX7_duration 85 = .ok (.ireturn, 1) := by decide +kernel
theorem dX7_firstPart_0 : decode cX7_firstPart 0 = .ok (.aload_n 0, 1) := by decide +kernel
theorem dX7_firstPart_1 : decode cX7_firstPart 1 = .ok (.getfield 12, 3) := by decide +kernel
theorem dX7_firstPart_4 : decode cX7_firstPart 4 = .ok (.iload_n 1, 1) := by decide +kernel
theorem dX7_firstPart_5 : decode cX7_firstPart 5 = .ok (.invokevirtual 226, 3) := by decide +kernel
theorem dX7_firstPart_8 : decode cX7_firstPart 8 = .ok (.astore 4, 2) := by decide +kernel
theorem dX7_firstPart_10 : decode cX7_firstPart 10 = .ok (.aload 4, 2) := by decide +kernel
theorem dX7_firstPart_12 : decode cX7_firstPart 12 = .ok (.ifnull 17, 3) := by decide +kernel
theorem dX7_firstPart_15 : decode cX7_firstPart 15 = .ok (.iload_n 2, 1) := by decide +kernel
theorem dX7_firstPart_16 : decode cX7_firstPart 16 = .ok (.invokestatic 63, 3) := by decide +kernel
theorem dX7_firstPart_19 : decode cX7_firstPart 19 = .ok (.ifCond .eq 10, 3) := by decide +kernel
theorem dX7_firstPart_22 : decode cX7_firstPart 22 = .ok (.iload_n 3, 1) := by decide +kernel
theorem dX7_firstPart_23 : decode cX7_firstPart 23 = .ok (.invokestatic 63, 3) := by decide +kernel
theorem dX7_firstPart_26 : decode cX7_firstPart 26 = .ok (.ifCond .ne 14, 3) := by decide +kernel
theorem dX7_firstPart_29 : decode cX7_firstPart 29 = .ok (.new 67, 3) := by decide +kernel
theorem dX7_firstPart_32 : decode cX7_firstPart 32 = .ok (.dup, 1) := by decide +kernel
theorem dX7_firstPart_33 : decode cX7_firstPart 33 = .ok (.ldc_w 333, 3) := by decide +kernel
theorem dX7_firstPart_36 : decode cX7_firstPart 36 = .ok (.invokespecial 71, 3) := by decide +kernel
theorem dX7_firstPart_39 : decode cX7_firstPart 39 = .ok (.athrow, 1) := by decide +kernel
theorem dX7_firstPart_40 : decode cX7_firstPart 40 = .ok (.aload_n 0, 1) := by decide +kernel
theorem dX7_firstPart_41 : decode cX7_firstPart 41 = .ok (.getfield 39, 3) := by decide +kernel
theorem dX7_firstPart_44 : decode cX7_firstPart 44 = .ok (.aload_n 0, 1) := by decide +kernel
theorem dX7_firstPart_45 : decode cX7_firstPart 45 = .ok (.getfield 12, 3) := by decide +kernel
theorem dX7_firstPart_48 : decode cX7_firstPart 48 = .ok (.aload 4, 2) := by decide +kernel
theorem dX7_firstPart_50 : decode cX7_firstPart 50 = .ok (.iload_n 3, 1) := by decide +kernel
theorem dX7_firstPart_51 : decode cX7_firstPart 51 = .ok (.invokevirtual 335, 3) := by decide +kernel
theorem dX7_firstPart_54 : decode cX7_firstPart 54 = .ok (.iload_n 2, 1) := by decide +kernel
theorem dX7_firstPart_55 : decode cX7_firstPart 55 = .ok (.iload_n 3, 1) := by decide +kernel
theorem dX7_firstPart_56 : decode cX7_firstPart 56 = .ok (.if_icmp .ne 7, 3) := by decide +kernel
theorem dX7_firstPart_59 : decode cX7_firstPart 59 = .ok (.iconst (-1), 1) := by decide +kernel
theorem dX7_firstPart_60 : decode cX7_firstPart 60 = .ok (.goto 17, 3) := by decide +kernel
theorem dX7_firstPart_63 : decode cX7_firstPart 63 = .ok (.aload_n 0, 1) := by decide +kernel
theorem dX7_firstPart_64 : decode cX7_firstPart 64 = .ok (.getfield 39, 3) := by decide +kernel
theorem dX7_firstPart_67 : decode cX7_firstPart 67 = .ok (.aload_n 0, 1) := by decide +kernel
theorem dX7_firstPart_68 : decode cX7_firstPart 68 = .ok (.getfield 12, 3) := by decide +kernel
theorem dX7_firstPart_71 : decode cX7_firstPart 71 = .ok (.aload 4, 2) := by decide +kernel
theorem dX7_firstPart_73 : decode cX7_firstPart 73 = .ok (.iload_n 2, 1) := by decide +kernel
theorem dX7_firstPart_74 : decode cX7_firstPart 74 = .ok (.invokevirtual 345, 3) := by decide +kernel
theorem dX7_firstPart_77 : decode cX7_firstPart 77 = .ok (.istore 5, 2) := by decide +kernel
theorem dX7_firstPart_79 : decode cX7_firstPart 79 = .ok (.iload 5, 2) := by decide +kernel
theorem dX7_firstPart_81 : decode cX7_firstPart 81 = .ok (.iconst (-1), 1) := by decide +kernel
theorem dX7_firstPart_82 : decode cX7_firstPart 82 = .ok (.if_icmp .ne 14, 3) := by decide +kernel
theorem dX7_firstPart_85 : decode cX7_firstPart 85 = .ok (.new 294, 3) := by decide +kernel
theorem dX7_firstPart_88 : decode cX7_firstPart 88 = .ok (.dup, 1) := by decide +kernel
theorem dX7_firstPart_89 : decode cX7_firstPart 89 = .ok (.ldc_w 343, 3) := by decide +kernel
theorem dX7_firstPart_92 : decode cX7_firstPart 92 = .ok (.invokespecial 298, 3) := by decide +kernel
theorem dX7_firstPart_95 : decode cX7_firstPart 95 = .ok (.athrow, 1) := by decide +kernel
theorem dX7_firstPart_96 : decode cX7_firstPart 96 = .ok (.iload 5, 2) := by decide +kernel
theorem dX7_firstPart_98 : decode cX7_firstPart 98 = .ok (.ireturn, 1) := by decide +kernel
theorem dX7_reachable_0 : decode cX7_reachable 0 = .ok (.aload_n 0, 1) := by decide +kernel
theorem dX7_reachable_1 : decode cX7_reachable 1 = .ok (.getfield 12, 3) := by decide +kernel
theorem dX7_reachable_4 : decode cX7_reachable 4 = .ok (.iload_n 1, 1) := by decide +kernel
theorem dX7_reachable_5 : decode cX7_reachable 5 = .ok (.invokevirtual 226, 3) := by decide +kernel
theorem dX7_reachable_8 : decode cX7_reachable 8 = .ok (.astore_n 3, 1) := by decide +kernel
theorem dX7_reachable_9 : decode cX7_reachable 9 = .ok (.aload_n 3, 1) := by decide +kernel
theorem dX7_reachable_10 : decode cX7_reachable 10 = .ok (.ifnull 10, 3) := by decide +kernel
theorem dX7_reachable_13 : decode cX7_reachable 13 = .ok (.iload_n 2, 1) := by decide +kernel
theorem dX7_reachable_14 : decode cX7_reachable 14 = .ok (.invokestatic 63, 3) := by decide +kernel
theorem dX7_reachable_17 : decode cX7_reachable 17 = .ok (.ifCond .ne 14, 3) := by decide +kernel
theorem dX7_reachable_20 : decode cX7_reachable 20 = .ok (.new 67, 3) := by decide +kernel
theorem dX7_reachable_23 : decode cX7_reachable 23 = .ok (.dup, 1) := by decide +kernel
theorem dX7_reachable_24 : decode cX7_reachable 24 = .ok (.ldc_w 333, 3) := by decide +kernel
theorem dX7_reachable_27 : decode cX7_reachable 27 = .ok (.invokespecial 71, 3) := by decide +kernel
theorem dX7_reachable_30 : decode cX7_reachable 30 = .ok (.athrow, 1) := by decide +kernel
theorem dX7_reachable_31 : decode cX7_reachable 31 = .ok (.aload_n 0, 1) := by decide +kernel
theorem dX7_reachable_32 : decode cX7_reachable 32 = .ok (.getfield 39, 3) := by decide +kernel
theorem dX7_reachable_35 : decode cX7_reachable 35 = .ok (.aload_n 0, 1) := by decide +kernel
theorem dX7_reachable_36 : decode cX7_reachable 36 = .ok (.getfield 12, 3) := by decide +kernel
theorem dX7_reachable_39 : decode cX7_reachable 39 = .ok (.aload_n 3, 1) := by decide +kernel
theorem dX7_reachable_40 : decode cX7_reachable 40 = .ok (.iload_n 2, 1) := by decide +kernel
theorem dX7_reachable_41 : decode cX7_reachable 41 = .ok (.invokevirtual 349, 3) := by decide +kernel
theorem dX7_reachable_44 : decode cX7_reachable 44 = .ok (.ireturn, 1) := by decide +kernel
theorem dX7_stranded_0 : decode cX7_stranded 0 = .ok (.aload_n 0, 1) := by decide +kernel
theorem dX7_stranded_1 : decode cX7_stranded 1 = .ok (.getfield 12, 3) := by decide +kernel
theorem dX7_stranded_4 : decode cX7_stranded 4 = .ok (.iload_n 1, 1) := by decide +kernel
theorem dX7_stranded_5 : decode cX7_stranded 5 = .ok (.invokevirtual 226, 3) := by decide +kernel
theorem dX7_stranded_8 : decode cX7_stranded 8 = .ok (.astore_n 3, 1) := by decide +kernel
theorem dX7_stranded_9 : decode cX7_stranded 9 = .ok (.aload_n 3, 1) := by decide +kernel
theorem dX7_stranded_10 : decode cX7_stranded 10 = .ok (.ifnull 10, 3) := by decide +kernel
theorem dX7_stranded_13 : decode cX7_stranded 13 = .ok (.iload_n 2, 1) := by decide +kernel
theorem dX7_stranded_14 : decode cX7_stranded 14 = .ok (.invokestatic 63, 3) := by decide +kernel
theorem dX7_stranded_17 : decode cX7_stranded 17 = .ok (.ifCond .ne 14, 3) := by decide +kernel
theorem dX7_stranded_20 : decode cX7_stranded 20 = .ok (.new 67, 3) := by decide +kernel
theorem dX7_stranded_23 : decode cX7_stranded 23 = .ok (.dup, 1) := by decide +kernel
theorem dX7_stranded_24 : decode cX7_stranded 24 = .ok (.ldc_w 333, 3) := by decide +kernel
theorem dX7_stranded_27 : decode cX7_stranded 27 = .ok (.invokespecial 71, 3) := by decide +kernel
theorem dX7_stranded_30 : decode cX7_stranded 30 = .ok (.athrow, 1) := by decide +kernel
theorem dX7_stranded_31 : decode cX7_stranded 31 = .ok (.aload_n 0, 1) := by decide +kernel
theorem dX7_stranded_32 : decode cX7_stranded 32 = .ok (.getfield 39, 3) := by decide +kernel
theorem dX7_stranded_35 : decode cX7_stranded 35 = .ok (.aload_n 0, 1) := by decide +kernel
theorem dX7_stranded_36 : decode cX7_stranded 36 = .ok (.getfield 12, 3) := by decide +kernel
theorem dX7_stranded_39 : decode cX7_stranded 39 = .ok (.aload_n 3, 1) := by decide +kernel
theorem dX7_stranded_40 : decode cX7_stranded 40 = .ok (.iload_n 2, 1) := by decide +kernel
theorem dX7_stranded_41 : decode cX7_stranded 41 = .ok (.invokevirtual 335, 3) := by decide +kernel
theorem dX7_stranded_44 : decode cX7_stranded 44 = .ok (.aload_n 0, 1) := by decide +kernel
theorem dX7_stranded_45 : decode cX7_stranded 45 = .ok (.getfield 39, 3) := by decide +kernel
theorem dX7_stranded_48 : decode cX7_stranded 48 = .ok (.invokevirtual 352, 3) := by decide +kernel
theorem dX7_stranded_51 : decode cX7_stranded 51 = .ok (.ireturn, 1) := by decide +kernel
theorem dX7_liftAccount_0 : decode cX7_liftAccount 0 = .ok (.aload_n 0, 1) := by decide +kernel
theorem dX7_liftAccount_1 : decode cX7_liftAccount 1 = .ok (.getfield 12, 3) := by decide +kernel
theorem dX7_liftAccount_4 : decode cX7_liftAccount 4 = .ok (.iload_n 1, 1) := by decide +kernel
theorem dX7_liftAccount_5 : decode cX7_liftAccount 5 = .ok (.invokevirtual 130, 3) := by decide +kernel
theorem dX7_liftAccount_8 : decode cX7_liftAccount 8 = .ok (.astore_n 3, 1) := by decide +kernel
theorem dX7_liftAccount_9 : decode cX7_liftAccount 9 = .ok (.aload_n 3, 1) := by decide +kernel
theorem dX7_liftAccount_10 : decode cX7_liftAccount 10 = .ok (.ifnonnull 13, 3) := by decide +kernel
theorem dX7_liftAccount_13 : decode cX7_liftAccount 13 = .ok (.new 67, 3) := by decide +kernel
theorem dX7_liftAccount_16 : decode cX7_liftAccount 16 = .ok (.dup, 1) := by decide +kernel
theorem dX7_liftAccount_17 : decode cX7_liftAccount 17 = .ok (.ldc 134, 2) := by decide +kernel
theorem dX7_liftAccount_19 : decode cX7_liftAccount 19 = .ok (.invokespecial 71, 3) := by decide +kernel
theorem dX7_liftAccount_22 : decode cX7_liftAccount 22 = .ok (.athrow, 1) := by decide +kernel
theorem dX7_liftAccount_23 : decode cX7_liftAccount 23 = .ok (.iload_n 2, 1) := by decide +kernel
theorem dX7_liftAccount_24 : decode cX7_liftAccount 24 = .ok (.lookupswitch 38 #[(0, 28), (1, 33)], 28) := by decide +kernel
theorem dX7_liftAccount_52 : decode cX7_liftAccount 52 = .ok (.aload_n 3, 1) := by decide +kernel
theorem dX7_liftAccount_53 : decode cX7_liftAccount 53 = .ok (.getfield 355, 3) := by decide +kernel
theorem dX7_liftAccount_56 : decode cX7_liftAccount 56 = .ok (.ireturn, 1) := by decide +kernel
theorem dX7_liftAccount_57 : decode cX7_liftAccount 57 = .ok (.aload_n 3, 1) := by decide +kernel
theorem dX7_liftAccount_58 : decode cX7_liftAccount 58 = .ok (.getfield 358, 3) := by decide +kernel
theorem dX7_liftAccount_61 : decode cX7_liftAccount 61 = .ok (.ireturn, 1) := by decide +kernel
theorem dX7_liftAccount_62 : decode cX7_liftAccount 62 = .ok (.new 78, 3) := by decide +kernel
theorem dX7_liftAccount_65 : decode cX7_liftAccount 65 = .ok (.dup, 1) := by decide +kernel
theorem dX7_liftAccount_66 : decode cX7_liftAccount 66 = .ok (.ldc_w 361, 3) := by decide +kernel
theorem dX7_liftAccount_69 : decode cX7_liftAccount 69 = .ok (.invokespecial 82, 3) := by decide +kernel
theorem dX7_liftAccount_72 : decode cX7_liftAccount 72 = .ok (.athrow, 1) := by decide +kernel
theorem dX7_guestAccount_0 : decode cX7_guestAccount 0 = .ok (.aload_n 0, 1) := by decide +kernel
theorem dX7_guestAccount_1 : decode cX7_guestAccount 1 = .ok (.getfield 12, 3) := by decide +kernel
theorem dX7_guestAccount_4 : decode cX7_guestAccount 4 = .ok (.iload_n 1, 1) := by decide +kernel
theorem dX7_guestAccount_5 : decode cX7_guestAccount 5 = .ok (.invokevirtual 226, 3) := by decide +kernel
theorem dX7_guestAccount_8 : decode cX7_guestAccount 8 = .ok (.astore_n 3, 1) := by decide +kernel
theorem dX7_guestAccount_9 : decode cX7_guestAccount 9 = .ok (.aload_n 3, 1) := by decide +kernel
theorem dX7_guestAccount_10 : decode cX7_guestAccount 10 = .ok (.ifnonnull 13, 3) := by decide +kernel
theorem dX7_guestAccount_13 : decode cX7_guestAccount 13 = .ok (.new 67, 3) := by decide +kernel
theorem dX7_guestAccount_16 : decode cX7_guestAccount 16 = .ok (.dup, 1) := by decide +kernel
theorem dX7_guestAccount_17 : decode cX7_guestAccount 17 = .ok (.ldc 230, 2) := by decide +kernel
theorem dX7_guestAccount_19 : decode cX7_guestAccount 19 = .ok (.invokespecial 71, 3) := by decide +kernel
theorem dX7_guestAccount_22 : decode cX7_guestAccount 22 = .ok (.athrow, 1) := by decide +kernel
theorem dX7_guestAccount_23 : decode cX7_guestAccount 23 = .ok (.iload_n 2, 1) := by decide +kernel
theorem dX7_guestAccount_24 : decode cX7_guestAccount 24 = .ok (.tableswitch 43 0 2 #[28, 33, 38], 28) := by decide +kernel
theorem dX7_guestAccount_52 : decode cX7_guestAccount 52 = .ok (.aload_n 3, 1) := by decide +kernel
theorem dX7_guestAccount_53 : decode cX7_guestAccount 53 = .ok (.getfield 363, 3) := by decide +kernel
theorem dX7_guestAccount_56 : decode cX7_guestAccount 56 = .ok (.ireturn, 1) := by decide +kernel
theorem dX7_guestAccount_57 : decode cX7_guestAccount 57 = .ok (.aload_n 3, 1) := by decide +kernel
theorem dX7_guestAccount_58 : decode cX7_guestAccount 58 = .ok (.getfield 366, 3) := by decide +kernel
theorem dX7_guestAccount_61 : decode cX7_guestAccount 61 = .ok (.ireturn, 1) := by decide +kernel
theorem dX7_guestAccount_62 : decode cX7_guestAccount 62 = .ok (.aload_n 3, 1) := by decide +kernel
theorem dX7_guestAccount_63 : decode cX7_guestAccount 63 = .ok (.getfield 369, 3) := by decide +kernel
theorem dX7_guestAccount_66 : decode cX7_guestAccount 66 = .ok (.ireturn, 1) := by decide +kernel
theorem dX7_guestAccount_67 : decode cX7_guestAccount 67 = .ok (.new 78, 3) := by decide +kernel
theorem dX7_guestAccount_70 : decode cX7_guestAccount 70 = .ok (.dup, 1) := by decide +kernel
theorem dX7_guestAccount_71 : decode cX7_guestAccount 71 = .ok (.ldc_w 372, 3) := by decide +kernel
theorem dX7_guestAccount_74 : decode cX7_guestAccount 74 = .ok (.invokespecial 82, 3) := by decide +kernel
theorem dX7_guestAccount_77 : decode cX7_guestAccount 77 = .ok (.athrow, 1) := by decide +kernel
theorem dX7_pisteAccount_0 : decode cX7_pisteAccount 0 = .ok (.aload_n 0, 1) := by decide +kernel
theorem dX7_pisteAccount_1 : decode cX7_pisteAccount 1 = .ok (.getfield 12, 3) := by decide +kernel
theorem dX7_pisteAccount_4 : decode cX7_pisteAccount 4 = .ok (.iload_n 1, 1) := by decide +kernel
theorem dX7_pisteAccount_5 : decode cX7_pisteAccount 5 = .ok (.invokevirtual 170, 3) := by decide +kernel
theorem dX7_pisteAccount_8 : decode cX7_pisteAccount 8 = .ok (.astore_n 2, 1) := by decide +kernel
theorem dX7_pisteAccount_9 : decode cX7_pisteAccount 9 = .ok (.aload_n 2, 1) := by decide +kernel
theorem dX7_pisteAccount_10 : decode cX7_pisteAccount 10 = .ok (.ifnonnull 13, 3) := by decide +kernel
theorem dX7_pisteAccount_13 : decode cX7_pisteAccount 13 = .ok (.new 67, 3) := by decide +kernel
theorem dX7_pisteAccount_16 : decode cX7_pisteAccount 16 = .ok (.dup, 1) := by decide +kernel
theorem dX7_pisteAccount_17 : decode cX7_pisteAccount 17 = .ok (.ldc 174, 2) := by decide +kernel
theorem dX7_pisteAccount_19 : decode cX7_pisteAccount 19 = .ok (.invokespecial 71, 3) := by decide +kernel
theorem dX7_pisteAccount_22 : decode cX7_pisteAccount 22 = .ok (.athrow, 1) := by decide +kernel
theorem dX7_pisteAccount_23 : decode cX7_pisteAccount 23 = .ok (.aload_n 2, 1) := by decide +kernel
theorem dX7_pisteAccount_24 : decode cX7_pisteAccount 24 = .ok (.getfield 374, 3) := by decide +kernel
theorem dX7_pisteAccount_27 : decode cX7_pisteAccount 27 = .ok (.ireturn, 1) := by decide +kernel
theorem dX7_audit_0 : decode cX7_audit 0 = .ok (.aload_n 0, 1) := by decide +kernel
theorem dX7_audit_1 : decode cX7_audit 1 = .ok (.getfield 12, 3) := by decide +kernel
theorem dX7_audit_4 : decode cX7_audit 4 = .ok (.invokevirtual 377, 3) := by decide +kernel
theorem dX7_audit_7 : decode cX7_audit 7 = .ok (.ireturn, 1) := by decide +kernel
theorem dX7_busiest_0 : decode cX7_busiest 0 = .ok (.aload_n 0, 1) := by decide +kernel
theorem dX7_busiest_1 : decode cX7_busiest 1 = .ok (.getfield 12, 3) := by decide +kernel
theorem dX7_busiest_4 : decode cX7_busiest 4 = .ok (.invokevirtual 380, 3) := by decide +kernel
theorem dX7_busiest_7 : decode cX7_busiest 7 = .ok (.istore_n 1, 1) := by decide +kernel
theorem dX7_busiest_8 : decode cX7_busiest 8 = .ok (.iload_n 1, 1) := by decide +kernel
theorem dX7_busiest_9 : decode cX7_busiest 9 = .ok (.iconst (-1), 1) := by decide +kernel
theorem dX7_busiest_10 : decode cX7_busiest 10 = .ok (.if_icmp .ne 14, 3) := by decide +kernel
theorem dX7_busiest_13 : decode cX7_busiest 13 = .ok (.new 294, 3) := by decide +kernel
theorem dX7_busiest_16 : decode cX7_busiest 16 = .ok (.dup, 1) := by decide +kernel
theorem dX7_busiest_17 : decode cX7_busiest 17 = .ok (.ldc_w 383, 3) := by decide +kernel
theorem dX7_busiest_20 : decode cX7_busiest 20 = .ok (.invokespecial 298, 3) := by decide +kernel
theorem dX7_busiest_23 : decode cX7_busiest 23 = .ok (.athrow, 1) := by decide +kernel
theorem dX7_busiest_24 : decode cX7_busiest 24 = .ok (.iload_n 1, 1) := by decide +kernel
theorem dX7_busiest_25 : decode cX7_busiest 25 = .ok (.ireturn, 1) := by decide +kernel
theorem dX7_load_0 : decode cX7_load 0 = .ok (.aload_n 0, 1) := by decide +kernel
theorem dX7_load_1 : decode cX7_load 1 = .ok (.getfield 12, 3) := by decide +kernel
theorem dX7_load_4 : decode cX7_load 4 = .ok (.iload_n 1, 1) := by decide +kernel
theorem dX7_load_5 : decode cX7_load 5 = .ok (.invokevirtual 130, 3) := by decide +kernel
theorem dX7_load_8 : decode cX7_load 8 = .ok (.astore_n 2, 1) := by decide +kernel
theorem dX7_load_9 : decode cX7_load 9 = .ok (.aload_n 2, 1) := by decide +kernel
theorem dX7_load_10 : decode cX7_load 10 = .ok (.ifnonnull 13, 3) := by decide +kernel
theorem dX7_load_13 : decode cX7_load 13 = .ok (.new 67, 3) := by decide +kernel
theorem dX7_load_16 : decode cX7_load 16 = .ok (.dup, 1) := by decide +kernel
theorem dX7_load_17 : decode cX7_load 17 = .ok (.ldc 134, 2) := by decide +kernel
theorem dX7_load_19 : decode cX7_load 19 = .ok (.invokespecial 71, 3) := by decide +kernel
theorem dX7_load_22 : decode cX7_load 22 = .ok (.athrow, 1) := by decide +kernel
theorem dX7_load_23 : decode cX7_load 23 = .ok (.aload_n 2, 1) := by decide +kernel
theorem dX7_load_24 : decode cX7_load 24 = .ok (.getfield 358, 3) := by decide +kernel
theorem dX7_load_27 : decode cX7_load 27 = .ok (.ifCond .ne 14, 3) := by decide +kernel
theorem dX7_load_30 : decode cX7_load 30 = .ok (.new 385, 3) := by decide +kernel
theorem dX7_load_33 : decode cX7_load 33 = .ok (.dup, 1) := by decide +kernel
theorem dX7_load_34 : decode cX7_load 34 = .ok (.ldc_w 387, 3) := by decide +kernel
theorem dX7_load_37 : decode cX7_load 37 = .ok (.invokespecial 389, 3) := by decide +kernel
theorem dX7_load_40 : decode cX7_load 40 = .ok (.athrow, 1) := by decide +kernel
theorem dX7_load_41 : decode cX7_load 41 = .ok (.aload_n 2, 1) := by decide +kernel
theorem dX7_load_42 : decode cX7_load 42 = .ok (.getfield 355, 3) := by decide +kernel
theorem dX7_load_45 : decode cX7_load 45 = .ok (.i2d, 1) := by decide +kernel
theorem dX7_load_46 : decode cX7_load 46 = .ok (.aload_n 2, 1) := by decide +kernel
theorem dX7_load_47 : decode cX7_load 47 = .ok (.getfield 358, 3) := by decide +kernel
theorem dX7_load_50 : decode cX7_load 50 = .ok (.i2d, 1) := by decide +kernel
theorem dX7_load_51 : decode cX7_load 51 = .ok (.ddiv, 1) := by decide +kernel
theorem dX7_load_52 : decode cX7_load 52 = .ok (.dreturn, 1) := by decide +kernel
theorem dX7_append_0 : decode cX7_append 0 = .ok (.iload_n 1, 1) := by decide +kernel
theorem dX7_append_1 : decode cX7_append 1 = .ok (.bipush 32, 2) := by decide +kernel
theorem dX7_append_3 : decode cX7_append 3 = .ok (.bipush 126, 2) := by decide +kernel
theorem dX7_append_5 : decode cX7_append 5 = .ok (.invokestatic 74, 3) := by decide +kernel
theorem dX7_append_8 : decode cX7_append 8 = .ok (.ifCond .ne 14, 3) := by decide +kernel
theorem dX7_append_11 : decode cX7_append 11 = .ok (.new 78, 3) := by decide +kernel
theorem dX7_append_14 : decode cX7_append 14 = .ok (.dup, 1) := by decide +kernel
theorem dX7_append_15 : decode cX7_append 15 = .ok (.ldc_w 390, 3) := by decide +kernel
theorem dX7_append_18 : decode cX7_append 18 = .ok (.invokespecial 82, 3) := by decide +kernel
theorem dX7_append_21 : decode cX7_append 21 = .ok (.athrow, 1) := by decide +kernel
theorem dX7_append_22 : decode cX7_append 22 = .ok (.aload_n 0, 1) := by decide +kernel
theorem dX7_append_23 : decode cX7_append 23 = .ok (.getfield 32, 3) := by decide +kernel
theorem dX7_append_26 : decode cX7_append 26 = .ok (.getfield 392, 3) := by decide +kernel
theorem dX7_append_29 : decode cX7_append 29 = .ok (.bipush 60, 2) := by decide +kernel
theorem dX7_append_31 : decode cX7_append 31 = .ok (.if_icmp .lt 14, 3) := by decide +kernel
theorem dX7_append_34 : decode cX7_append 34 = .ok (.new 86, 3) := by decide +kernel
theorem dX7_append_37 : decode cX7_append 37 = .ok (.dup, 1) := by decide +kernel
theorem dX7_append_38 : decode cX7_append 38 = .ok (.ldc_w 393, 3) := by decide +kernel
theorem dX7_append_41 : decode cX7_append 41 = .ok (.invokespecial 90, 3) := by decide +kernel
theorem dX7_append_44 : decode cX7_append 44 = .ok (.athrow, 1) := by decide +kernel
theorem dX7_append_45 : decode cX7_append 45 = .ok (.aload_n 0, 1) := by decide +kernel
theorem dX7_append_46 : decode cX7_append 46 = .ok (.getfield 32, 3) := by decide +kernel
theorem dX7_append_49 : decode cX7_append 49 = .ok (.iload_n 1, 1) := by decide +kernel
theorem dX7_append_50 : decode cX7_append 50 = .ok (.invokevirtual 395, 3) := by decide +kernel
theorem dX7_append_53 : decode cX7_append 53 = .ok (.ireturn, 1) := by decide +kernel
theorem dX7_read_0 : decode cX7_read 0 = .ok (.aload_n 0, 1) := by decide +kernel
theorem dX7_read_1 : decode cX7_read 1 = .ok (.getfield 32, 3) := by decide +kernel
theorem dX7_read_4 : decode cX7_read 4 = .ok (.invokevirtual 399, 3) := by decide +kernel
theorem dX7_read_7 : decode cX7_read 7 = .ok (.ifCond .ne 32, 3) := by decide +kernel
theorem dX7_read_10 : decode cX7_read 10 = .ok (.aload_n 0, 1) := by decide +kernel
theorem dX7_read_11 : decode cX7_read 11 = .ok (.aload_n 0, 1) := by decide +kernel
theorem dX7_read_12 : decode cX7_read 12 = .ok (.getfield 32, 3) := by decide +kernel
theorem dX7_read_15 : decode cX7_read 15 = .ok (.getfield 403, 3) := by decide +kernel
theorem dX7_read_18 : decode cX7_read 18 = .ok (.putfield 51, 3) := by decide +kernel
theorem dX7_read_21 : decode cX7_read 21 = .ok (.aload_n 0, 1) := by decide +kernel
theorem dX7_read_22 : decode cX7_read 22 = .ok (.getfield 32, 3) := by decide +kernel
theorem dX7_read_25 : decode cX7_read 25 = .ok (.invokevirtual 406, 3) := by decide +kernel
theorem dX7_read_28 : decode cX7_read 28 = .ok (.new 78, 3) := by decide +kernel
theorem dX7_read_31 : decode cX7_read 31 = .ok (.dup, 1) := by decide +kernel
theorem dX7_read_32 : decode cX7_read 32 = .ok (.ldc_w 407, 3) := by decide +kernel
theorem dX7_read_35 : decode cX7_read 35 = .ok (.invokespecial 82, 3) := by decide +kernel
theorem dX7_read_38 : decode cX7_read 38 = .ok (.athrow, 1) := by decide +kernel
theorem dX7_read_39 : decode cX7_read 39 = .ok (.aload_n 0, 1) := by decide +kernel
theorem dX7_read_40 : decode cX7_read 40 = .ok (.getfield 32, 3) := by decide +kernel
theorem dX7_read_43 : decode cX7_read 43 = .ok (.getfield 409, 3) := by decide +kernel
theorem dX7_read_46 : decode cX7_read 46 = .ok (.istore_n 1, 1) := by decide +kernel
theorem dX7_read_47 : decode cX7_read 47 = .ok (.aload_n 0, 1) := by decide +kernel
theorem dX7_read_48 : decode cX7_read 48 = .ok (.getfield 16, 3) := by decide +kernel
theorem dX7_read_51 : decode cX7_read 51 = .ok (.aload_n 0, 1) := by decide +kernel
theorem dX7_read_52 : decode cX7_read 52 = .ok (.getfield 12, 3) := by decide +kernel
theorem dX7_read_55 : decode cX7_read 55 = .ok (.invokevirtual 412, 3) := by decide +kernel
theorem dX7_read_58 : decode cX7_read 58 = .ok (.aload_n 0, 1) := by decide +kernel
theorem dX7_read_59 : decode cX7_read 59 = .ok (.iload_n 1, 1) := by decide +kernel
theorem dX7_read_60 : decode cX7_read 60 = .ok (.invokevirtual 415, 3) := by decide +kernel
theorem dX7_read_63 : decode cX7_read 63 = .ok (.istore_n 2, 1) := by decide +kernel
theorem dX7_read_64 : decode cX7_read 64 = .ok (.aload_n 0, 1) := by decide +kernel
theorem dX7_read_65 : decode cX7_read 65 = .ok (.getfield 32, 3) := by decide +kernel
theorem dX7_read_68 : decode cX7_read 68 = .ok (.invokevirtual 406, 3) := by decide +kernel
theorem dX7_read_71 : decode cX7_read 71 = .ok (.iload_n 2, 1) := by decide +kernel
theorem dX7_read_72 : decode cX7_read 72 = .ok (.ifCond .eq 35, 3) := by decide +kernel
theorem dX7_read_75 : decode cX7_read 75 = .ok (.aload_n 0, 1) := by decide +kernel
theorem dX7_read_76 : decode cX7_read 76 = .ok (.getfield 12, 3) := by decide +kernel
theorem dX7_read_79 : decode cX7_read 79 = .ok (.aload_n 0, 1) := by decide +kernel
theorem dX7_read_80 : decode cX7_read 80 = .ok (.getfield 16, 3) := by decide +kernel
theorem dX7_read_83 : decode cX7_read 83 = .ok (.invokevirtual 412, 3) := by decide +kernel
theorem dX7_read_86 : decode cX7_read 86 = .ok (.iload_n 2, 1) := by decide +kernel
theorem dX7_read_87 : decode cX7_read 87 = .ok (.iconst (-1), 1) := by decide +kernel
theorem dX7_read_88 : decode cX7_read 88 = .ok (.if_icmp .eq 8, 3) := by decide +kernel
theorem dX7_read_91 : decode cX7_read 91 = .ok (.aload_n 0, 1) := by decide +kernel
theorem dX7_read_92 : decode cX7_read 92 = .ok (.iload_n 2, 1) := by decide +kernel
theorem dX7_read_93 : decode cX7_read 93 = .ok (.putfield 47, 3) := by decide +kernel
theorem dX7_read_96 : decode cX7_read 96 = .ok (.new 86, 3) := by decide +kernel
theorem dX7_read_99 : decode cX7_read 99 = .ok (.dup, 1) := by decide +kernel
theorem dX7_read_100 : decode cX7_read 100 = .ok (.ldc_w 418, 3) := by decide +kernel
theorem dX7_read_103 : decode cX7_read 103 = .ok (.invokespecial 90, 3) := by decide +kernel
theorem dX7_read_106 : decode cX7_read 106 = .ok (.athrow, 1) := by decide +kernel
theorem dX7_read_107 : decode cX7_read 107 = .ok (.aload_n 0, 1) := by decide +kernel
theorem dX7_read_108 : decode cX7_read 108 = .ok (.getfield 25, 3) := by decide +kernel
theorem dX7_read_111 : decode cX7_read 111 = .ok (.aload_n 0, 1) := by decide +kernel
theorem dX7_read_112 : decode cX7_read 112 = .ok (.getfield 16, 3) := by decide +kernel
theorem dX7_read_115 : decode cX7_read 115 = .ok (.invokevirtual 91, 3) := by decide +kernel
theorem dX7_read_118 : decode cX7_read 118 = .ok (.iload_n 1, 1) := by decide +kernel
theorem dX7_read_119 : decode cX7_read 119 = .ok (.ireturn, 1) := by decide +kernel
theorem dX7_errorPosition_0 : decode cX7_errorPosition 0 = .ok (.aload_n 0, 1) := by decide +kernel
theorem dX7_errorPosition_1 : decode cX7_errorPosition 1 = .ok (.getfield 51, 3) := by decide +kernel
theorem dX7_errorPosition_4 : decode cX7_errorPosition 4 = .ok (.iconst (-1), 1) := by decide +kernel
theorem dX7_errorPosition_5 : decode cX7_errorPosition 5 = .ok (.if_icmp .ne 14, 3) := by decide +kernel
theorem dX7_errorPosition_8 : decode cX7_errorPosition 8 = .ok (.new 294, 3) := by decide +kernel
theorem dX7_errorPosition_11 : decode cX7_errorPosition 11 = .ok (.dup, 1) := by decide +kernel
theorem dX7_errorPosition_12 : decode cX7_errorPosition 12 = .ok (.ldc_w 420, 3) := by decide +kernel
theorem dX7_errorPosition_15 : decode cX7_errorPosition 15 = .ok (.invokespecial 298, 3) := by decide +kernel
theorem dX7_errorPosition_18 : decode cX7_errorPosition 18 = .ok (.athrow, 1) := by decide +kernel
theorem dX7_errorPosition_19 : decode cX7_errorPosition 19 = .ok (.aload_n 0, 1) := by decide +kernel
theorem dX7_errorPosition_20 : decode cX7_errorPosition 20 = .ok (.getfield 51, 3) := by decide +kernel
theorem dX7_errorPosition_23 : decode cX7_errorPosition 23 = .ok (.ireturn, 1) := by decide +kernel
theorem dX7_undo_0 : decode cX7_undo 0 = .ok (.aload_n 0, 1) := by decide +kernel
theorem dX7_undo_1 : decode cX7_undo 1 = .ok (.getfield 25, 3) := by decide +kernel
theorem dX7_undo_4 : decode cX7_undo 4 = .ok (.getfield 422, 3) := by decide +kernel
theorem dX7_undo_7 : decode cX7_undo 7 = .ok (.ifCond .gt 14, 3) := by decide +kernel
theorem dX7_undo_10 : decode cX7_undo 10 = .ok (.new 294, 3) := by decide +kernel
theorem dX7_undo_13 : decode cX7_undo 13 = .ok (.dup, 1) := by decide +kernel
theorem dX7_undo_14 : decode cX7_undo 14 = .ok (.ldc_w 425, 3) := by decide +kernel
theorem dX7_undo_17 : decode cX7_undo 17 = .ok (.invokespecial 298, 3) := by decide +kernel
theorem dX7_undo_20 : decode cX7_undo 20 = .ok (.athrow, 1) := by decide +kernel
theorem dX7_undo_21 : decode cX7_undo 21 = .ok (.aload_n 0, 1) := by decide +kernel
theorem dX7_undo_22 : decode cX7_undo 22 = .ok (.getfield 25, 3) := by decide +kernel
theorem dX7_undo_25 : decode cX7_undo 25 = .ok (.aload_n 0, 1) := by decide +kernel
theorem dX7_undo_26 : decode cX7_undo 26 = .ok (.getfield 12, 3) := by decide +kernel
theorem dX7_undo_29 : decode cX7_undo 29 = .ok (.invokevirtual 427, 3) := by decide +kernel
theorem dX7_undo_32 : decode cX7_undo 32 = .ok (.aload_n 0, 1) := by decide +kernel
theorem dX7_undo_33 : decode cX7_undo 33 = .ok (.getfield 25, 3) := by decide +kernel
theorem dX7_undo_36 : decode cX7_undo 36 = .ok (.getfield 422, 3) := by decide +kernel
theorem dX7_undo_39 : decode cX7_undo 39 = .ok (.ireturn, 1) := by decide +kernel
theorem dX7_save_0 : decode cX7_save 0 = .ok (.aload_n 0, 1) := by decide +kernel
theorem dX7_save_1 : decode cX7_save 1 = .ok (.getfield 19, 3) := by decide +kernel
theorem dX7_save_4 : decode cX7_save 4 = .ok (.aload_n 0, 1) := by decide +kernel
theorem dX7_save_5 : decode cX7_save 5 = .ok (.getfield 12, 3) := by decide +kernel
theorem dX7_save_8 : decode cX7_save 8 = .ok (.invokevirtual 412, 3) := by decide +kernel
theorem dX7_save_11 : decode cX7_save 11 = .ok (.aload_n 0, 1) := by decide +kernel
theorem dX7_save_12 : decode cX7_save 12 = .ok (.iconst 1, 1) := by decide +kernel
theorem dX7_save_13 : decode cX7_save 13 = .ok (.putfield 43, 3) := by decide +kernel
theorem dX7_save_16 : decode cX7_save 16 = .ok (.aload_n 0, 1) := by decide +kernel
theorem dX7_save_17 : decode cX7_save 17 = .ok (.getfield 12, 3) := by decide +kernel
theorem dX7_save_20 : decode cX7_save 20 = .ok (.getfield 54, 3) := by decide +kernel
theorem dX7_save_23 : decode cX7_save 23 = .ok (.ireturn, 1) := by decide +kernel
theorem dX7_restore_0 : decode cX7_restore 0 = .ok (.aload_n 0, 1) := by decide +kernel
theorem dX7_restore_1 : decode cX7_restore 1 = .ok (.getfield 43, 3) := by decide +kernel
theorem dX7_restore_4 : decode cX7_restore 4 = .ok (.ifCond .ne 14, 3) := by decide +kernel
theorem dX7_restore_7 : decode cX7_restore 7 = .ok (.new 86, 3) := by decide +kernel
theorem dX7_restore_10 : decode cX7_restore 10 = .ok (.dup, 1) := by decide +kernel
theorem dX7_restore_11 : decode cX7_restore 11 = .ok (.ldc_w 430, 3) := by decide +kernel
theorem dX7_restore_14 : decode cX7_restore 14 = .ok (.invokespecial 90, 3) := by decide +kernel
theorem dX7_restore_17 : decode cX7_restore 17 = .ok (.athrow, 1) := by decide +kernel
theorem dX7_restore_18 : decode cX7_restore 18 = .ok (.aload_n 0, 1) := by decide +kernel
theorem dX7_restore_19 : decode cX7_restore 19 = .ok (.getfield 12, 3) := by decide +kernel
theorem dX7_restore_22 : decode cX7_restore 22 = .ok (.aload_n 0, 1) := by decide +kernel
theorem dX7_restore_23 : decode cX7_restore 23 = .ok (.getfield 19, 3) := by decide +kernel
theorem dX7_restore_26 : decode cX7_restore 26 = .ok (.invokevirtual 412, 3) := by decide +kernel
theorem dX7_restore_29 : decode cX7_restore 29 = .ok (.aload_n 0, 1) := by decide +kernel
theorem dX7_restore_30 : decode cX7_restore 30 = .ok (.getfield 25, 3) := by decide +kernel
theorem dX7_restore_33 : decode cX7_restore 33 = .ok (.invokevirtual 60, 3) := by decide +kernel
theorem dX7_restore_36 : decode cX7_restore 36 = .ok (.aload_n 0, 1) := by decide +kernel
theorem dX7_restore_37 : decode cX7_restore 37 = .ok (.getfield 12, 3) := by decide +kernel
theorem dX7_restore_40 : decode cX7_restore 40 = .ok (.getfield 54, 3) := by decide +kernel
theorem dX7_restore_43 : decode cX7_restore 43 = .ok (.ireturn, 1) := by decide +kernel
theorem dX7_isBetween_0 : decode cX7_isBetween 0 = .ok (.iload_n 0, 1) := by decide +kernel
theorem dX7_isBetween_1 : decode cX7_isBetween 1 = .ok (.iload_n 1, 1) := by decide +kernel
theorem dX7_isBetween_2 : decode cX7_isBetween 2 = .ok (.if_icmp .lt 12, 3) := by decide +kernel
theorem dX7_isBetween_5 : decode cX7_isBetween 5 = .ok (.iload_n 0, 1) := by decide +kernel
theorem dX7_isBetween_6 : decode cX7_isBetween 6 = .ok (.iload_n 2, 1) := by decide +kernel
theorem dX7_isBetween_7 : decode cX7_isBetween 7 = .ok (.if_icmp .gt 7, 3) := by decide +kernel
theorem dX7_isBetween_10 : decode cX7_isBetween 10 = .ok (.iconst 1, 1) := by decide +kernel
theorem dX7_isBetween_11 : decode cX7_isBetween 11 = .ok (.goto 4, 3) := by decide +kernel
theorem dX7_isBetween_14 : decode cX7_isBetween 14 = .ok (.iconst 0, 1) := by decide +kernel
theorem dX7_isBetween_15 : decode cX7_isBetween 15 = .ok (.ireturn, 1) := by decide +kernel
theorem dX7_isStation_0 : decode cX7_isStation 0 = .ok (.iload_n 0, 1) := by decide +kernel
theorem dX7_isStation_1 : decode cX7_isStation 1 = .ok (.iconst 0, 1) := by decide +kernel
theorem dX7_isStation_2 : decode cX7_isStation 2 = .ok (.bipush 7, 2) := by decide +kernel
theorem dX7_isStation_4 : decode cX7_isStation 4 = .ok (.invokestatic 74, 3) := by decide +kernel
theorem dX7_isStation_7 : decode cX7_isStation 7 = .ok (.ireturn, 1) := by decide +kernel
theorem dX7_ticksFor_0 : decode cX7_ticksFor 0 = .ok (.iload_n 1, 1) := by decide +kernel
theorem dX7_ticksFor_1 : decode cX7_ticksFor 1 = .ok (.iconst 2, 1) := by decide +kernel
theorem dX7_ticksFor_2 : decode cX7_ticksFor 2 = .ok (.if_icmp .ne 11, 3) := by decide +kernel
theorem dX7_ticksFor_5 : decode cX7_ticksFor 5 = .ok (.iload_n 0, 1) := by decide +kernel
theorem dX7_ticksFor_6 : decode cX7_ticksFor 6 = .ok (.iconst 1, 1) := by decide +kernel
theorem dX7_ticksFor_7 : decode cX7_ticksFor 7 = .ok (.iadd, 1) := by decide +kernel
theorem dX7_ticksFor_8 : decode cX7_ticksFor 8 = .ok (.iconst 2, 1) := by decide +kernel
theorem dX7_ticksFor_9 : decode cX7_ticksFor 9 = .ok (.idiv, 1) := by decide +kernel
theorem dX7_ticksFor_10 : decode cX7_ticksFor 10 = .ok (.goto 4, 3) := by decide +kernel
theorem dX7_ticksFor_13 : decode cX7_ticksFor 13 = .ok (.iload_n 0, 1) := by decide +kernel
theorem dX7_ticksFor_14 : decode cX7_ticksFor 14 = .ok (.ireturn, 1) := by decide +kernel
theorem dX7_keepRefusal_0 : decode cX7_keepRefusal 0 = .ok (.aload_n 0, 1) := by decide +kernel
theorem dX7_keepRefusal_1 : decode cX7_keepRefusal 1 = .ok (.iload_n 2, 1) := by decide +kernel
theorem dX7_keepRefusal_2 : decode cX7_keepRefusal 2 = .ok (.putfield 47, 3) := by decide +kernel
theorem dX7_keepRefusal_5 : decode cX7_keepRefusal 5 = .ok (.aload_n 1, 1) := by decide +kernel
theorem dX7_keepRefusal_6 : decode cX7_keepRefusal 6 = .ok (.dup, 1) := by decide +kernel
theorem dX7_keepRefusal_7 : decode cX7_keepRefusal 7 = .ok (.getfield 369, 3) := by decide +kernel
theorem dX7_keepRefusal_10 : decode cX7_keepRefusal 10 = .ok (.iconst 1, 1) := by decide +kernel
theorem dX7_keepRefusal_11 : decode cX7_keepRefusal 11 = .ok (.iadd, 1) := by decide +kernel
theorem dX7_keepRefusal_12 : decode cX7_keepRefusal 12 = .ok (.putfield 369, 3) := by decide +kernel
theorem dX7_keepRefusal_15 : decode cX7_keepRefusal 15 = .ok (.return_, 1) := by decide +kernel
theorem dX7_doEntries_0 : decode cX7_doEntries 0 = .ok (.aload_n 0, 1) := by decide +kernel
theorem dX7_doEntries_1 : decode cX7_doEntries 1 = .ok (.getfield 32, 3) := by decide +kernel
theorem dX7_doEntries_4 : decode cX7_doEntries 4 = .ok (.iconst 0, 1) := by decide +kernel
theorem dX7_doEntries_5 : decode cX7_doEntries 5 = .ok (.putfield 403, 3) := by decide +kernel
theorem dX7_doEntries_8 : decode cX7_doEntries 8 = .ok (.iconst 0, 1) := by decide +kernel
theorem dX7_doEntries_9 : decode cX7_doEntries 9 = .ok (.istore_n 2, 1) := by decide +kernel
theorem dX7_doEntries_10 : decode cX7_doEntries 10 = .ok (.iload_n 2, 1) := by decide +kernel
theorem dX7_doEntries_11 : decode cX7_doEntries 11 = .ok (.iload_n 1, 1) := by decide +kernel
theorem dX7_doEntries_12 : decode cX7_doEntries 12 = .ok (.if_icmp .ge 53, 3) := by decide +kernel
theorem dX7_doEntries_15 : decode cX7_doEntries 15 = .ok (.aload_n 0, 1) := by decide +kernel
theorem dX7_doEntries_16 : decode cX7_doEntries 16 = .ok (.getfield 32, 3) := by decide +kernel
theorem dX7_doEntries_19 : decode cX7_doEntries 19 = .ok (.invokevirtual 432, 3) := by decide +kernel
theorem dX7_doEntries_22 : decode cX7_doEntries 22 = .ok (.ifCond .ne 5, 3) := by decide +kernel
theorem dX7_doEntries_25 : decode cX7_doEntries 25 = .ok (.iconst (-1), 1) := by decide +kernel
theorem dX7_doEntries_26 : decode cX7_doEntries 26 = .ok (.ireturn, 1) := by decide +kernel
theorem dX7_doEntries_27 : decode cX7_doEntries 27 = .ok (.aload_n 0, 1) := by decide +kernel
theorem dX7_doEntries_28 : decode cX7_doEntries 28 = .ok (.aload_n 0, 1) := by decide +kernel
theorem dX7_doEntries_29 : decode cX7_doEntries 29 = .ok (.getfield 32, 3) := by decide +kernel
theorem dX7_doEntries_32 : decode cX7_doEntries 32 = .ok (.getfield 435, 3) := by decide +kernel
theorem dX7_doEntries_35 : decode cX7_doEntries 35 = .ok (.aload_n 0, 1) := by decide +kernel
theorem dX7_doEntries_36 : decode cX7_doEntries 36 = .ok (.getfield 32, 3) := by decide +kernel
theorem dX7_doEntries_39 : decode cX7_doEntries 39 = .ok (.getfield 438, 3) := by decide +kernel
theorem dX7_doEntries_42 : decode cX7_doEntries 42 = .ok (.aload_n 0, 1) := by decide +kernel
theorem dX7_doEntries_43 : decode cX7_doEntries 43 = .ok (.getfield 32, 3) := by decide +kernel
theorem dX7_doEntries_46 : decode cX7_doEntries 46 = .ok (.getfield 441, 3) := by decide +kernel
theorem dX7_doEntries_49 : decode cX7_doEntries 49 = .ok (.invokevirtual 444, 3) := by decide +kernel
theorem dX7_doEntries_52 : decode cX7_doEntries 52 = .ok (.istore_n 3, 1) := by decide +kernel
theorem dX7_doEntries_53 : decode cX7_doEntries 53 = .ok (.iload_n 3, 1) := by decide +kernel
theorem dX7_doEntries_54 : decode cX7_doEntries 54 = .ok (.ifCond .eq 5, 3) := by decide +kernel
theorem dX7_doEntries_57 : decode cX7_doEntries 57 = .ok (.iload_n 3, 1) := by decide +kernel
theorem dX7_doEntries_58 : decode cX7_doEntries 58 = .ok (.ireturn, 1) := by decide +kernel
theorem dX7_doEntries_59 : decode cX7_doEntries 59 = .ok (.iinc 2 1, 3) := by decide +kernel
theorem dX7_doEntries_62 : decode cX7_doEntries 62 = .ok (.goto (-52), 3) := by decide +kernel
theorem dX7_doEntries_65 : decode cX7_doEntries 65 = .ok (.iconst 0, 1) := by decide +kernel
theorem dX7_doEntries_66 : decode cX7_doEntries 66 = .ok (.ireturn, 1) := by decide +kernel
theorem dX7_doEntry_0 : decode cX7_doEntry 0 = .ok (.iload_n 1, 1) := by decide +kernel
theorem dX7_doEntry_1 : decode cX7_doEntry 1 = .ok (.lookupswitch 110 #[(103, 51), (113, 58), (115, 65), (116, 72), (119, 100)], 51) := by decide +kernel
theorem dX7_doEntry_52 : decode cX7_doEntry 52 = .ok (.aload_n 0, 1) := by decide +kernel
theorem dX7_doEntry_53 : decode cX7_doEntry 53 = .ok (.iload_n 2, 1) := by decide +kernel
theorem dX7_doEntry_54 : decode cX7_doEntry 54 = .ok (.iload_n 3, 1) := by decide +kernel
theorem dX7_doEntry_55 : decode cX7_doEntry 55 = .ok (.invokevirtual 448, 3) := by decide +kernel
theorem dX7_doEntry_58 : decode cX7_doEntry 58 = .ok (.ireturn, 1) := by decide +kernel
theorem dX7_doEntry_59 : decode cX7_doEntry 59 = .ok (.aload_n 0, 1) := by decide +kernel
theorem dX7_doEntry_60 : decode cX7_doEntry 60 = .ok (.iload_n 2, 1) := by decide +kernel
theorem dX7_doEntry_61 : decode cX7_doEntry 61 = .ok (.iload_n 3, 1) := by decide +kernel
theorem dX7_doEntry_62 : decode cX7_doEntry 62 = .ok (.invokevirtual 451, 3) := by decide +kernel
theorem dX7_doEntry_65 : decode cX7_doEntry 65 = .ok (.ireturn, 1) := by decide +kernel
theorem dX7_doEntry_66 : decode cX7_doEntry 66 = .ok (.aload_n 0, 1) := by decide +kernel
theorem dX7_doEntry_67 : decode cX7_doEntry 67 = .ok (.iload_n 2, 1) := by decide +kernel
theorem dX7_doEntry_68 : decode cX7_doEntry 68 = .ok (.iload_n 3, 1) := by decide +kernel
theorem dX7_doEntry_69 : decode cX7_doEntry 69 = .ok (.invokevirtual 454, 3) := by decide +kernel
theorem dX7_doEntry_72 : decode cX7_doEntry 72 = .ok (.ireturn, 1) := by decide +kernel
theorem dX7_doEntry_73 : decode cX7_doEntry 73 = .ok (.aload_n 0, 1) := by decide +kernel
theorem dX7_doEntry_74 : decode cX7_doEntry 74 = .ok (.getfield 12, 3) := by decide +kernel
theorem dX7_doEntry_77 : decode cX7_doEntry 77 = .ok (.getfield 203, 3) := by decide +kernel
theorem dX7_doEntry_80 : decode cX7_doEntry 80 = .ok (.iload_n 2, 1) := by decide +kernel
theorem dX7_doEntry_81 : decode cX7_doEntry 81 = .ok (.iadd, 1) := by decide +kernel
theorem dX7_doEntry_82 : decode cX7_doEntry 82 = .ok (.sipush 1000, 3) := by decide +kernel
theorem dX7_doEntry_85 : decode cX7_doEntry 85 = .ok (.if_icmp .le 5, 3) := by decide +kernel
theorem dX7_doEntry_88 : decode cX7_doEntry 88 = .ok (.iconst (-1), 1) := by decide +kernel
theorem dX7_doEntry_89 : decode cX7_doEntry 89 = .ok (.ireturn, 1) := by decide +kernel
theorem dX7_doEntry_90 : decode cX7_doEntry 90 = .ok (.aload_n 0, 1) := by decide +kernel
theorem dX7_doEntry_91 : decode cX7_doEntry 91 = .ok (.getfield 12, 3) := by decide +kernel
theorem dX7_doEntry_94 : decode cX7_doEntry 94 = .ok (.iload_n 2, 1) := by decide +kernel
theorem dX7_doEntry_95 : decode cX7_doEntry 95 = .ok (.invokevirtual 312, 3) := by decide +kernel
theorem dX7_doEntry_98 : decode cX7_doEntry 98 = .ok (.pop, 1) := by decide +kernel
theorem dX7_doEntry_99 : decode cX7_doEntry 99 = .ok (.iconst 0, 1) := by decide +kernel
theorem dX7_doEntry_100 : decode cX7_doEntry 100 = .ok (.ireturn, 1) := by decide +kernel
theorem dX7_doEntry_101 : decode cX7_doEntry 101 = .ok (.aload_n 0, 1) := by decide +kernel
theorem dX7_doEntry_102 : decode cX7_doEntry 102 = .ok (.getfield 12, 3) := by decide +kernel
theorem dX7_doEntry_105 : decode cX7_doEntry 105 = .ok (.iload_n 2, 1) := by decide +kernel
theorem dX7_doEntry_106 : decode cX7_doEntry 106 = .ok (.putfield 123, 3) := by decide +kernel
theorem dX7_doEntry_109 : decode cX7_doEntry 109 = .ok (.iconst 0, 1) := by decide +kernel
theorem dX7_doEntry_110 : decode cX7_doEntry 110 = .ok (.ireturn, 1) := by decide +kernel
theorem dX7_doEntry_111 : decode cX7_doEntry 111 = .ok (.iconst (-1), 1) := by decide +kernel
theorem dX7_doEntry_112 : decode cX7_doEntry 112 = .ok (.ireturn, 1) := by decide +kernel
theorem dX7_addGuestByText_0 : decode cX7_addGuestByText 0 = .ok (.aload_n 0, 1) := by decide +kernel
theorem dX7_addGuestByText_1 : decode cX7_addGuestByText 1 = .ok (.getfield 12, 3) := by decide +kernel
theorem dX7_addGuestByText_4 : decode cX7_addGuestByText 4 = .ok (.getfield 54, 3) := by decide +kernel
theorem dX7_addGuestByText_7 : decode cX7_addGuestByText 7 = .ok (.bipush 16, 2) := by decide +kernel
theorem dX7_addGuestByText_9 : decode cX7_addGuestByText 9 = .ok (.if_icmp .lt 5, 3) := by decide +kernel
theorem dX7_addGuestByText_12 : decode cX7_addGuestByText 12 = .ok (.iconst (-1), 1) := by decide +kernel
theorem dX7_addGuestByText_13 : decode cX7_addGuestByText 13 = .ok (.ireturn, 1) := by decide +kernel
theorem dX7_addGuestByText_14 : decode cX7_addGuestByText 14 = .ok (.aload_n 0, 1) := by decide +kernel
theorem dX7_addGuestByText_15 : decode cX7_addGuestByText 15 = .ok (.getfield 12, 3) := by decide +kernel
theorem dX7_addGuestByText_18 : decode cX7_addGuestByText 18 = .ok (.iload_n 1, 1) := by decide +kernel
theorem dX7_addGuestByText_19 : decode cX7_addGuestByText 19 = .ok (.iload_n 2, 1) := by decide +kernel
theorem dX7_addGuestByText_20 : decode cX7_addGuestByText 20 = .ok (.bipush 15, 2) := by decide +kernel
theorem dX7_addGuestByText_22 : decode cX7_addGuestByText 22 = .ok (.aload_n 0, 1) := by decide +kernel
theorem dX7_addGuestByText_23 : decode cX7_addGuestByText 23 = .ok (.getfield 12, 3) := by decide +kernel
theorem dX7_addGuestByText_26 : decode cX7_addGuestByText 26 = .ok (.getfield 206, 3) := by decide +kernel
theorem dX7_addGuestByText_29 : decode cX7_addGuestByText 29 = .ok (.aload_n 0, 1) := by decide +kernel
theorem dX7_addGuestByText_30 : decode cX7_addGuestByText 30 = .ok (.getfield 12, 3) := by decide +kernel
theorem dX7_addGuestByText_33 : decode cX7_addGuestByText 33 = .ok (.getfield 206, 3) := by decide +kernel
theorem dX7_addGuestByText_36 : decode cX7_addGuestByText 36 = .ok (.invokevirtual 222, 3) := by decide +kernel
theorem dX7_addGuestByText_39 : decode cX7_addGuestByText 39 = .ok (.pop, 1) := by decide +kernel
theorem dX7_addGuestByText_40 : decode cX7_addGuestByText 40 = .ok (.iconst 0, 1) := by decide +kernel
theorem dX7_addGuestByText_41 : decode cX7_addGuestByText 41 = .ok (.ireturn, 1) := by decide +kernel
theorem dX7_queueByText_0 : decode cX7_queueByText 0 = .ok (.aload_n 0, 1) := by decide +kernel
theorem dX7_queueByText_1 : decode cX7_queueByText 1 = .ok (.getfield 12, 3) := by decide +kernel
theorem dX7_queueByText_4 : decode cX7_queueByText 4 = .ok (.iload_n 1, 1) := by decide +kernel
theorem dX7_queueByText_5 : decode cX7_queueByText 5 = .ok (.invokevirtual 226, 3) := by decide +kernel
theorem dX7_queueByText_8 : decode cX7_queueByText 8 = .ok (.astore_n 3, 1) := by decide +kernel
theorem dX7_queueByText_9 : decode cX7_queueByText 9 = .ok (.aload_n 0, 1) := by decide +kernel
theorem dX7_queueByText_10 : decode cX7_queueByText 10 = .ok (.getfield 12, 3) := by decide +kernel
theorem dX7_queueByText_13 : decode cX7_queueByText 13 = .ok (.iload_n 2, 1) := by decide +kernel
theorem dX7_queueByText_14 : decode cX7_queueByText 14 = .ok (.invokevirtual 130, 3) := by decide +kernel
theorem dX7_queueByText_17 : decode cX7_queueByText 17 = .ok (.astore 4, 2) := by decide +kernel
theorem dX7_queueByText_19 : decode cX7_queueByText 19 = .ok (.aload_n 3, 1) := by decide +kernel
theorem dX7_queueByText_20 : decode cX7_queueByText 20 = .ok (.ifnull 8, 3) := by decide +kernel
theorem dX7_queueByText_23 : decode cX7_queueByText 23 = .ok (.aload 4, 2) := by decide +kernel
theorem dX7_queueByText_25 : decode cX7_queueByText 25 = .ok (.ifnonnull 5, 3) := by decide +kernel
theorem dX7_queueByText_28 : decode cX7_queueByText 28 = .ok (.iconst (-1), 1) := by decide +kernel
theorem dX7_queueByText_29 : decode cX7_queueByText 29 = .ok (.ireturn, 1) := by decide +kernel
theorem dX7_queueByText_30 : decode cX7_queueByText 30 = .ok (.aload_n 0, 1) := by decide +kernel
theorem dX7_queueByText_31 : decode cX7_queueByText 31 = .ok (.getfield 12, 3) := by decide +kernel
theorem dX7_queueByText_34 : decode cX7_queueByText 34 = .ok (.aload_n 3, 1) := by decide +kernel
theorem dX7_queueByText_35 : decode cX7_queueByText 35 = .ok (.aload 4, 2) := by decide +kernel
theorem dX7_queueByText_37 : decode cX7_queueByText 37 = .ok (.iload_n 2, 1) := by decide +kernel
theorem dX7_queueByText_38 : decode cX7_queueByText 38 = .ok (.invokevirtual 258, 3) := by decide +kernel
theorem dX7_queueByText_41 : decode cX7_queueByText 41 = .ok (.istore 5, 2) := by decide +kernel
theorem dX7_queueByText_43 : decode cX7_queueByText 43 = .ok (.iload 5, 2) := by decide +kernel
theorem dX7_queueByText_45 : decode cX7_queueByText 45 = .ok (.ifCond .eq 6, 3) := by decide +kernel
theorem dX7_queueByText_48 : decode cX7_queueByText 48 = .ok (.iload 5, 2) := by decide +kernel
theorem dX7_queueByText_50 : decode cX7_queueByText 50 = .ok (.ireturn, 1) := by decide +kernel
theorem dX7_queueByText_51 : decode cX7_queueByText 51 = .ok (.aload_n 0, 1) := by decide +kernel
theorem dX7_queueByText_52 : decode cX7_queueByText 52 = .ok (.getfield 12, 3) := by decide +kernel
theorem dX7_queueByText_55 : decode cX7_queueByText 55 = .ok (.aload_n 3, 1) := by decide +kernel
theorem dX7_queueByText_56 : decode cX7_queueByText 56 = .ok (.iload_n 2, 1) := by decide +kernel
theorem dX7_queueByText_57 : decode cX7_queueByText 57 = .ok (.invokevirtual 271, 3) := by decide +kernel
theorem dX7_queueByText_60 : decode cX7_queueByText 60 = .ok (.pop, 1) := by decide +kernel
theorem dX7_queueByText_61 : decode cX7_queueByText 61 = .ok (.iconst 0, 1) := by decide +kernel
theorem dX7_queueByText_62 : decode cX7_queueByText 62 = .ok (.ireturn, 1) := by decide +kernel
theorem dX7_skiByText_0 : decode cX7_skiByText 0 = .ok (.aload_n 0, 1) := by decide +kernel
theorem dX7_skiByText_1 : decode cX7_skiByText 1 = .ok (.getfield 12, 3) := by decide +kernel
theorem dX7_skiByText_4 : decode cX7_skiByText 4 = .ok (.iload_n 1, 1) := by decide +kernel
theorem dX7_skiByText_5 : decode cX7_skiByText 5 = .ok (.invokevirtual 226, 3) := by decide +kernel
theorem dX7_skiByText_8 : decode cX7_skiByText 8 = .ok (.astore_n 3, 1) := by decide +kernel
theorem dX7_skiByText_9 : decode cX7_skiByText 9 = .ok (.aload_n 0, 1) := by decide +kernel
theorem dX7_skiByText_10 : decode cX7_skiByText 10 = .ok (.getfield 12, 3) := by decide +kernel
theorem dX7_skiByText_13 : decode cX7_skiByText 13 = .ok (.iload_n 2, 1) := by decide +kernel
theorem dX7_skiByText_14 : decode cX7_skiByText 14 = .ok (.invokevirtual 170, 3) := by decide +kernel
theorem dX7_skiByText_17 : decode cX7_skiByText 17 = .ok (.astore 4, 2) := by decide +kernel
theorem dX7_skiByText_19 : decode cX7_skiByText 19 = .ok (.aload_n 3, 1) := by decide +kernel
theorem dX7_skiByText_20 : decode cX7_skiByText 20 = .ok (.ifnull 8, 3) := by decide +kernel
theorem dX7_skiByText_23 : decode cX7_skiByText 23 = .ok (.aload 4, 2) := by decide +kernel
theorem dX7_skiByText_25 : decode cX7_skiByText 25 = .ok (.ifnonnull 5, 3) := by decide +kernel
theorem dX7_skiByText_28 : decode cX7_skiByText 28 = .ok (.iconst (-1), 1) := by decide +kernel
theorem dX7_skiByText_29 : decode cX7_skiByText 29 = .ok (.ireturn, 1) := by decide +kernel
theorem dX7_skiByText_30 : decode cX7_skiByText 30 = .ok (.aload_n 0, 1) := by decide +kernel
theorem dX7_skiByText_31 : decode cX7_skiByText 31 = .ok (.getfield 12, 3) := by decide +kernel
theorem dX7_skiByText_34 : decode cX7_skiByText 34 = .ok (.aload_n 3, 1) := by decide +kernel
theorem dX7_skiByText_35 : decode cX7_skiByText 35 = .ok (.aload 4, 2) := by decide +kernel
theorem dX7_skiByText_37 : decode cX7_skiByText 37 = .ok (.invokevirtual 277, 3) := by decide +kernel
theorem dX7_skiByText_40 : decode cX7_skiByText 40 = .ok (.istore 5, 2) := by decide +kernel
theorem dX7_skiByText_42 : decode cX7_skiByText 42 = .ok (.iload 5, 2) := by decide +kernel
theorem dX7_skiByText_44 : decode cX7_skiByText 44 = .ok (.ifCond .eq 6, 3) := by decide +kernel
theorem dX7_skiByText_47 : decode cX7_skiByText 47 = .ok (.iload 5, 2) := by decide +kernel
theorem dX7_skiByText_49 : decode cX7_skiByText 49 = .ok (.ireturn, 1) := by decide +kernel
theorem dX7_skiByText_50 : decode cX7_skiByText 50 = .ok (.aload_n 0, 1) := by decide +kernel
theorem dX7_skiByText_51 : decode cX7_skiByText 51 = .ok (.getfield 12, 3) := by decide +kernel
theorem dX7_skiByText_54 : decode cX7_skiByText 54 = .ok (.aload_n 3, 1) := by decide +kernel
theorem dX7_skiByText_55 : decode cX7_skiByText 55 = .ok (.aload 4, 2) := by decide +kernel
theorem dX7_skiByText_57 : decode cX7_skiByText 57 = .ok (.iload_n 2, 1) := by decide +kernel
theorem dX7_skiByText_58 : decode cX7_skiByText 58 = .ok (.invokevirtual 281, 3) := by decide +kernel
theorem dX7_skiByText_61 : decode cX7_skiByText 61 = .ok (.pop, 1) := by decide +kernel
theorem dX7_skiByText_62 : decode cX7_skiByText 62 = .ok (.iconst 0, 1) := by decide +kernel
theorem dX7_skiByText_63 : decode cX7_skiByText 63 = .ok (.ireturn, 1) := by decide +kernel
theorem dX8_init_0 : decode cX8_init 0 = .ok (.aload_n 0, 1) := by decide +kernel
theorem dX8_init_1 : decode cX8_init 1 = .ok (.invokespecial 1, 3) := by decide +kernel
theorem dX8_init_4 : decode cX8_init 4 = .ok (.aload_n 0, 1) := by decide +kernel
theorem dX8_init_5 : decode cX8_init 5 = .ok (.sipush 372, 3) := by decide +kernel
theorem dX8_init_8 : decode cX8_init 8 = .ok (.newarray .int, 2) := by decide +kernel
theorem dX8_init_10 : decode cX8_init 10 = .ok (.putfield 9, 3) := by decide +kernel
theorem dX8_init_13 : decode cX8_init 13 = .ok (.aload_n 0, 1) := by decide +kernel
theorem dX8_init_14 : decode cX8_init 14 = .ok (.sipush 372, 3) := by decide +kernel
theorem dX8_init_17 : decode cX8_init 17 = .ok (.newarray .int, 2) := by decide +kernel
theorem dX8_init_19 : decode cX8_init 19 = .ok (.putfield 13, 3) := by decide +kernel
theorem dX8_init_22 : decode cX8_init 22 = .ok (.aload_n 0, 1) := by decide +kernel
theorem dX8_init_23 : decode cX8_init 23 = .ok (.sipush 2976, 3) := by decide +kernel
theorem dX8_init_26 : decode cX8_init 26 = .ok (.newarray .int, 2) := by decide +kernel
theorem dX8_init_28 : decode cX8_init 28 = .ok (.putfield 16, 3) := by decide +kernel
theorem dX8_init_31 : decode cX8_init 31 = .ok (.aload_n 0, 1) := by decide +kernel
theorem dX8_init_32 : decode cX8_init 32 = .ok (.sipush 372, 3) := by decide +kernel
theorem dX8_init_35 : decode cX8_init 35 = .ok (.newarray .int, 2) := by decide +kernel
theorem dX8_init_37 : decode cX8_init 37 = .ok (.putfield 19, 3) := by decide +kernel
theorem dX8_init_40 : decode cX8_init 40 = .ok (.aload_n 0, 1) := by decide +kernel
theorem dX8_init_41 : decode cX8_init 41 = .ok (.bipush 8, 2) := by decide +kernel
theorem dX8_init_43 : decode cX8_init 43 = .ok (.newarray .int, 2) := by decide +kernel
theorem dX8_init_45 : decode cX8_init 45 = .ok (.putfield 22, 3) := by decide +kernel
theorem dX8_init_48 : decode cX8_init 48 = .ok (.aload_n 0, 1) := by decide +kernel
theorem dX8_init_49 : decode cX8_init 49 = .ok (.bipush 60, 2) := by decide +kernel
theorem dX8_init_51 : decode cX8_init 51 = .ok (.newarray .int, 2) := by decide +kernel
theorem dX8_init_53 : decode cX8_init 53 = .ok (.putfield 25, 3) := by decide +kernel
theorem dX8_init_56 : decode cX8_init 56 = .ok (.aload_n 0, 1) := by decide +kernel
theorem dX8_init_57 : decode cX8_init 57 = .ok (.bipush 60, 2) := by decide +kernel
theorem dX8_init_59 : decode cX8_init 59 = .ok (.newarray .int, 2) := by decide +kernel
theorem dX8_init_61 : decode cX8_init 61 = .ok (.putfield 28, 3) := by decide +kernel
theorem dX8_init_64 : decode cX8_init 64 = .ok (.aload_n 0, 1) := by decide +kernel
theorem dX8_init_65 : decode cX8_init 65 = .ok (.bipush 60, 2) := by decide +kernel
theorem dX8_init_67 : decode cX8_init 67 = .ok (.newarray .int, 2) := by decide +kernel
theorem dX8_init_69 : decode cX8_init 69 = .ok (.putfield 31, 3) := by decide +kernel
theorem dX8_init_72 : decode cX8_init 72 = .ok (.aload_n 0, 1) := by decide +kernel
theorem dX8_init_73 : decode cX8_init 73 = .ok (.bipush 60, 2) := by decide +kernel
theorem dX8_init_75 : decode cX8_init 75 = .ok (.newarray .int, 2) := by decide +kernel
theorem dX8_init_77 : decode cX8_init 77 = .ok (.putfield 34, 3) := by decide +kernel
theorem dX8_init_80 : decode cX8_init 80 = .ok (.aload_n 0, 1) := by decide +kernel
theorem dX8_init_81 : decode cX8_init 81 = .ok (.iconst 0, 1) := by decide +kernel
theorem dX8_init_82 : decode cX8_init 82 = .ok (.putfield 37, 3) := by decide +kernel
theorem dX8_init_85 : decode cX8_init 85 = .ok (.return_, 1) := by decide +kernel
theorem dX8_thrown_0 : decode cX8_thrown 0 = .ok (.aload_n 0, 1) := by decide +kernel
theorem dX8_thrown_1 : decode cX8_thrown 1 = .ok (.getfield 41, 3) := by decide +kernel
theorem dX8_thrown_4 : decode cX8_thrown 4 = .ok (.ireturn, 1) := by decide +kernel
theorem dX8_in_0 : decode cX8_in 0 = .ok (.iload_n 0, 1) := by decide +kernel
theorem dX8_in_1 : decode cX8_in 1 = .ok (.iload_n 1, 1) := by decide +kernel
theorem dX8_in_2 : decode cX8_in 2 = .ok (.if_icmp .lt 12, 3) := by decide +kernel
theorem dX8_in_5 : decode cX8_in 5 = .ok (.iload_n 0, 1) := by decide +kernel
theorem dX8_in_6 : decode cX8_in 6 = .ok (.iload_n 2, 1) := by decide +kernel
theorem dX8_in_7 : decode cX8_in 7 = .ok (.if_icmp .gt 7, 3) := by decide +kernel
theorem dX8_in_10 : decode cX8_in 10 = .ok (.iconst 1, 1) := by decide +kernel
theorem dX8_in_11 : decode cX8_in 11 = .ok (.goto 4, 3) := by decide +kernel
theorem dX8_in_14 : decode cX8_in 14 = .ok (.iconst 0, 1) := by decide +kernel
theorem dX8_in_15 : decode cX8_in 15 = .ok (.ireturn, 1) := by decide +kernel
theorem dX8_refuse_0 : decode cX8_refuse 0 = .ok (.aload_n 0, 1) := by decide +kernel
theorem dX8_refuse_1 : decode cX8_refuse 1 = .ok (.iload_n 1, 1) := by decide +kernel
theorem dX8_refuse_2 : decode cX8_refuse 2 = .ok (.putfield 41, 3) := by decide +kernel
theorem dX8_refuse_5 : decode cX8_refuse 5 = .ok (.iconst 0, 1) := by decide +kernel
theorem dX8_refuse_6 : decode cX8_refuse 6 = .ok (.ireturn, 1) := by decide +kernel
theorem dX8_keep_0 : decode cX8_keep 0 = .ok (.aload_n 0, 1) := by decide +kernel
theorem dX8_keep_1 : decode cX8_keep 1 = .ok (.getfield 44, 3) := by decide +kernel
theorem dX8_keep_4 : decode cX8_keep 4 = .ok (.bipush 8, 2) := by decide +kernel
theorem dX8_keep_6 : decode cX8_keep 6 = .ok (.if_icmp .ne 44, 3) := by decide +kernel
theorem dX8_keep_9 : decode cX8_keep 9 = .ok (.iconst 0, 1) := by decide +kernel
theorem dX8_keep_10 : decode cX8_keep 10 = .ok (.istore_n 1, 1) := by decide +kernel
theorem dX8_keep_11 : decode cX8_keep 11 = .ok (.iload_n 1, 1) := by decide +kernel
theorem dX8_keep_12 : decode cX8_keep 12 = .ok (.sipush 2604, 3) := by decide +kernel
theorem dX8_keep_15 : decode cX8_keep 15 = .ok (.if_icmp .ge 25, 3) := by decide +kernel
theorem dX8_keep_18 : decode cX8_keep 18 = .ok (.aload_n 0, 1) := by decide +kernel
theorem dX8_keep_19 : decode cX8_keep 19 = .ok (.getfield 16, 3) := by decide +kernel
theorem dX8_keep_22 : decode cX8_keep 22 = .ok (.iload_n 1, 1) := by decide +kernel
theorem dX8_keep_23 : decode cX8_keep 23 = .ok (.aload_n 0, 1) := by decide +kernel
theorem dX8_keep_24 : decode cX8_keep 24 = .ok (.getfield 16, 3) := by decide +kernel
theorem dX8_keep_27 : decode cX8_keep 27 = .ok (.iload_n 1, 1) := by decide +kernel
theorem dX8_keep_28 : decode cX8_keep 28 = .ok (.sipush 372, 3) := by decide +kernel
theorem dX8_keep_31 : decode cX8_keep 31 = .ok (.iadd, 1) := by decide +kernel
theorem dX8_keep_32 : decode cX8_keep 32 = .ok (.iaload, 1) := by decide +kernel
theorem dX8_keep_33 : decode cX8_keep 33 = .ok (.iastore, 1) := by decide +kernel
theorem dX8_keep_34 : decode cX8_keep 34 = .ok (.iinc 1 1, 3) := by decide +kernel
theorem dX8_keep_37 : decode cX8_keep 37 = .ok (.goto (-26), 3) := by decide +kernel
theorem dX8_keep_40 : decode cX8_keep 40 = .ok (.aload_n 0, 1) := by decide +kernel
theorem dX8_keep_41 : decode cX8_keep 41 = .ok (.dup, 1) := by decide +kernel
theorem dX8_keep_42 : decode cX8_keep 42 = .ok (.getfield 44, 3) := by decide +kernel
theorem dX8_keep_45 : decode cX8_keep 45 = .ok (.iconst 1, 1) := by decide +kernel
theorem dX8_keep_46 : decode cX8_keep 46 = .ok (.isub, 1) := by decide +kernel
theorem dX8_keep_47 : decode cX8_keep 47 = .ok (.putfield 44, 3) := by decide +kernel
theorem dX8_keep_50 : decode cX8_keep 50 = .ok (.iconst 0, 1) := by decide +kernel
theorem dX8_keep_51 : decode cX8_keep 51 = .ok (.istore_n 1, 1) := by decide +kernel
theorem dX8_keep_52 : decode cX8_keep 52 = .ok (.iload_n 1, 1) := by decide +kernel
theorem dX8_keep_53 : decode cX8_keep 53 = .ok (.sipush 372, 3) := by decide +kernel
theorem dX8_keep_56 : decode cX8_keep 56 = .ok (.if_icmp .ge 30, 3) := by decide +kernel
theorem dX8_keep_59 : decode cX8_keep 59 = .ok (.aload_n 0, 1) := by decide +kernel
theorem dX8_keep_60 : decode cX8_keep 60 = .ok (.getfield 16, 3) := by decide +kernel
theorem dX8_keep_63 : decode cX8_keep 63 = .ok (.sipush 372, 3) := by decide +kernel
theorem dX8_keep_66 : decode cX8_keep 66 = .ok (.aload_n 0, 1) := by decide +kernel
theorem dX8_keep_67 : decode cX8_keep 67 = .ok (.getfield 44, 3) := by decide +kernel
theorem dX8_keep_70 : decode cX8_keep 70 = .ok (.imul, 1) := by decide +kernel
theorem dX8_keep_71 : decode cX8_keep 71 = .ok (.iload_n 1, 1) := by decide +kernel
theorem dX8_keep_72 : decode cX8_keep 72 = .ok (.iadd, 1) := by decide +kernel
theorem dX8_keep_73 : decode cX8_keep 73 = .ok (.aload_n 0, 1) := by decide +kernel
theorem dX8_keep_74 : decode cX8_keep 74 = .ok (.getfield 9, 3) := by decide +kernel
theorem dX8_keep_77 : decode cX8_keep 77 = .ok (.iload_n 1, 1) := by decide +kernel
theorem dX8_keep_78 : decode cX8_keep 78 = .ok (.iaload, 1) := by decide +kernel
theorem dX8_keep_79 : decode cX8_keep 79 = .ok (.iastore, 1) := by decide +kernel
theorem dX8_keep_80 : decode cX8_keep 80 = .ok (.iinc 1 1, 3) := by decide +kernel
theorem dX8_keep_83 : decode cX8_keep 83 = .ok (.goto (-31), 3) := by decide +kernel
theorem dX8_keep_86 : decode cX8_keep 86 = .ok (.aload_n 0, 1) := by decide +kernel
theorem dX8_keep_87 : decode cX8_keep 87 = .ok (.dup, 1) := by decide +kernel
theorem dX8_keep_88 : decode cX8_keep 88 = .ok (.getfield 44, 3) := by decide +kernel
theorem dX8_keep_91 : decode cX8_keep 91 = .ok (.iconst 1, 1) := by decide +kernel
theorem dX8_keep_92 : decode cX8_keep 92 = .ok (.iadd, 1) := by decide +kernel
theorem dX8_keep_93 : decode cX8_keep 93 = .ok (.putfield 44, 3) := by decide +kernel
theorem dX8_keep_96 : decode cX8_keep 96 = .ok (.return_, 1) := by decide +kernel
theorem dX8_lift0_0 : decode cX8_lift0 0 = .ok (.bipush 6, 2) := by decide +kernel
theorem dX8_lift0_2 : decode cX8_lift0 2 = .ok (.bipush 21, 2) := by decide +kernel
theorem dX8_lift0_4 : decode cX8_lift0 4 = .ok (.iload_n 0, 1) := by decide +kernel
theorem dX8_lift0_5 : decode cX8_lift0 5 = .ok (.imul, 1) := by decide +kernel
theorem dX8_lift0_6 : decode cX8_lift0 6 = .ok (.iadd, 1) := by decide +kernel
theorem dX8_lift0_7 : decode cX8_lift0 7 = .ok (.ireturn, 1) := by decide +kernel
theorem dX8_piste0_0 : decode cX8_piste0 0 = .ok (.sipush 132, 3) := by decide +kernel
theorem dX8_piste0_3 : decode cX8_piste0 3 = .ok (.bipush 8, 2) := by decide +kernel
theorem dX8_piste0_5 : decode cX8_piste0 5 = .ok (.iload_n 0, 1) := by decide +kernel
theorem dX8_piste0_6 : decode cX8_piste0 6 = .ok (.imul, 1) := by decide +kernel
theorem dX8_piste0_7 : decode cX8_piste0 7 = .ok (.iadd, 1) := by decide +kernel
theorem dX8_piste0_8 : decode cX8_piste0 8 = .ok (.ireturn, 1) := by decide +kernel
theorem dX8_guest0_0 : decode cX8_guest0 0 = .ok (.sipush 212, 3) := by decide +kernel
theorem dX8_guest0_3 : decode cX8_guest0 3 = .ok (.bipush 10, 2) := by decide +kernel
theorem dX8_guest0_5 : decode cX8_guest0 5 = .ok (.iload_n 0, 1) := by decide +kernel
theorem dX8_guest0_6 : decode cX8_guest0 6 = .ok (.imul, 1) := by decide +kernel
theorem dX8_guest0_7 : decode cX8_guest0 7 = .ok (.iadd, 1) := by decide +kernel
theorem dX8_guest0_8 : decode cX8_guest0 8 = .ok (.ireturn, 1) := by decide +kernel
theorem dX8_isLift_0 : decode cX8_isLift 0 = .ok (.iload_n 1, 1) := by decide +kernel
theorem dX8_isLift_1 : decode cX8_isLift 1 = .ok (.iconst 0, 1) := by decide +kernel
theorem dX8_isLift_2 : decode cX8_isLift 2 = .ok (.aload_n 0, 1) := by decide +kernel
theorem dX8_isLift_3 : decode cX8_isLift 3 = .ok (.getfield 9, 3) := by decide +kernel
theorem dX8_isLift_6 : decode cX8_isLift 6 = .ok (.iconst 3, 1) := by decide +kernel
theorem dX8_isLift_7 : decode cX8_isLift 7 = .ok (.iaload, 1) := by decide +kernel
theorem dX8_isLift_8 : decode cX8_isLift 8 = .ok (.iconst 1, 1) := by decide +kernel
theorem dX8_isLift_9 : decode cX8_isLift 9 = .ok (.isub, 1) := by decide +kernel
theorem dX8_isLift_10 : decode cX8_isLift 10 = .ok (.invokestatic 47, 3) := by decide +kernel
theorem dX8_isLift_13 : decode cX8_isLift 13 = .ok (.ireturn, 1) := by decide +kernel
theorem dX8_isPiste_0 : decode cX8_isPiste 0 = .ok (.iload_n 1, 1) := by decide +kernel
theorem dX8_isPiste_1 : decode cX8_isPiste 1 = .ok (.iconst 0, 1) := by decide +kernel
theorem dX8_isPiste_2 : decode cX8_isPiste 2 = .ok (.aload_n 0, 1) := by decide +kernel
theorem dX8_isPiste_3 : decode cX8_isPiste 3 = .ok (.getfield 9, 3) := by decide +kernel
theorem dX8_isPiste_6 : decode cX8_isPiste 6 = .ok (.iconst 4, 1) := by decide +kernel
theorem dX8_isPiste_7 : decode cX8_isPiste 7 = .ok (.iaload, 1) := by decide +kernel
theorem dX8_isPiste_8 : decode cX8_isPiste 8 = .ok (.iconst 1, 1) := by decide +kernel
theorem dX8_isPiste_9 : decode cX8_isPiste 9 = .ok (.isub, 1) := by decide +kernel
theorem dX8_isPiste_10 : decode cX8_isPiste 10 = .ok (.invokestatic 47, 3) := by decide +kernel
theorem dX8_isPiste_13 : decode cX8_isPiste 13 = .ok (.ireturn, 1) := by decide +kernel
theorem dX8_isGuest_0 : decode cX8_isGuest 0 = .ok (.iload_n 1, 1) := by decide +kernel
theorem dX8_isGuest_1 : decode cX8_isGuest 1 = .ok (.iconst 0, 1) := by decide +kernel
theorem dX8_isGuest_2 : decode cX8_isGuest 2 = .ok (.aload_n 0, 1) := by decide +kernel
theorem dX8_isGuest_3 : decode cX8_isGuest 3 = .ok (.getfield 9, 3) := by decide +kernel
theorem dX8_isGuest_6 : decode cX8_isGuest 6 = .ok (.iconst 5, 1) := by decide +kernel
theorem dX8_isGuest_7 : decode cX8_isGuest 7 = .ok (.iaload, 1) := by decide +kernel
theorem dX8_isGuest_8 : decode cX8_isGuest 8 = .ok (.iconst 1, 1) := by decide +kernel
theorem dX8_isGuest_9 : decode cX8_isGuest 9 = .ok (.isub, 1) := by decide +kernel
theorem dX8_isGuest_10 : decode cX8_isGuest 10 = .ok (.invokestatic 47, 3) := by decide +kernel
theorem dX8_isGuest_13 : decode cX8_isGuest 13 = .ok (.ireturn, 1) := by decide +kernel
theorem dX8_isStation_0 : decode cX8_isStation 0 = .ok (.iload_n 0, 1) := by decide +kernel
theorem dX8_isStation_1 : decode cX8_isStation 1 = .ok (.iconst 0, 1) := by decide +kernel
theorem dX8_isStation_2 : decode cX8_isStation 2 = .ok (.bipush 7, 2) := by decide +kernel
theorem dX8_isStation_4 : decode cX8_isStation 4 = .ok (.invokestatic 47, 3) := by decide +kernel
theorem dX8_isStation_7 : decode cX8_isStation 7 = .ok (.ireturn, 1) := by decide +kernel
theorem dX8_stateOf_0 : decode cX8_stateOf 0 = .ok (.aload_n 0, 1) := by decide +kernel
theorem dX8_stateOf_1 : decode cX8_stateOf 1 = .ok (.getfield 9, 3) := by decide +kernel
theorem dX8_stateOf_4 : decode cX8_stateOf 4 = .ok (.iconst 0, 1) := by decide +kernel
theorem dX8_stateOf_5 : decode cX8_stateOf 5 = .ok (.iaload, 1) := by decide +kernel
theorem dX8_stateOf_6 : decode cX8_stateOf 6 = .ok (.aload_n 0, 1) := by decide +kernel
theorem dX8_stateOf_7 : decode cX8_stateOf 7 = .ok (.getfield 9, 3) := by decide +kernel
theorem dX8_stateOf_10 : decode cX8_stateOf 10 = .ok (.iload_n 1, 1) := by decide +kernel
theorem dX8_stateOf_11 : decode cX8_stateOf 11 = .ok (.invokestatic 51, 3) := by decide +kernel
theorem dX8_stateOf_14 : decode cX8_stateOf 14 = .ok (.bipush 6, 2) := by decide +kernel
theorem dX8_stateOf_16 : decode cX8_stateOf 16 = .ok (.iadd, 1) := by decide +kernel
theorem dX8_stateOf_17 : decode cX8_stateOf 17 = .ok (.iaload, 1) := by decide +kernel
theorem dX8_stateOf_18 : decode cX8_stateOf 18 = .ok (.iadd, 1) := by decide +kernel
theorem dX8_stateOf_19 : decode cX8_stateOf 19 = .ok (.istore_n 2, 1) := by decide +kernel
theorem dX8_stateOf_20 : decode cX8_stateOf 20 = .ok (.iload_n 2, 1) := by decide +kernel
theorem dX8_stateOf_21 : decode cX8_stateOf 21 = .ok (.bipush 6, 2) := by decide +kernel
theorem dX8_stateOf_23 : decode cX8_stateOf 23 = .ok (.if_icmp .ge 7, 3) := by decide +kernel
theorem dX8_stateOf_26 : decode cX8_stateOf 26 = .ok (.iconst 0, 1) := by decide +kernel
theorem dX8_stateOf_27 : decode cX8_stateOf 27 = .ok (.goto 14, 3) := by decide +kernel
theorem dX8_stateOf_30 : decode cX8_stateOf 30 = .ok (.iload_n 2, 1) := by decide +kernel
theorem dX8_stateOf_31 : decode cX8_stateOf 31 = .ok (.bipush 9, 2) := by decide +kernel
theorem dX8_stateOf_33 : decode cX8_stateOf 33 = .ok (.if_icmp .ge 7, 3) := by decide +kernel
theorem dX8_stateOf_36 : decode cX8_stateOf 36 = .ok (.iconst 1, 1) := by decide +kernel
theorem dX8_stateOf_37 : decode cX8_stateOf 37 = .ok (.goto 4, 3) := by decide +kernel
theorem dX8_stateOf_40 : decode cX8_stateOf 40 = .ok (.iconst 2, 1) := by decide +kernel
theorem dX8_stateOf_41 : decode cX8_stateOf 41 = .ok (.ireturn, 1) := by decide +kernel
theorem dX8_stepOf_0 : decode cX8_stepOf 0 = .ok (.iconst 2, 1) := by decide +kernel
theorem dX8_stepOf_1 : decode cX8_stepOf 1 = .ok (.aload_n 0, 1) := by decide +kernel
theorem dX8_stepOf_2 : decode cX8_stepOf 2 = .ok (.iload_n 1, 1) := by decide +kernel
theorem dX8_stepOf_3 : decode cX8_stepOf 3 = .ok (.invokevirtual 55, 3) := by decide +kernel
theorem dX8_stepOf_6 : decode cX8_stepOf 6 = .ok (.isub, 1) := by decide +kernel
theorem dX8_stepOf_7 : decode cX8_stepOf 7 = .ok (.ireturn, 1) := by decide +kernel
theorem dX8_clear_0 : decode cX8_clear 0 = .ok (.aload_n 0, 1) := by decide +kernel
theorem dX8_clear_1 : decode cX8_clear 1 = .ok (.iconst 0, 1) := by decide +kernel
theorem dX8_clear_2 : decode cX8_clear 2 = .ok (.putfield 41, 3) := by decide +kernel
theorem dX8_clear_5 : decode cX8_clear 5 = .ok (.aload_n 0, 1) := by decide +kernel
theorem dX8_clear_6 : decode cX8_clear 6 = .ok (.getfield 9, 3) := by decide +kernel
theorem dX8_clear_9 : decode cX8_clear 9 = .ok (.iconst 5, 1) := by decide +kernel
theorem dX8_clear_10 : decode cX8_clear 10 = .ok (.iaload, 1) := by decide +kernel
theorem dX8_clear_11 : decode cX8_clear 11 = .ok (.istore_n 1, 1) := by decide +kernel
theorem dX8_clear_12 : decode cX8_clear 12 = .ok (.iconst 0, 1) := by decide +kernel
theorem dX8_clear_13 : decode cX8_clear 13 = .ok (.istore_n 2, 1) := by decide +kernel
theorem dX8_clear_14 : decode cX8_clear 14 = .ok (.iload_n 2, 1) := by decide +kernel
theorem dX8_clear_15 : decode cX8_clear 15 = .ok (.sipush 372, 3) := by decide +kernel
theorem dX8_clear_18 : decode cX8_clear 18 = .ok (.if_icmp .ge 16, 3) := by decide +kernel
theorem dX8_clear_21 : decode cX8_clear 21 = .ok (.aload_n 0, 1) := by decide +kernel
theorem dX8_clear_22 : decode cX8_clear 22 = .ok (.getfield 9, 3) := by decide +kernel
theorem dX8_clear_25 : decode cX8_clear 25 = .ok (.iload_n 2, 1) := by decide +kernel
theorem dX8_clear_26 : decode cX8_clear 26 = .ok (.iconst 0, 1) := by decide +kernel
theorem dX8_clear_27 : decode cX8_clear 27 = .ok (.iastore, 1) := by decide +kernel
theorem dX8_clear_28 : decode cX8_clear 28 = .ok (.iinc 2 1, 3) := by decide +kernel
theorem dX8_clear_31 : decode cX8_clear 31 = .ok (.goto (-17), 3) := by decide +kernel
theorem dX8_clear_34 : decode cX8_clear 34 = .ok (.aload_n 0, 1) := by decide +kernel
theorem dX8_clear_35 : decode cX8_clear 35 = .ok (.iconst 0, 1) := by decide +kernel
theorem dX8_clear_36 : decode cX8_clear 36 = .ok (.putfield 44, 3) := by decide +kernel
theorem dX8_clear_39 : decode cX8_clear 39 = .ok (.iload_n 1, 1) := by decide +kernel
theorem dX8_clear_40 : decode cX8_clear 40 = .ok (.ireturn, 1) := by decide +kernel
theorem dX8_addLift_0 : decode cX8_addLift 0 = .ok (.aload_n 0, 1) := by decide +kernel
theorem dX8_addLift_1 : decode cX8_addLift 1 = .ok (.iconst 0, 1) := by decide +kernel
theorem dX8_addLift_2 : decode cX8_addLift 2 = .ok (.putfield 41, 3) := by decide +kernel
theorem dX8_addLift_5 : decode cX8_addLift 5 = .ok (.iload_n 1, 1) := by decide +kernel
theorem dX8_addLift_6 : decode cX8_addLift 6 = .ok (.invokestatic 58, 3) := by decide +kernel
theorem dX8_addLift_9 : decode cX8_addLift 9 = .ok (.ifCond .eq 10, 3) := by decide +kernel
theorem dX8_addLift_12 : decode cX8_addLift 12 = .ok (.iload_n 2, 1) := by decide +kernel
theorem dX8_addLift_13 : decode cX8_addLift 13 = .ok (.invokestatic 58, 3) := by decide +kernel
theorem dX8_addLift_16 : decode cX8_addLift 16 = .ok (.ifCond .ne 9, 3) := by decide +kernel
theorem dX8_addLift_19 : decode cX8_addLift 19 = .ok (.aload_n 0, 1) := by decide +kernel
theorem dX8_addLift_20 : decode cX8_addLift 20 = .ok (.iconst 1, 1) := by decide +kernel
theorem dX8_addLift_21 : decode cX8_addLift 21 = .ok (.invokevirtual 62, 3) := by decide +kernel
theorem dX8_addLift_24 : decode cX8_addLift 24 = .ok (.ireturn, 1) := by decide +kernel
theorem dX8_addLift_25 : decode cX8_addLift 25 = .ok (.iload_n 1, 1) := by decide +kernel
theorem dX8_addLift_26 : decode cX8_addLift 26 = .ok (.iload_n 2, 1) := by decide +kernel
theorem dX8_addLift_27 : decode cX8_addLift 27 = .ok (.if_icmp .eq 38, 3) := by decide +kernel
theorem dX8_addLift_30 : decode cX8_addLift 30 = .ok (.iload_n 3, 1) := by decide +kernel
theorem dX8_addLift_31 : decode cX8_addLift 31 = .ok (.iconst 0, 1) := by decide +kernel
theorem dX8_addLift_32 : decode cX8_addLift 32 = .ok (.iconst 3, 1) := by decide +kernel
theorem dX8_addLift_33 : decode cX8_addLift 33 = .ok (.invokestatic 47, 3) := by decide +kernel
theorem dX8_addLift_36 : decode cX8_addLift 36 = .ok (.ifCond .eq 29, 3) := by decide +kernel
theorem dX8_addLift_39 : decode cX8_addLift 39 = .ok (.iload 4, 2) := by decide +kernel
theorem dX8_addLift_41 : decode cX8_addLift 41 = .ok (.iconst 1, 1) := by decide +kernel
theorem dX8_addLift_42 : decode cX8_addLift 42 = .ok (.bipush 6, 2) := by decide +kernel
theorem dX8_addLift_44 : decode cX8_addLift 44 = .ok (.invokestatic 47, 3) := by decide +kernel
theorem dX8_addLift_47 : decode cX8_addLift 47 = .ok (.ifCond .eq 18, 3) := by decide +kernel
theorem dX8_addLift_50 : decode cX8_addLift 50 = .ok (.iload 5, 2) := by decide +kernel
theorem dX8_addLift_52 : decode cX8_addLift 52 = .ok (.iconst 1, 1) := by decide +kernel
theorem dX8_addLift_53 : decode cX8_addLift 53 = .ok (.bipush 8, 2) := by decide +kernel
theorem dX8_addLift_55 : decode cX8_addLift 55 = .ok (.invokestatic 47, 3) := by decide +kernel
theorem dX8_addLift_58 : decode cX8_addLift 58 = .ok (.ifCond .eq 7, 3) := by decide +kernel
theorem dX8_addLift_61 : decode cX8_addLift 61 = .ok (.iconst 1, 1) := by decide +kernel
theorem dX8_addLift_62 : decode cX8_addLift 62 = .ok (.goto 4, 3) := by decide +kernel
theorem dX8_addLift_65 : decode cX8_addLift 65 = .ok (.iconst 0, 1) := by decide +kernel
theorem dX8_addLift_66 : decode cX8_addLift 66 = .ok (.istore 7, 2) := by decide +kernel
theorem dX8_addLift_68 : decode cX8_addLift 68 = .ok (.iload 7, 2) := by decide +kernel
theorem dX8_addLift_70 : decode cX8_addLift 70 = .ok (.ifCond .eq 24, 3) := by decide +kernel
theorem dX8_addLift_73 : decode cX8_addLift 73 = .ok (.iload 6, 2) := by decide +kernel
theorem dX8_addLift_75 : decode cX8_addLift 75 = .ok (.bipush 10, 2) := by decide +kernel
theorem dX8_addLift_77 : decode cX8_addLift 77 = .ok (.bipush 99, 2) := by decide +kernel
theorem dX8_addLift_79 : decode cX8_addLift 79 = .ok (.invokestatic 47, 3) := by decide +kernel
theorem dX8_addLift_82 : decode cX8_addLift 82 = .ok (.ifCond .eq 12, 3) := by decide +kernel
theorem dX8_addLift_85 : decode cX8_addLift 85 = .ok (.iload 6, 2) := by decide +kernel
theorem dX8_addLift_87 : decode cX8_addLift 87 = .ok (.bipush 10, 2) := by decide +kernel
theorem dX8_addLift_89 : decode cX8_addLift 89 = .ok (.irem, 1) := by decide +kernel
theorem dX8_addLift_90 : decode cX8_addLift 90 = .ok (.iconst 3, 1) := by decide +kernel
theorem dX8_addLift_91 : decode cX8_addLift 91 = .ok (.if_icmp .le 9, 3) := by decide +kernel
theorem dX8_addLift_94 : decode cX8_addLift 94 = .ok (.aload_n 0, 1) := by decide +kernel
theorem dX8_addLift_95 : decode cX8_addLift 95 = .ok (.iconst 2, 1) := by decide +kernel
theorem dX8_addLift_96 : decode cX8_addLift 96 = .ok (.invokevirtual 62, 3) := by decide +kernel
theorem dX8_addLift_99 : decode cX8_addLift 99 = .ok (.ireturn, 1) := by decide +kernel
theorem dX8_addLift_100 : decode cX8_addLift 100 = .ok (.aload_n 0, 1) := by decide +kernel
theorem dX8_addLift_101 : decode cX8_addLift 101 = .ok (.getfield 9, 3) := by decide +kernel
theorem dX8_addLift_104 : decode cX8_addLift 104 = .ok (.iconst 3, 1) := by decide +kernel
theorem dX8_addLift_105 : decode cX8_addLift 105 = .ok (.iaload, 1) := by decide +kernel
theorem dX8_addLift_106 : decode cX8_addLift 106 = .ok (.bipush 6, 2) := by decide +kernel
theorem dX8_addLift_108 : decode cX8_addLift 108 = .ok (.if_icmp .ne 9, 3) := by decide +kernel
theorem dX8_addLift_111 : decode cX8_addLift 111 = .ok (.aload_n 0, 1) := by decide +kernel
theorem dX8_addLift_112 : decode cX8_addLift 112 = .ok (.iconst 3, 1) := by decide +kernel
theorem dX8_addLift_113 : decode cX8_addLift 113 = .ok (.invokevirtual 62, 3) := by decide +kernel
theorem dX8_addLift_116 : decode cX8_addLift 116 = .ok (.ireturn, 1) := by decide +kernel
theorem dX8_addLift_117 : decode cX8_addLift 117 = .ok (.aload_n 0, 1) := by decide +kernel
theorem dX8_addLift_118 : decode cX8_addLift 118 = .ok (.invokevirtual 65, 3) := by decide +kernel
theorem dX8_addLift_121 : decode cX8_addLift 121 = .ok (.aload_n 0, 1) := by decide +kernel
theorem dX8_addLift_122 : decode cX8_addLift 122 = .ok (.getfield 9, 3) := by decide +kernel
theorem dX8_addLift_125 : decode cX8_addLift 125 = .ok (.iconst 3, 1) := by decide +kernel
theorem dX8_addLift_126 : decode cX8_addLift 126 = .ok (.iaload, 1) := by decide +kernel
theorem dX8_addLift_127 : decode cX8_addLift 127 = .ok (.invokestatic 51, 3) := by decide +kernel
theorem dX8_addLift_130 : decode cX8_addLift 130 = .ok (.istore 8, 2) := by decide +kernel
theorem dX8_addLift_132 : decode cX8_addLift 132 = .ok (.iconst 0, 1) := by decide +kernel
theorem dX8_addLift_133 : decode cX8_addLift 133 = .ok (.istore 9, 2) := by decide +kernel
theorem dX8_addLift_135 : decode cX8_addLift 135 = .ok (.iload 9, 2) := by decide +kernel
theorem dX8_addLift_137 : decode cX8_addLift 137 = .ok (.bipush 21, 2) := by decide +kernel
theorem dX8_addLift_139 : decode cX8_addLift 139 = .ok (.if_icmp .ge 20, 3) := by decide +kernel
theorem dX8_addLift_142 : decode cX8_addLift 142 = .ok (.aload_n 0, 1) := by decide +kernel
theorem dX8_addLift_143 : decode cX8_addLift 143 = .ok (.getfield 9, 3) := by decide +kernel
theorem dX8_addLift_146 : decode cX8_addLift 146 = .ok (.iload 8, 2) := by decide +kernel
theorem dX8_addLift_148 : decode cX8_addLift 148 = .ok (.iload 9, 2) := by decide +kernel
theorem dX8_addLift_150 : decode cX8_addLift 150 = .ok (.iadd, 1) := by decide +kernel
theorem dX8_addLift_151 : decode cX8_addLift 151 = .ok (.iconst 0, 1) := by decide +kernel
theorem dX8_addLift_152 : decode cX8_addLift 152 = .ok (.iastore, 1) := by decide +kernel
theorem dX8_addLift_153 : decode cX8_addLift 153 = .ok (.iinc 9 1, 3) := by decide +kernel
theorem dX8_addLift_156 : decode cX8_addLift 156 = .ok (.goto (-21), 3) := by decide +kernel
theorem dX8_addLift_159 : decode cX8_addLift 159 = .ok (.aload_n 0, 1) := by decide +kernel
theorem dX8_addLift_160 : decode cX8_addLift 160 = .ok (.getfield 9, 3) := by decide +kernel
theorem dX8_addLift_163 : decode cX8_addLift 163 = .ok (.iload 8, 2) := by decide +kernel
theorem dX8_addLift_165 : decode cX8_addLift 165 = .ok (.iload_n 1, 1) := by decide +kernel
theorem dX8_addLift_166 : decode cX8_addLift 166 = .ok (.iastore, 1) := by decide +kernel
theorem dX8_addLift_167 : decode cX8_addLift 167 = .ok (.aload_n 0, 1) := by decide +kernel
theorem dX8_addLift_168 : decode cX8_addLift 168 = .ok (.getfield 9, 3) := by decide +kernel
theorem dX8_addLift_171 : decode cX8_addLift 171 = .ok (.iload 8, 2) := by decide +kernel
theorem dX8_addLift_173 : decode cX8_addLift 173 = .ok (.iconst 1, 1) := by decide +kernel
theorem dX8_addLift_174 : decode cX8_addLift 174 = .ok (.iadd, 1) := by decide +kernel
theorem dX8_addLift_175 : decode cX8_addLift 175 = .ok (.iload_n 2, 1) := by decide +kernel
theorem dX8_addLift_176 : decode cX8_addLift 176 = .ok (.iastore, 1) := by decide +kernel
theorem dX8_addLift_177 : decode cX8_addLift 177 = .ok (.aload_n 0, 1) := by decide +kernel
theorem dX8_addLift_178 : decode cX8_addLift 178 = .ok (.getfield 9, 3) := by decide +kernel
theorem dX8_addLift_181 : decode cX8_addLift 181 = .ok (.iload 8, 2) := by decide +kernel
theorem dX8_addLift_183 : decode cX8_addLift 183 = .ok (.iconst 2, 1) := by decide +kernel
theorem dX8_addLift_184 : decode cX8_addLift 184 = .ok (.iadd, 1) := by decide +kernel
theorem dX8_addLift_185 : decode cX8_addLift 185 = .ok (.iload_n 3, 1) := by decide +kernel
theorem dX8_addLift_186 : decode cX8_addLift 186 = .ok (.iastore, 1) := by decide +kernel
theorem dX8_addLift_187 : decode cX8_addLift 187 = .ok (.aload_n 0, 1) := by decide +kernel
theorem dX8_addLift_188 : decode cX8_addLift 188 = .ok (.getfield 9, 3) := by decide +kernel
theorem dX8_addLift_191 : decode cX8_addLift 191 = .ok (.iload 8, 2) := by decide +kernel
theorem dX8_addLift_193 : decode cX8_addLift 193 = .ok (.iconst 3, 1) := by decide +kernel
theorem dX8_addLift_194 : decode cX8_addLift 194 = .ok (.iadd, 1) := by decide +kernel
theorem dX8_addLift_195 : decode cX8_addLift 195 = .ok (.iload 4, 2) := by decide +kernel
theorem dX8_addLift_197 : decode cX8_addLift 197 = .ok (.iastore, 1) := by decide +kernel
theorem dX8_addLift_198 : decode cX8_addLift 198 = .ok (.aload_n 0, 1) := by decide +kernel
theorem dX8_addLift_199 : decode cX8_addLift 199 = .ok (.getfield 9, 3) := by decide +kernel
theorem dX8_addLift_202 : decode cX8_addLift 202 = .ok (.iload 8, 2) := by decide +kernel
theorem dX8_addLift_204 : decode cX8_addLift 204 = .ok (.iconst 4, 1) := by decide +kernel
theorem dX8_addLift_205 : decode cX8_addLift 205 = .ok (.iadd, 1) := by decide +kernel
theorem dX8_addLift_206 : decode cX8_addLift 206 = .ok (.iload 5, 2) := by decide +kernel
theorem dX8_addLift_208 : decode cX8_addLift 208 = .ok (.iastore, 1) := by decide +kernel
theorem dX8_addLift_209 : decode cX8_addLift 209 = .ok (.aload_n 0, 1) := by decide +kernel
theorem dX8_addLift_210 : decode cX8_addLift 210 = .ok (.getfield 9, 3) := by decide +kernel
theorem dX8_addLift_213 : decode cX8_addLift 213 = .ok (.iload 8, 2) := by decide +kernel
theorem dX8_addLift_215 : decode cX8_addLift 215 = .ok (.iconst 5, 1) := by decide +kernel
theorem dX8_addLift_216 : decode cX8_addLift 216 = .ok (.iadd, 1) := by decide +kernel
theorem dX8_addLift_217 : decode cX8_addLift 217 = .ok (.iload 6, 2) := by decide +kernel
theorem dX8_addLift_219 : decode cX8_addLift 219 = .ok (.bipush 10, 2) := by decide +kernel
theorem dX8_addLift_221 : decode cX8_addLift 221 = .ok (.idiv, 1) := by decide +kernel
theorem dX8_addLift_222 : decode cX8_addLift 222 = .ok (.iastore, 1) := by decide +kernel
theorem dX8_addLift_223 : decode cX8_addLift 223 = .ok (.aload_n 0, 1) := by decide +kernel
theorem dX8_addLift_224 : decode cX8_addLift 224 = .ok (.getfield 9, 3) := by decide +kernel
theorem dX8_addLift_227 : decode cX8_addLift 227 = .ok (.iload 8, 2) := by decide +kernel
theorem dX8_addLift_229 : decode cX8_addLift 229 = .ok (.bipush 6, 2) := by decide +kernel
theorem dX8_addLift_231 : decode cX8_addLift 231 = .ok (.iadd, 1) := by decide +kernel
theorem dX8_addLift_232 : decode cX8_addLift 232 = .ok (.iload 6, 2) := by decide +kernel
theorem dX8_addLift_234 : decode cX8_addLift 234 = .ok (.bipush 10, 2) := by decide +kernel
theorem dX8_addLift_236 : decode cX8_addLift 236 = .ok (.irem, 1) := by decide +kernel
theorem dX8_addLift_237 : decode cX8_addLift 237 = .ok (.iastore, 1) := by decide +kernel
theorem dX8_addLift_238 : decode cX8_addLift 238 = .ok (.aload_n 0, 1) := by decide +kernel
theorem dX8_addLift_239 : decode cX8_addLift 239 = .ok (.getfield 9, 3) := by decide +kernel
theorem dX8_addLift_242 : decode cX8_addLift 242 = .ok (.iconst 3, 1) := by decide +kernel
theorem dX8_addLift_243 : decode cX8_addLift 243 = .ok (.dup2, 1) := by decide +kernel
theorem dX8_addLift_244 : decode cX8_addLift 244 = .ok (.iaload, 1) := by decide +kernel
theorem dX8_addLift_245 : decode cX8_addLift 245 = .ok (.iconst 1, 1) := by decide +kernel
theorem dX8_addLift_246 : decode cX8_addLift 246 = .ok (.iadd, 1) := by decide +kernel
theorem dX8_addLift_247 : decode cX8_addLift 247 = .ok (.iastore, 1) := by decide +kernel
theorem dX8_addLift_248 : decode cX8_addLift 248 = .ok (.aload_n 0, 1) := by decide +kernel
theorem dX8_addLift_249 : decode cX8_addLift 249 = .ok (.getfield 9, 3) := by decide +kernel
theorem dX8_addLift_252 : decode cX8_addLift 252 = .ok (.iconst 3, 1) := by decide +kernel
theorem dX8_addLift_253 : decode cX8_addLift 253 = .ok (.iaload, 1) := by decide +kernel
theorem dX8_addLift_254 : decode cX8_addLift 254 = .ok (.iconst 1, 1) := by decide +kernel
theorem dX8_addLift_255 : decode cX8_addLift 255 = .ok (.isub, 1) := by decide +kernel
theorem dX8_addLift_256 : decode cX8_addLift 256 = .ok (.ireturn, 1) := by decide +kernel
theorem dX8_addPiste_0 : decode cX8_addPiste 0 = .ok (.aload_n 0, 1) := by decide +kernel
theorem dX8_addPiste_1 : decode cX8_addPiste 1 = .ok (.iconst 0, 1) := by decide +kernel
theorem dX8_addPiste_2 : decode cX8_addPiste 2 = .ok (.putfield 41, 3) := by decide +kernel
theorem dX8_addPiste_5 : decode cX8_addPiste 5 = .ok (.iload_n 1, 1) := by decide +kernel
theorem dX8_addPiste_6 : decode cX8_addPiste 6 = .ok (.invokestatic 58, 3) := by decide +kernel
theorem dX8_addPiste_9 : decode cX8_addPiste 9 = .ok (.ifCond .eq 10, 3) := by decide +kernel
theorem dX8_addPiste_12 : decode cX8_addPiste 12 = .ok (.iload_n 2, 1) := by decide +kernel
theorem dX8_addPiste_13 : decode cX8_addPiste 13 = .ok (.invokestatic 58, 3) := by decide +kernel
theorem dX8_addPiste_16 : decode cX8_addPiste 16 = .ok (.ifCond .ne 9, 3) := by decide +kernel
theorem dX8_addPiste_19 : decode cX8_addPiste 19 = .ok (.aload_n 0, 1) := by decide +kernel
theorem dX8_addPiste_20 : decode cX8_addPiste 20 = .ok (.iconst 1, 1) := by decide +kernel
theorem dX8_addPiste_21 : decode cX8_addPiste 21 = .ok (.invokevirtual 62, 3) := by decide +kernel
theorem dX8_addPiste_24 : decode cX8_addPiste 24 = .ok (.ireturn, 1) := by decide +kernel
theorem dX8_addPiste_25 : decode cX8_addPiste 25 = .ok (.iload_n 1, 1) := by decide +kernel
theorem dX8_addPiste_26 : decode cX8_addPiste 26 = .ok (.iload_n 2, 1) := by decide +kernel
theorem dX8_addPiste_27 : decode cX8_addPiste 27 = .ok (.if_icmp .eq 23, 3) := by decide +kernel
theorem dX8_addPiste_30 : decode cX8_addPiste 30 = .ok (.iload_n 3, 1) := by decide +kernel
theorem dX8_addPiste_31 : decode cX8_addPiste 31 = .ok (.iconst 1, 1) := by decide +kernel
theorem dX8_addPiste_32 : decode cX8_addPiste 32 = .ok (.iconst 3, 1) := by decide +kernel
theorem dX8_addPiste_33 : decode cX8_addPiste 33 = .ok (.invokestatic 47, 3) := by decide +kernel
theorem dX8_addPiste_36 : decode cX8_addPiste 36 = .ok (.ifCond .eq 14, 3) := by decide +kernel
theorem dX8_addPiste_39 : decode cX8_addPiste 39 = .ok (.iload 4, 2) := by decide +kernel
theorem dX8_addPiste_41 : decode cX8_addPiste 41 = .ok (.iconst 1, 1) := by decide +kernel
theorem dX8_addPiste_42 : decode cX8_addPiste 42 = .ok (.bipush 9, 2) := by decide +kernel
theorem dX8_addPiste_44 : decode cX8_addPiste 44 = .ok (.invokestatic 47, 3) := by decide +kernel
theorem dX8_addPiste_47 : decode cX8_addPiste 47 = .ok (.ifCond .ne 9, 3) := by decide +kernel
theorem dX8_addPiste_50 : decode cX8_addPiste 50 = .ok (.aload_n 0, 1) := by decide +kernel
theorem dX8_addPiste_51 : decode cX8_addPiste 51 = .ok (.iconst 2, 1) := by decide +kernel
theorem dX8_addPiste_52 : decode cX8_addPiste 52 = .ok (.invokevirtual 62, 3) := by decide +kernel
theorem dX8_addPiste_55 : decode cX8_addPiste 55 = .ok (.ireturn, 1) := by decide +kernel
theorem dX8_addPiste_56 : decode cX8_addPiste 56 = .ok (.aload_n 0, 1) := by decide +kernel
theorem dX8_addPiste_57 : decode cX8_addPiste 57 = .ok (.getfield 9, 3) := by decide +kernel
theorem dX8_addPiste_60 : decode cX8_addPiste 60 = .ok (.iconst 4, 1) := by decide +kernel
theorem dX8_addPiste_61 : decode cX8_addPiste 61 = .ok (.iaload, 1) := by decide +kernel
theorem dX8_addPiste_62 : decode cX8_addPiste 62 = .ok (.bipush 10, 2) := by decide +kernel
theorem dX8_addPiste_64 : decode cX8_addPiste 64 = .ok (.if_icmp .ne 9, 3) := by decide +kernel
theorem dX8_addPiste_67 : decode cX8_addPiste 67 = .ok (.aload_n 0, 1) := by decide +kernel
theorem dX8_addPiste_68 : decode cX8_addPiste 68 = .ok (.iconst 3, 1) := by decide +kernel
theorem dX8_addPiste_69 : decode cX8_addPiste 69 = .ok (.invokevirtual 62, 3) := by decide +kernel
theorem dX8_addPiste_72 : decode cX8_addPiste 72 = .ok (.ireturn, 1) := by decide +kernel
theorem dX8_addPiste_73 : decode cX8_addPiste 73 = .ok (.aload_n 0, 1) := by decide +kernel
theorem dX8_addPiste_74 : decode cX8_addPiste 74 = .ok (.invokevirtual 65, 3) := by decide +kernel
theorem dX8_addPiste_77 : decode cX8_addPiste 77 = .ok (.aload_n 0, 1) := by decide +kernel
theorem dX8_addPiste_78 : decode cX8_addPiste 78 = .ok (.getfield 9, 3) := by decide +kernel
theorem dX8_addPiste_81 : decode cX8_addPiste 81 = .ok (.iconst 4, 1) := by decide +kernel
theorem dX8_addPiste_82 : decode cX8_addPiste 82 = .ok (.iaload, 1) := by decide +kernel
theorem dX8_addPiste_83 : decode cX8_addPiste 83 = .ok (.invokestatic 68, 3) := by decide +kernel
theorem dX8_addPiste_86 : decode cX8_addPiste 86 = .ok (.istore 5, 2) := by decide +kernel
theorem dX8_addPiste_88 : decode cX8_addPiste 88 = .ok (.iconst 0, 1) := by decide +kernel
theorem dX8_addPiste_89 : decode cX8_addPiste 89 = .ok (.istore 6, 2) := by decide +kernel
theorem dX8_addPiste_91 : decode cX8_addPiste 91 = .ok (.iload 6, 2) := by decide +kernel
theorem dX8_addPiste_93 : decode cX8_addPiste 93 = .ok (.bipush 8, 2) := by decide +kernel
theorem dX8_addPiste_95 : decode cX8_addPiste 95 = .ok (.if_icmp .ge 20, 3) := by decide +kernel
theorem dX8_addPiste_98 : decode cX8_addPiste 98 = .ok (.aload_n 0, 1) := by decide +kernel
theorem dX8_addPiste_99 : decode cX8_addPiste 99 = .ok (.getfield 9, 3) := by decide +kernel
theorem dX8_addPiste_102 : decode cX8_addPiste 102 = .ok (.iload 5, 2) := by decide +kernel
theorem dX8_addPiste_104 : decode cX8_addPiste 104 = .ok (.iload 6, 2) := by decide +kernel
theorem dX8_addPiste_106 : decode cX8_addPiste 106 = .ok (.iadd, 1) := by decide +kernel
theorem dX8_addPiste_107 : decode cX8_addPiste 107 = .ok (.iconst 0, 1) := by decide +kernel
theorem dX8_addPiste_108 : decode cX8_addPiste 108 = .ok (.iastore, 1) := by decide +kernel
theorem dX8_addPiste_109 : decode cX8_addPiste 109 = .ok (.iinc 6 1, 3) := by decide +kernel
theorem dX8_addPiste_112 : decode cX8_addPiste 112 = .ok (.goto (-21), 3) := by decide +kernel
theorem dX8_addPiste_115 : decode cX8_addPiste 115 = .ok (.aload_n 0, 1) := by decide +kernel
theorem dX8_addPiste_116 : decode cX8_addPiste 116 = .ok (.getfield 9, 3) := by decide +kernel
theorem dX8_addPiste_119 : decode cX8_addPiste 119 = .ok (.iload 5, 2) := by decide +kernel
theorem dX8_addPiste_121 : decode cX8_addPiste 121 = .ok (.iload_n 1, 1) := by decide +kernel
theorem dX8_addPiste_122 : decode cX8_addPiste 122 = .ok (.iastore, 1) := by decide +kernel
theorem dX8_addPiste_123 : decode cX8_addPiste 123 = .ok (.aload_n 0, 1) := by decide +kernel
theorem dX8_addPiste_124 : decode cX8_addPiste 124 = .ok (.getfield 9, 3) := by decide +kernel
theorem dX8_addPiste_127 : decode cX8_addPiste 127 = .ok (.iload 5, 2) := by decide +kernel
theorem dX8_addPiste_129 : decode cX8_addPiste 129 = .ok (.iconst 1, 1) := by decide +kernel
theorem dX8_addPiste_130 : decode cX8_addPiste 130 = .ok (.iadd, 1) := by decide +kernel
theorem dX8_addPiste_131 : decode cX8_addPiste 131 = .ok (.iload_n 2, 1) := by decide +kernel
theorem dX8_addPiste_132 : decode cX8_addPiste 132 = .ok (.iastore, 1) := by decide +kernel
theorem dX8_addPiste_133 : decode cX8_addPiste 133 = .ok (.aload_n 0, 1) := by decide +kernel
theorem dX8_addPiste_134 : decode cX8_addPiste 134 = .ok (.getfield 9, 3) := by decide +kernel
theorem dX8_addPiste_137 : decode cX8_addPiste 137 = .ok (.iload 5, 2) := by decide +kernel
theorem dX8_addPiste_139 : decode cX8_addPiste 139 = .ok (.iconst 2, 1) := by decide +kernel
theorem dX8_addPiste_140 : decode cX8_addPiste 140 = .ok (.iadd, 1) := by decide +kernel
theorem dX8_addPiste_141 : decode cX8_addPiste 141 = .ok (.iload_n 3, 1) := by decide +kernel
theorem dX8_addPiste_142 : decode cX8_addPiste 142 = .ok (.iastore, 1) := by decide +kernel
theorem dX8_addPiste_143 : decode cX8_addPiste 143 = .ok (.aload_n 0, 1) := by decide +kernel
theorem dX8_addPiste_144 : decode cX8_addPiste 144 = .ok (.getfield 9, 3) := by decide +kernel
theorem dX8_addPiste_147 : decode cX8_addPiste 147 = .ok (.iload 5, 2) := by decide +kernel
theorem dX8_addPiste_149 : decode cX8_addPiste 149 = .ok (.iconst 3, 1) := by decide +kernel
theorem dX8_addPiste_150 : decode cX8_addPiste 150 = .ok (.iadd, 1) := by decide +kernel
theorem dX8_addPiste_151 : decode cX8_addPiste 151 = .ok (.iload 4, 2) := by decide +kernel
theorem dX8_addPiste_153 : decode cX8_addPiste 153 = .ok (.iastore, 1) := by decide +kernel
theorem dX8_addPiste_154 : decode cX8_addPiste 154 = .ok (.aload_n 0, 1) := by decide +kernel
theorem dX8_addPiste_155 : decode cX8_addPiste 155 = .ok (.getfield 9, 3) := by decide +kernel
theorem dX8_addPiste_158 : decode cX8_addPiste 158 = .ok (.iconst 4, 1) := by decide +kernel
theorem dX8_addPiste_159 : decode cX8_addPiste 159 = .ok (.dup2, 1) := by decide +kernel
theorem dX8_addPiste_160 : decode cX8_addPiste 160 = .ok (.iaload, 1) := by decide +kernel
theorem dX8_addPiste_161 : decode cX8_addPiste 161 = .ok (.iconst 1, 1) := by decide +kernel
theorem dX8_addPiste_162 : decode cX8_addPiste 162 = .ok (.iadd, 1) := by decide +kernel
theorem dX8_addPiste_163 : decode cX8_addPiste 163 = .ok (.iastore, 1) := by decide +kernel
theorem dX8_addPiste_164 : decode cX8_addPiste 164 = .ok (.aload_n 0, 1) := by decide +kernel
theorem dX8_addPiste_165 : decode cX8_addPiste 165 = .ok (.getfield 9, 3) := by decide +kernel
theorem dX8_addPiste_168 : decode cX8_addPiste 168 = .ok (.iconst 4, 1) := by decide +kernel
theorem dX8_addPiste_169 : decode cX8_addPiste 169 = .ok (.iaload, 1) := by decide +kernel
theorem dX8_addPiste_170 : decode cX8_addPiste 170 = .ok (.iconst 1, 1) := by decide +kernel
theorem dX8_addPiste_171 : decode cX8_addPiste 171 = .ok (.isub, 1) := by decide +kernel
theorem dX8_addPiste_172 : decode cX8_addPiste 172 = .ok (.ireturn, 1) := by decide +kernel
theorem dX8_setWind_0 : decode cX8_setWind 0 = .ok (.aload_n 0, 1) := by decide +kernel
theorem dX8_setWind_1 : decode cX8_setWind 1 = .ok (.iconst 0, 1) := by decide +kernel
theorem dX8_setWind_2 : decode cX8_setWind 2 = .ok (.putfield 41, 3) := by decide +kernel
theorem dX8_setWind_5 : decode cX8_setWind 5 = .ok (.iload_n 1, 1) := by decide +kernel
theorem dX8_setWind_6 : decode cX8_setWind 6 = .ok (.iconst 0, 1) := by decide +kernel
theorem dX8_setWind_7 : decode cX8_setWind 7 = .ok (.bipush 9, 2) := by decide +kernel
theorem dX8_setWind_9 : decode cX8_setWind 9 = .ok (.invokestatic 47, 3) := by decide +kernel
theorem dX8_setWind_12 : decode cX8_setWind 12 = .ok (.ifCond .ne 9, 3) := by decide +kernel
theorem dX8_setWind_15 : decode cX8_setWind 15 = .ok (.aload_n 0, 1) := by decide +kernel
theorem dX8_setWind_16 : decode cX8_setWind 16 = .ok (.iconst 1, 1) := by decide +kernel
theorem dX8_setWind_17 : decode cX8_setWind 17 = .ok (.invokevirtual 62, 3) := by decide +kernel
theorem dX8_setWind_20 : decode cX8_setWind 20 = .ok (.ireturn, 1) := by decide +kernel
theorem dX8_setWind_21 : decode cX8_setWind 21 = .ok (.aload_n 0, 1) := by decide +kernel
theorem dX8_setWind_22 : decode cX8_setWind 22 = .ok (.invokevirtual 65, 3) := by decide +kernel
theorem dX8_setWind_25 : decode cX8_setWind 25 = .ok (.aload_n 0, 1) := by decide +kernel
theorem dX8_setWind_26 : decode cX8_setWind 26 = .ok (.getfield 9, 3) := by decide +kernel
theorem dX8_setWind_29 : decode cX8_setWind 29 = .ok (.iconst 0, 1) := by decide +kernel
theorem dX8_setWind_30 : decode cX8_setWind 30 = .ok (.iload_n 1, 1) := by decide +kernel
theorem dX8_setWind_31 : decode cX8_setWind 31 = .ok (.iastore, 1) := by decide +kernel
theorem dX8_setWind_32 : decode cX8_setWind 32 = .ok (.iconst 0, 1) := by decide +kernel
theorem dX8_setWind_33 : decode cX8_setWind 33 = .ok (.istore_n 2, 1) := by decide +kernel
theorem dX8_setWind_34 : decode cX8_setWind 34 = .ok (.iconst 0, 1) := by decide +kernel
theorem dX8_setWind_35 : decode cX8_setWind 35 = .ok (.istore_n 3, 1) := by decide +kernel
theorem dX8_setWind_36 : decode cX8_setWind 36 = .ok (.iload_n 3, 1) := by decide +kernel
theorem dX8_setWind_37 : decode cX8_setWind 37 = .ok (.aload_n 0, 1) := by decide +kernel
theorem dX8_setWind_38 : decode cX8_setWind 38 = .ok (.getfield 9, 3) := by decide +kernel
theorem dX8_setWind_41 : decode cX8_setWind 41 = .ok (.iconst 3, 1) := by decide +kernel
theorem dX8_setWind_42 : decode cX8_setWind 42 = .ok (.iaload, 1) := by decide +kernel
theorem dX8_setWind_43 : decode cX8_setWind 43 = .ok (.if_icmp .ge 28, 3) := by decide +kernel
theorem dX8_setWind_46 : decode cX8_setWind 46 = .ok (.iload_n 2, 1) := by decide +kernel
theorem dX8_setWind_47 : decode cX8_setWind 47 = .ok (.aload_n 0, 1) := by decide +kernel
theorem dX8_setWind_48 : decode cX8_setWind 48 = .ok (.iload_n 3, 1) := by decide +kernel
theorem dX8_setWind_49 : decode cX8_setWind 49 = .ok (.invokevirtual 55, 3) := by decide +kernel
theorem dX8_setWind_52 : decode cX8_setWind 52 = .ok (.iconst 2, 1) := by decide +kernel
theorem dX8_setWind_53 : decode cX8_setWind 53 = .ok (.if_icmp .ne 9, 3) := by decide +kernel
theorem dX8_setWind_56 : decode cX8_setWind 56 = .ok (.iconst 1, 1) := by decide +kernel
theorem dX8_setWind_57 : decode cX8_setWind 57 = .ok (.iload_n 3, 1) := by decide +kernel
theorem dX8_setWind_58 : decode cX8_setWind 58 = .ok (.ishl, 1) := by decide +kernel
theorem dX8_setWind_59 : decode cX8_setWind 59 = .ok (.goto 4, 3) := by decide +kernel
theorem dX8_setWind_62 : decode cX8_setWind 62 = .ok (.iconst 0, 1) := by decide +kernel
theorem dX8_setWind_63 : decode cX8_setWind 63 = .ok (.ior, 1) := by decide +kernel
theorem dX8_setWind_64 : decode cX8_setWind 64 = .ok (.istore_n 2, 1) := by decide +kernel
theorem dX8_setWind_65 : decode cX8_setWind 65 = .ok (.iinc 3 1, 3) := by decide +kernel
theorem dX8_setWind_68 : decode cX8_setWind 68 = .ok (.goto (-32), 3) := by decide +kernel
theorem dX8_setWind_71 : decode cX8_setWind 71 = .ok (.iload_n 2, 1) := by decide +kernel
theorem dX8_setWind_72 : decode cX8_setWind 72 = .ok (.ireturn, 1) := by decide +kernel
theorem dX8_guestsWho_0 : decode cX8_guestsWho 0 = .ok (.iconst 0, 1) := by decide +kernel
theorem dX8_guestsWho_1 : decode cX8_guestsWho 1 = .ok (.istore_n 3, 1) := by decide +kernel
theorem dX8_guestsWho_2 : decode cX8_guestsWho 2 = .ok (.iconst 0, 1) := by decide +kernel
theorem dX8_guestsWho_3 : decode cX8_guestsWho 3 = .ok (.istore 4, 2) := by decide +kernel
theorem dX8_guestsWho_5 : decode cX8_guestsWho 5 = .ok (.iload 4, 2) := by decide +kernel
theorem dX8_guestsWho_7 : decode cX8_guestsWho 7 = .ok (.aload_n 0, 1) := by decide +kernel
theorem dX8_guestsWho_8 : decode cX8_guestsWho 8 = .ok (.getfield 9, 3) := by decide +kernel
theorem dX8_guestsWho_11 : decode cX8_guestsWho 11 = .ok (.iconst 5, 1) := by decide +kernel
theorem dX8_guestsWho_12 : decode cX8_guestsWho 12 = .ok (.iaload, 1) := by decide +kernel
theorem dX8_guestsWho_13 : decode cX8_guestsWho 13 = .ok (.if_icmp .ge 54, 3) := by decide +kernel
theorem dX8_guestsWho_16 : decode cX8_guestsWho 16 = .ok (.iload_n 3, 1) := by decide +kernel
theorem dX8_guestsWho_17 : decode cX8_guestsWho 17 = .ok (.aload_n 0, 1) := by decide +kernel
theorem dX8_guestsWho_18 : decode cX8_guestsWho 18 = .ok (.getfield 9, 3) := by decide +kernel
theorem dX8_guestsWho_21 : decode cX8_guestsWho 21 = .ok (.iload 4, 2) := by decide +kernel
theorem dX8_guestsWho_23 : decode cX8_guestsWho 23 = .ok (.invokestatic 71, 3) := by decide +kernel
theorem dX8_guestsWho_26 : decode cX8_guestsWho 26 = .ok (.iconst 4, 1) := by decide +kernel
theorem dX8_guestsWho_27 : decode cX8_guestsWho 27 = .ok (.iadd, 1) := by decide +kernel
theorem dX8_guestsWho_28 : decode cX8_guestsWho 28 = .ok (.iaload, 1) := by decide +kernel
theorem dX8_guestsWho_29 : decode cX8_guestsWho 29 = .ok (.iload_n 1, 1) := by decide +kernel
theorem dX8_guestsWho_30 : decode cX8_guestsWho 30 = .ok (.if_icmp .ne 28, 3) := by decide +kernel
theorem dX8_guestsWho_33 : decode cX8_guestsWho 33 = .ok (.iload_n 2, 1) := by decide +kernel
theorem dX8_guestsWho_34 : decode cX8_guestsWho 34 = .ok (.iconst (-1), 1) := by decide +kernel
theorem dX8_guestsWho_35 : decode cX8_guestsWho 35 = .ok (.if_icmp .eq 19, 3) := by decide +kernel
theorem dX8_guestsWho_38 : decode cX8_guestsWho 38 = .ok (.aload_n 0, 1) := by decide +kernel
theorem dX8_guestsWho_39 : decode cX8_guestsWho 39 = .ok (.getfield 9, 3) := by decide +kernel
theorem dX8_guestsWho_42 : decode cX8_guestsWho 42 = .ok (.iload 4, 2) := by decide +kernel
theorem dX8_guestsWho_44 : decode cX8_guestsWho 44 = .ok (.invokestatic 71, 3) := by decide +kernel
theorem dX8_guestsWho_47 : decode cX8_guestsWho 47 = .ok (.iconst 5, 1) := by decide +kernel
theorem dX8_guestsWho_48 : decode cX8_guestsWho 48 = .ok (.iadd, 1) := by decide +kernel
theorem dX8_guestsWho_49 : decode cX8_guestsWho 49 = .ok (.iaload, 1) := by decide +kernel
theorem dX8_guestsWho_50 : decode cX8_guestsWho 50 = .ok (.iload_n 2, 1) := by decide +kernel
theorem dX8_guestsWho_51 : decode cX8_guestsWho 51 = .ok (.if_icmp .ne 7, 3) := by decide +kernel
theorem dX8_guestsWho_54 : decode cX8_guestsWho 54 = .ok (.iconst 1, 1) := by decide +kernel
theorem dX8_guestsWho_55 : decode cX8_guestsWho 55 = .ok (.goto 4, 3) := by decide +kernel
theorem dX8_guestsWho_58 : decode cX8_guestsWho 58 = .ok (.iconst 0, 1) := by decide +kernel
theorem dX8_guestsWho_59 : decode cX8_guestsWho 59 = .ok (.iadd, 1) := by decide +kernel
theorem dX8_guestsWho_60 : decode cX8_guestsWho 60 = .ok (.istore_n 3, 1) := by decide +kernel
theorem dX8_guestsWho_61 : decode cX8_guestsWho 61 = .ok (.iinc 4 1, 3) := by decide +kernel
theorem dX8_guestsWho_64 : decode cX8_guestsWho 64 = .ok (.goto (-59), 3) := by decide +kernel
theorem dX8_guestsWho_67 : decode cX8_guestsWho 67 = .ok (.iload_n 3, 1) := by decide +kernel
theorem dX8_guestsWho_68 : decode cX8_guestsWho 68 = .ok (.ireturn, 1) := by decide +kernel
theorem dX8_lift_0 : decode cX8_lift 0 = .ok (.aload_n 0, 1) := by decide +kernel
theorem dX8_lift_1 : decode cX8_lift 1 = .ok (.aload_n 0, 1) := by decide +kernel
theorem dX8_lift_2 : decode cX8_lift 2 = .ok (.iload_n 1, 1) := by decide +kernel
theorem dX8_lift_3 : decode cX8_lift 3 = .ok (.invokevirtual 74, 3) := by decide +kernel
theorem dX8_lift_6 : decode cX8_lift 6 = .ok (.ifCond .ne 7, 3) := by decide +kernel
theorem dX8_lift_9 : decode cX8_lift 9 = .ok (.iconst 1, 1) := by decide +kernel
theorem dX8_lift_10 : decode cX8_lift 10 = .ok (.goto 18, 3) := by decide +kernel
theorem dX8_lift_13 : decode cX8_lift 13 = .ok (.iload_n 2, 1) := by decide +kernel
theorem dX8_lift_14 : decode cX8_lift 14 = .ok (.iconst 0, 1) := by decide +kernel
theorem dX8_lift_15 : decode cX8_lift 15 = .ok (.bipush 10, 2) := by decide +kernel
theorem dX8_lift_17 : decode cX8_lift 17 = .ok (.invokestatic 47, 3) := by decide +kernel
theorem dX8_lift_20 : decode cX8_lift 20 = .ok (.ifCond .ne 7, 3) := by decide +kernel
theorem dX8_lift_23 : decode cX8_lift 23 = .ok (.iconst 2, 1) := by decide +kernel
theorem dX8_lift_24 : decode cX8_lift 24 = .ok (.goto 4, 3) := by decide +kernel
theorem dX8_lift_27 : decode cX8_lift 27 = .ok (.iconst 0, 1) := by decide +kernel
theorem dX8_lift_28 : decode cX8_lift 28 = .ok (.putfield 41, 3) := by decide +kernel
theorem dX8_lift_31 : decode cX8_lift 31 = .ok (.aload_n 0, 1) := by decide +kernel
theorem dX8_lift_32 : decode cX8_lift 32 = .ok (.getfield 41, 3) := by decide +kernel
theorem dX8_lift_35 : decode cX8_lift 35 = .ok (.ifCond .le 5, 3) := by decide +kernel
theorem dX8_lift_38 : decode cX8_lift 38 = .ok (.iconst 0, 1) := by decide +kernel
theorem dX8_lift_39 : decode cX8_lift 39 = .ok (.ireturn, 1) := by decide +kernel
theorem dX8_lift_40 : decode cX8_lift 40 = .ok (.iload_n 2, 1) := by decide +kernel
theorem dX8_lift_41 : decode cX8_lift 41 = .ok (.bipush 7, 2) := by decide +kernel
theorem dX8_lift_43 : decode cX8_lift 43 = .ok (.if_icmp .ge 17, 3) := by decide +kernel
theorem dX8_lift_46 : decode cX8_lift 46 = .ok (.aload_n 0, 1) := by decide +kernel
theorem dX8_lift_47 : decode cX8_lift 47 = .ok (.getfield 9, 3) := by decide +kernel
theorem dX8_lift_50 : decode cX8_lift 50 = .ok (.iload_n 1, 1) := by decide +kernel
theorem dX8_lift_51 : decode cX8_lift 51 = .ok (.invokestatic 51, 3) := by decide +kernel
theorem dX8_lift_54 : decode cX8_lift 54 = .ok (.iload_n 2, 1) := by decide +kernel
theorem dX8_lift_55 : decode cX8_lift 55 = .ok (.iadd, 1) := by decide +kernel
theorem dX8_lift_56 : decode cX8_lift 56 = .ok (.iaload, 1) := by decide +kernel
theorem dX8_lift_57 : decode cX8_lift 57 = .ok (.goto 65, 3) := by decide +kernel
theorem dX8_lift_60 : decode cX8_lift 60 = .ok (.iload_n 2, 1) := by decide +kernel
theorem dX8_lift_61 : decode cX8_lift 61 = .ok (.bipush 7, 2) := by decide +kernel
theorem dX8_lift_63 : decode cX8_lift 63 = .ok (.if_icmp .ne 11, 3) := by decide +kernel
theorem dX8_lift_66 : decode cX8_lift 66 = .ok (.aload_n 0, 1) := by decide +kernel
theorem dX8_lift_67 : decode cX8_lift 67 = .ok (.iload_n 1, 1) := by decide +kernel
theorem dX8_lift_68 : decode cX8_lift 68 = .ok (.invokevirtual 55, 3) := by decide +kernel
theorem dX8_lift_71 : decode cX8_lift 71 = .ok (.goto 51, 3) := by decide +kernel
theorem dX8_lift_74 : decode cX8_lift 74 = .ok (.iload_n 2, 1) := by decide +kernel
theorem dX8_lift_75 : decode cX8_lift 75 = .ok (.bipush 8, 2) := by decide +kernel
theorem dX8_lift_77 : decode cX8_lift 77 = .ok (.if_icmp .ne 18, 3) := by decide +kernel
theorem dX8_lift_80 : decode cX8_lift 80 = .ok (.aload_n 0, 1) := by decide +kernel
theorem dX8_lift_81 : decode cX8_lift 81 = .ok (.getfield 9, 3) := by decide +kernel
theorem dX8_lift_84 : decode cX8_lift 84 = .ok (.iload_n 1, 1) := by decide +kernel
theorem dX8_lift_85 : decode cX8_lift 85 = .ok (.invokestatic 51, 3) := by decide +kernel
theorem dX8_lift_88 : decode cX8_lift 88 = .ok (.bipush 7, 2) := by decide +kernel
theorem dX8_lift_90 : decode cX8_lift 90 = .ok (.iadd, 1) := by decide +kernel
theorem dX8_lift_91 : decode cX8_lift 91 = .ok (.iaload, 1) := by decide +kernel
theorem dX8_lift_92 : decode cX8_lift 92 = .ok (.goto 30, 3) := by decide +kernel
theorem dX8_lift_95 : decode cX8_lift 95 = .ok (.iload_n 2, 1) := by decide +kernel
theorem dX8_lift_96 : decode cX8_lift 96 = .ok (.bipush 9, 2) := by decide +kernel
theorem dX8_lift_98 : decode cX8_lift 98 = .ok (.if_icmp .ne 18, 3) := by decide +kernel
theorem dX8_lift_101 : decode cX8_lift 101 = .ok (.aload_n 0, 1) := by decide +kernel
theorem dX8_lift_102 : decode cX8_lift 102 = .ok (.getfield 9, 3) := by decide +kernel
theorem dX8_lift_105 : decode cX8_lift 105 = .ok (.iload_n 1, 1) := by decide +kernel
theorem dX8_lift_106 : decode cX8_lift 106 = .ok (.invokestatic 51, 3) := by decide +kernel
theorem dX8_lift_109 : decode cX8_lift 109 = .ok (.bipush 10, 2) := by decide +kernel
theorem dX8_lift_111 : decode cX8_lift 111 = .ok (.iadd, 1) := by decide +kernel
theorem dX8_lift_112 : decode cX8_lift 112 = .ok (.iaload, 1) := by decide +kernel
theorem dX8_lift_113 : decode cX8_lift 113 = .ok (.goto 9, 3) := by decide +kernel
theorem dX8_lift_116 : decode cX8_lift 116 = .ok (.aload_n 0, 1) := by decide +kernel
theorem dX8_lift_117 : decode cX8_lift 117 = .ok (.iconst 2, 1) := by decide +kernel
theorem dX8_lift_118 : decode cX8_lift 118 = .ok (.iload_n 1, 1) := by decide +kernel
theorem dX8_lift_119 : decode cX8_lift 119 = .ok (.invokevirtual 77, 3) := by decide +kernel
theorem dX8_lift_122 : decode cX8_lift 122 = .ok (.ireturn, 1) := by decide +kernel
theorem dX8_piste_0 : decode cX8_piste 0 = .ok (.aload_n 0, 1) := by decide +kernel
theorem dX8_piste_1 : decode cX8_piste 1 = .ok (.aload_n 0, 1) := by decide +kernel
theorem dX8_piste_2 : decode cX8_piste 2 = .ok (.iload_n 1, 1) := by decide +kernel
theorem dX8_piste_3 : decode cX8_piste 3 = .ok (.invokevirtual 81, 3) := by decide +kernel
theorem dX8_piste_6 : decode cX8_piste 6 = .ok (.ifCond .ne 7, 3) := by decide +kernel
theorem dX8_piste_9 : decode cX8_piste 9 = .ok (.iconst 1, 1) := by decide +kernel
theorem dX8_piste_10 : decode cX8_piste 10 = .ok (.goto 18, 3) := by decide +kernel
theorem dX8_piste_13 : decode cX8_piste 13 = .ok (.iload_n 2, 1) := by decide +kernel
theorem dX8_piste_14 : decode cX8_piste 14 = .ok (.iconst 0, 1) := by decide +kernel
theorem dX8_piste_15 : decode cX8_piste 15 = .ok (.bipush 7, 2) := by decide +kernel
theorem dX8_piste_17 : decode cX8_piste 17 = .ok (.invokestatic 47, 3) := by decide +kernel
theorem dX8_piste_20 : decode cX8_piste 20 = .ok (.ifCond .ne 7, 3) := by decide +kernel
theorem dX8_piste_23 : decode cX8_piste 23 = .ok (.iconst 2, 1) := by decide +kernel
theorem dX8_piste_24 : decode cX8_piste 24 = .ok (.goto 4, 3) := by decide +kernel
theorem dX8_piste_27 : decode cX8_piste 27 = .ok (.iconst 0, 1) := by decide +kernel
theorem dX8_piste_28 : decode cX8_piste 28 = .ok (.putfield 41, 3) := by decide +kernel
theorem dX8_piste_31 : decode cX8_piste 31 = .ok (.aload_n 0, 1) := by decide +kernel
theorem dX8_piste_32 : decode cX8_piste 32 = .ok (.getfield 41, 3) := by decide +kernel
theorem dX8_piste_35 : decode cX8_piste 35 = .ok (.ifCond .le 5, 3) := by decide +kernel
theorem dX8_piste_38 : decode cX8_piste 38 = .ok (.iconst 0, 1) := by decide +kernel
theorem dX8_piste_39 : decode cX8_piste 39 = .ok (.ireturn, 1) := by decide +kernel
theorem dX8_piste_40 : decode cX8_piste 40 = .ok (.iload_n 2, 1) := by decide +kernel
theorem dX8_piste_41 : decode cX8_piste 41 = .ok (.bipush 7, 2) := by decide +kernel
theorem dX8_piste_43 : decode cX8_piste 43 = .ok (.if_icmp .ge 17, 3) := by decide +kernel
theorem dX8_piste_46 : decode cX8_piste 46 = .ok (.aload_n 0, 1) := by decide +kernel
theorem dX8_piste_47 : decode cX8_piste 47 = .ok (.getfield 9, 3) := by decide +kernel
theorem dX8_piste_50 : decode cX8_piste 50 = .ok (.iload_n 1, 1) := by decide +kernel
theorem dX8_piste_51 : decode cX8_piste 51 = .ok (.invokestatic 68, 3) := by decide +kernel
theorem dX8_piste_54 : decode cX8_piste 54 = .ok (.iload_n 2, 1) := by decide +kernel
theorem dX8_piste_55 : decode cX8_piste 55 = .ok (.iadd, 1) := by decide +kernel
theorem dX8_piste_56 : decode cX8_piste 56 = .ok (.iaload, 1) := by decide +kernel
theorem dX8_piste_57 : decode cX8_piste 57 = .ok (.goto 9, 3) := by decide +kernel
theorem dX8_piste_60 : decode cX8_piste 60 = .ok (.aload_n 0, 1) := by decide +kernel
theorem dX8_piste_61 : decode cX8_piste 61 = .ok (.iconst 3, 1) := by decide +kernel
theorem dX8_piste_62 : decode cX8_piste 62 = .ok (.iload_n 1, 1) := by decide +kernel
theorem dX8_piste_63 : decode cX8_piste 63 = .ok (.invokevirtual 77, 3) := by decide +kernel
theorem dX8_piste_66 : decode cX8_piste 66 = .ok (.ireturn, 1) := by decide +kernel
theorem dX8_open_0 : decode cX8_open 0 = .ok (.aload_n 0, 1) := by decide +kernel
theorem dX8_open_1 : decode cX8_open 1 = .ok (.aload_n 0, 1) := by decide +kernel
theorem dX8_open_2 : decode cX8_open 2 = .ok (.iload_n 1, 1) := by decide +kernel
theorem dX8_open_3 : decode cX8_open 3 = .ok (.invokevirtual 81, 3) := by decide +kernel
theorem dX8_open_6 : decode cX8_open 6 = .ok (.ifCond .ne 7, 3) := by decide +kernel
theorem dX8_open_9 : decode cX8_open 9 = .ok (.iconst 1, 1) := by decide +kernel
theorem dX8_open_10 : decode cX8_open 10 = .ok (.goto 28, 3) := by decide +kernel
theorem dX8_open_13 : decode cX8_open 13 = .ok (.iload_n 2, 1) := by decide +kernel
theorem dX8_open_14 : decode cX8_open 14 = .ok (.ifCond .eq 23, 3) := by decide +kernel
theorem dX8_open_17 : decode cX8_open 17 = .ok (.aload_n 0, 1) := by decide +kernel
theorem dX8_open_18 : decode cX8_open 18 = .ok (.getfield 9, 3) := by decide +kernel
theorem dX8_open_21 : decode cX8_open 21 = .ok (.iload_n 1, 1) := by decide +kernel
theorem dX8_open_22 : decode cX8_open 22 = .ok (.invokestatic 68, 3) := by decide +kernel
theorem dX8_open_25 : decode cX8_open 25 = .ok (.iconst 5, 1) := by decide +kernel
theorem dX8_open_26 : decode cX8_open 26 = .ok (.iadd, 1) := by decide +kernel
theorem dX8_open_27 : decode cX8_open 27 = .ok (.iaload, 1) := by decide +kernel
theorem dX8_open_28 : decode cX8_open 28 = .ok (.bipush 20, 2) := by decide +kernel
theorem dX8_open_30 : decode cX8_open 30 = .ok (.if_icmp .lt 7, 3) := by decide +kernel
theorem dX8_open_33 : decode cX8_open 33 = .ok (.iconst 2, 1) := by decide +kernel
theorem dX8_open_34 : decode cX8_open 34 = .ok (.goto 4, 3) := by decide +kernel
theorem dX8_open_37 : decode cX8_open 37 = .ok (.iconst 0, 1) := by decide +kernel
theorem dX8_open_38 : decode cX8_open 38 = .ok (.putfield 41, 3) := by decide +kernel
theorem dX8_open_41 : decode cX8_open 41 = .ok (.aload_n 0, 1) := by decide +kernel
theorem dX8_open_42 : decode cX8_open 42 = .ok (.getfield 41, 3) := by decide +kernel
theorem dX8_open_45 : decode cX8_open 45 = .ok (.ifCond .le 5, 3) := by decide +kernel
theorem dX8_open_48 : decode cX8_open 48 = .ok (.iconst 0, 1) := by decide +kernel
theorem dX8_open_49 : decode cX8_open 49 = .ok (.ireturn, 1) := by decide +kernel
theorem dX8_open_50 : decode cX8_open 50 = .ok (.aload_n 0, 1) := by decide +kernel
theorem dX8_open_51 : decode cX8_open 51 = .ok (.invokevirtual 65, 3) := by decide +kernel
theorem dX8_open_54 : decode cX8_open 54 = .ok (.iload_n 1, 1) := by decide +kernel
theorem dX8_open_55 : decode cX8_open 55 = .ok (.invokestatic 68, 3) := by decide +kernel
theorem dX8_open_58 : decode cX8_open 58 = .ok (.istore_n 3, 1) := by decide +kernel
theorem dX8_open_59 : decode cX8_open 59 = .ok (.aload_n 0, 1) := by decide +kernel
theorem dX8_open_60 : decode cX8_open 60 = .ok (.getfield 9, 3) := by decide +kernel
theorem dX8_open_63 : decode cX8_open 63 = .ok (.iload_n 3, 1) := by decide +kernel
theorem dX8_open_64 : decode cX8_open 64 = .ok (.iconst 4, 1) := by decide +kernel
theorem dX8_open_65 : decode cX8_open 65 = .ok (.iadd, 1) := by decide +kernel
theorem dX8_open_66 : decode cX8_open 66 = .ok (.iaload, 1) := by decide +kernel
theorem dX8_open_67 : decode cX8_open 67 = .ok (.istore 4, 2) := by decide +kernel
theorem dX8_open_69 : decode cX8_open 69 = .ok (.aload_n 0, 1) := by decide +kernel
theorem dX8_open_70 : decode cX8_open 70 = .ok (.getfield 9, 3) := by decide +kernel
theorem dX8_open_73 : decode cX8_open 73 = .ok (.iload_n 3, 1) := by decide +kernel
theorem dX8_open_74 : decode cX8_open 74 = .ok (.iconst 4, 1) := by decide +kernel
theorem dX8_open_75 : decode cX8_open 75 = .ok (.iadd, 1) := by decide +kernel
theorem dX8_open_76 : decode cX8_open 76 = .ok (.iload_n 2, 1) := by decide +kernel
theorem dX8_open_77 : decode cX8_open 77 = .ok (.ifCond .eq 7, 3) := by decide +kernel
theorem dX8_open_80 : decode cX8_open 80 = .ok (.iconst 0, 1) := by decide +kernel
theorem dX8_open_81 : decode cX8_open 81 = .ok (.goto 4, 3) := by decide +kernel
theorem dX8_open_84 : decode cX8_open 84 = .ok (.iconst 1, 1) := by decide +kernel
theorem dX8_open_85 : decode cX8_open 85 = .ok (.iastore, 1) := by decide +kernel
theorem dX8_open_86 : decode cX8_open 86 = .ok (.aload_n 0, 1) := by decide +kernel
theorem dX8_open_87 : decode cX8_open 87 = .ok (.getfield 9, 3) := by decide +kernel
theorem dX8_open_90 : decode cX8_open 90 = .ok (.iload_n 3, 1) := by decide +kernel
theorem dX8_open_91 : decode cX8_open 91 = .ok (.bipush 6, 2) := by decide +kernel
theorem dX8_open_93 : decode cX8_open 93 = .ok (.iadd, 1) := by decide +kernel
theorem dX8_open_94 : decode cX8_open 94 = .ok (.iconst 0, 1) := by decide +kernel
theorem dX8_open_95 : decode cX8_open 95 = .ok (.iastore, 1) := by decide +kernel
theorem dX8_open_96 : decode cX8_open 96 = .ok (.iload 4, 2) := by decide +kernel
theorem dX8_open_98 : decode cX8_open 98 = .ok (.ireturn, 1) := by decide +kernel
theorem dX8_groom_0 : decode cX8_groom 0 = .ok (.aload_n 0, 1) := by decide +kernel
theorem dX8_groom_1 : decode cX8_groom 1 = .ok (.aload_n 0, 1) := by decide +kernel
theorem dX8_groom_2 : decode cX8_groom 2 = .ok (.iload_n 1, 1) := by decide +kernel
theorem dX8_groom_3 : decode cX8_groom 3 = .ok (.invokevirtual 81, 3) := by decide +kernel
theorem dX8_groom_6 : decode cX8_groom 6 = .ok (.ifCond .ne 7, 3) := by decide +kernel
theorem dX8_groom_9 : decode cX8_groom 9 = .ok (.iconst 1, 1) := by decide +kernel
theorem dX8_groom_10 : decode cX8_groom 10 = .ok (.goto 23, 3) := by decide +kernel
theorem dX8_groom_13 : decode cX8_groom 13 = .ok (.aload_n 0, 1) := by decide +kernel
theorem dX8_groom_14 : decode cX8_groom 14 = .ok (.getfield 9, 3) := by decide +kernel
theorem dX8_groom_17 : decode cX8_groom 17 = .ok (.iload_n 1, 1) := by decide +kernel
theorem dX8_groom_18 : decode cX8_groom 18 = .ok (.invokestatic 68, 3) := by decide +kernel
theorem dX8_groom_21 : decode cX8_groom 21 = .ok (.iconst 4, 1) := by decide +kernel
theorem dX8_groom_22 : decode cX8_groom 22 = .ok (.iadd, 1) := by decide +kernel
theorem dX8_groom_23 : decode cX8_groom 23 = .ok (.iaload, 1) := by decide +kernel
theorem dX8_groom_24 : decode cX8_groom 24 = .ok (.iconst 1, 1) := by decide +kernel
theorem dX8_groom_25 : decode cX8_groom 25 = .ok (.if_icmp .eq 7, 3) := by decide +kernel
theorem dX8_groom_28 : decode cX8_groom 28 = .ok (.iconst 2, 1) := by decide +kernel
theorem dX8_groom_29 : decode cX8_groom 29 = .ok (.goto 4, 3) := by decide +kernel
theorem dX8_groom_32 : decode cX8_groom 32 = .ok (.iconst 0, 1) := by decide +kernel
theorem dX8_groom_33 : decode cX8_groom 33 = .ok (.putfield 41, 3) := by decide +kernel
theorem dX8_groom_36 : decode cX8_groom 36 = .ok (.aload_n 0, 1) := by decide +kernel
theorem dX8_groom_37 : decode cX8_groom 37 = .ok (.getfield 41, 3) := by decide +kernel
theorem dX8_groom_40 : decode cX8_groom 40 = .ok (.ifCond .le 5, 3) := by decide +kernel
theorem dX8_groom_43 : decode cX8_groom 43 = .ok (.iconst 0, 1) := by decide +kernel
theorem dX8_groom_44 : decode cX8_groom 44 = .ok (.ireturn, 1) := by decide +kernel
theorem dX8_groom_45 : decode cX8_groom 45 = .ok (.aload_n 0, 1) := by decide +kernel
theorem dX8_groom_46 : decode cX8_groom 46 = .ok (.invokevirtual 65, 3) := by decide +kernel
theorem dX8_groom_49 : decode cX8_groom 49 = .ok (.iload_n 1, 1) := by decide +kernel
theorem dX8_groom_50 : decode cX8_groom 50 = .ok (.invokestatic 68, 3) := by decide +kernel
theorem dX8_groom_53 : decode cX8_groom 53 = .ok (.istore_n 2, 1) := by decide +kernel
theorem dX8_groom_54 : decode cX8_groom 54 = .ok (.aload_n 0, 1) := by decide +kernel
theorem dX8_groom_55 : decode cX8_groom 55 = .ok (.getfield 9, 3) := by decide +kernel
theorem dX8_groom_58 : decode cX8_groom 58 = .ok (.iload_n 2, 1) := by decide +kernel
theorem dX8_groom_59 : decode cX8_groom 59 = .ok (.iconst 4, 1) := by decide +kernel
theorem dX8_groom_60 : decode cX8_groom 60 = .ok (.iadd, 1) := by decide +kernel
theorem dX8_groom_61 : decode cX8_groom 61 = .ok (.iconst 2, 1) := by decide +kernel
theorem dX8_groom_62 : decode cX8_groom 62 = .ok (.iastore, 1) := by decide +kernel
theorem dX8_groom_63 : decode cX8_groom 63 = .ok (.aload_n 0, 1) := by decide +kernel
theorem dX8_groom_64 : decode cX8_groom 64 = .ok (.getfield 9, 3) := by decide +kernel
theorem dX8_groom_67 : decode cX8_groom 67 = .ok (.iload_n 2, 1) := by decide +kernel
theorem dX8_groom_68 : decode cX8_groom 68 = .ok (.bipush 6, 2) := by decide +kernel
theorem dX8_groom_70 : decode cX8_groom 70 = .ok (.iadd, 1) := by decide +kernel
theorem dX8_groom_71 : decode cX8_groom 71 = .ok (.iconst 1, 1) := by decide +kernel
theorem dX8_groom_72 : decode cX8_groom 72 = .ok (.aload_n 0, 1) := by decide +kernel
theorem dX8_groom_73 : decode cX8_groom 73 = .ok (.getfield 9, 3) := by decide +kernel
theorem dX8_groom_76 : decode cX8_groom 76 = .ok (.iload_n 2, 1) := by decide +kernel
theorem dX8_groom_77 : decode cX8_groom 77 = .ok (.iconst 5, 1) := by decide +kernel
theorem dX8_groom_78 : decode cX8_groom 78 = .ok (.iadd, 1) := by decide +kernel
theorem dX8_groom_79 : decode cX8_groom 79 = .ok (.iaload, 1) := by decide +kernel
theorem dX8_groom_80 : decode cX8_groom 80 = .ok (.iconst 5, 1) := by decide +kernel
theorem dX8_groom_81 : decode cX8_groom 81 = .ok (.idiv, 1) := by decide +kernel
theorem dX8_groom_82 : decode cX8_groom 82 = .ok (.iadd, 1) := by decide +kernel
theorem dX8_groom_83 : decode cX8_groom 83 = .ok (.iastore, 1) := by decide +kernel
theorem dX8_groom_84 : decode cX8_groom 84 = .ok (.aload_n 0, 1) := by decide +kernel
theorem dX8_groom_85 : decode cX8_groom 85 = .ok (.getfield 9, 3) := by decide +kernel
theorem dX8_groom_88 : decode cX8_groom 88 = .ok (.iload_n 2, 1) := by decide +kernel
theorem dX8_groom_89 : decode cX8_groom 89 = .ok (.bipush 6, 2) := by decide +kernel
theorem dX8_groom_91 : decode cX8_groom 91 = .ok (.iadd, 1) := by decide +kernel
theorem dX8_groom_92 : decode cX8_groom 92 = .ok (.iaload, 1) := by decide +kernel
theorem dX8_groom_93 : decode cX8_groom 93 = .ok (.ireturn, 1) := by decide +kernel
theorem dX8_openPistes_0 : decode cX8_openPistes 0 = .ok (.iconst 0, 1) := by decide +kernel
theorem dX8_openPistes_1 : decode cX8_openPistes 1 = .ok (.istore_n 1, 1) := by decide +kernel
theorem dX8_openPistes_2 : decode cX8_openPistes 2 = .ok (.iconst 0, 1) := by decide +kernel
theorem dX8_openPistes_3 : decode cX8_openPistes 3 = .ok (.istore_n 2, 1) := by decide +kernel
theorem dX8_openPistes_4 : decode cX8_openPistes 4 = .ok (.iload_n 2, 1) := by decide +kernel
theorem dX8_openPistes_5 : decode cX8_openPistes 5 = .ok (.aload_n 0, 1) := by decide +kernel
theorem dX8_openPistes_6 : decode cX8_openPistes 6 = .ok (.getfield 9, 3) := by decide +kernel
theorem dX8_openPistes_9 : decode cX8_openPistes 9 = .ok (.iconst 4, 1) := by decide +kernel
theorem dX8_openPistes_10 : decode cX8_openPistes 10 = .ok (.iaload, 1) := by decide +kernel
theorem dX8_openPistes_11 : decode cX8_openPistes 11 = .ok (.if_icmp .ge 31, 3) := by decide +kernel
theorem dX8_openPistes_14 : decode cX8_openPistes 14 = .ok (.iload_n 1, 1) := by decide +kernel
theorem dX8_openPistes_15 : decode cX8_openPistes 15 = .ok (.aload_n 0, 1) := by decide +kernel
theorem dX8_openPistes_16 : decode cX8_openPistes 16 = .ok (.getfield 9, 3) := by decide +kernel
theorem dX8_openPistes_19 : decode cX8_openPistes 19 = .ok (.iload_n 2, 1) := by decide +kernel
theorem dX8_openPistes_20 : decode cX8_openPistes 20 = .ok (.invokestatic 68, 3) := by decide +kernel
theorem dX8_openPistes_23 : decode cX8_openPistes 23 = .ok (.iconst 4, 1) := by decide +kernel
theorem dX8_openPistes_24 : decode cX8_openPistes 24 = .ok (.iadd, 1) := by decide +kernel
theorem dX8_openPistes_25 : decode cX8_openPistes 25 = .ok (.iaload, 1) := by decide +kernel
theorem dX8_openPistes_26 : decode cX8_openPistes 26 = .ok (.ifCond .ne 7, 3) := by decide +kernel
theorem dX8_openPistes_29 : decode cX8_openPistes 29 = .ok (.iconst 1, 1) := by decide +kernel
theorem dX8_openPistes_30 : decode cX8_openPistes 30 = .ok (.goto 4, 3) := by decide +kernel
theorem dX8_openPistes_33 : decode cX8_openPistes 33 = .ok (.iconst 0, 1) := by decide +kernel
theorem dX8_openPistes_34 : decode cX8_openPistes 34 = .ok (.iadd, 1) := by decide +kernel
theorem dX8_openPistes_35 : decode cX8_openPistes 35 = .ok (.istore_n 1, 1) := by decide +kernel
theorem dX8_openPistes_36 : decode cX8_openPistes 36 = .ok (.iinc 2 1, 3) := by decide +kernel
theorem dX8_openPistes_39 : decode cX8_openPistes 39 = .ok (.goto (-35), 3) := by decide +kernel
theorem dX8_openPistes_42 : decode cX8_openPistes 42 = .ok (.iload_n 1, 1) := by decide +kernel
theorem dX8_openPistes_43 : decode cX8_openPistes 43 = .ok (.ireturn, 1) := by decide +kernel
theorem dX8_count_0 : decode cX8_count 0 = .ok (.aload_n 0, 1) := by decide +kernel
theorem dX8_count_1 : decode cX8_count 1 = .ok (.iload_n 1, 1) := by decide +kernel
theorem dX8_count_2 : decode cX8_count 2 = .ok (.iconst 0, 1) := by decide +kernel
theorem dX8_count_3 : decode cX8_count 3 = .ok (.bipush 11, 2) := by decide +kernel
theorem dX8_count_5 : decode cX8_count 5 = .ok (.invokestatic 47, 3) := by decide +kernel
theorem dX8_count_8 : decode cX8_count 8 = .ok (.ifCond .eq 7, 3) := by decide +kernel
theorem dX8_count_11 : decode cX8_count 11 = .ok (.iconst 0, 1) := by decide +kernel
theorem dX8_count_12 : decode cX8_count 12 = .ok (.goto 4, 3) := by decide +kernel
theorem dX8_count_15 : decode cX8_count 15 = .ok (.iconst 1, 1) := by decide +kernel
theorem dX8_count_16 : decode cX8_count 16 = .ok (.putfield 41, 3) := by decide +kernel
theorem dX8_count_19 : decode cX8_count 19 = .ok (.aload_n 0, 1) := by decide +kernel
theorem dX8_count_20 : decode cX8_count 20 = .ok (.getfield 41, 3) := by decide +kernel
theorem dX8_count_23 : decode cX8_count 23 = .ok (.ifCond .le 5, 3) := by decide +kernel
theorem dX8_count_26 : decode cX8_count 26 = .ok (.iconst 0, 1) := by decide +kernel
theorem dX8_count_27 : decode cX8_count 27 = .ok (.ireturn, 1) := by decide +kernel
theorem dX8_count_28 : decode cX8_count 28 = .ok (.iload_n 1, 1) := by decide +kernel
theorem dX8_count_29 : decode cX8_count 29 = .ok (.iconst 3, 1) := by decide +kernel
theorem dX8_count_30 : decode cX8_count 30 = .ok (.if_icmp .ge 14, 3) := by decide +kernel
theorem dX8_count_33 : decode cX8_count 33 = .ok (.aload_n 0, 1) := by decide +kernel
theorem dX8_count_34 : decode cX8_count 34 = .ok (.getfield 9, 3) := by decide +kernel
theorem dX8_count_37 : decode cX8_count 37 = .ok (.iconst 3, 1) := by decide +kernel
theorem dX8_count_38 : decode cX8_count 38 = .ok (.iload_n 1, 1) := by decide +kernel
theorem dX8_count_39 : decode cX8_count 39 = .ok (.iadd, 1) := by decide +kernel
theorem dX8_count_40 : decode cX8_count 40 = .ok (.iaload, 1) := by decide +kernel
theorem dX8_count_41 : decode cX8_count 41 = .ok (.goto 44, 3) := by decide +kernel
theorem dX8_count_44 : decode cX8_count 44 = .ok (.iload_n 1, 1) := by decide +kernel
theorem dX8_count_45 : decode cX8_count 45 = .ok (.bipush 6, 2) := by decide +kernel
theorem dX8_count_47 : decode cX8_count 47 = .ok (.if_icmp .ge 16, 3) := by decide +kernel
theorem dX8_count_50 : decode cX8_count 50 = .ok (.aload_n 0, 1) := by decide +kernel
theorem dX8_count_51 : decode cX8_count 51 = .ok (.getfield 9, 3) := by decide +kernel
theorem dX8_count_54 : decode cX8_count 54 = .ok (.iconst 0, 1) := by decide +kernel
theorem dX8_count_55 : decode cX8_count 55 = .ok (.iload_n 1, 1) := by decide +kernel
theorem dX8_count_56 : decode cX8_count 56 = .ok (.iadd, 1) := by decide +kernel
theorem dX8_count_57 : decode cX8_count 57 = .ok (.iconst 3, 1) := by decide +kernel
theorem dX8_count_58 : decode cX8_count 58 = .ok (.isub, 1) := by decide +kernel
theorem dX8_count_59 : decode cX8_count 59 = .ok (.iaload, 1) := by decide +kernel
theorem dX8_count_60 : decode cX8_count 60 = .ok (.goto 25, 3) := by decide +kernel
theorem dX8_count_63 : decode cX8_count 63 = .ok (.iload_n 1, 1) := by decide +kernel
theorem dX8_count_64 : decode cX8_count 64 = .ok (.bipush 11, 2) := by decide +kernel
theorem dX8_count_66 : decode cX8_count 66 = .ok (.if_icmp .ge 15, 3) := by decide +kernel
theorem dX8_count_69 : decode cX8_count 69 = .ok (.aload_n 0, 1) := by decide +kernel
theorem dX8_count_70 : decode cX8_count 70 = .ok (.iload_n 1, 1) := by decide +kernel
theorem dX8_count_71 : decode cX8_count 71 = .ok (.bipush 6, 2) := by decide +kernel
theorem dX8_count_73 : decode cX8_count 73 = .ok (.isub, 1) := by decide +kernel
theorem dX8_count_74 : decode cX8_count 74 = .ok (.iconst (-1), 1) := by decide +kernel
theorem dX8_count_75 : decode cX8_count 75 = .ok (.invokevirtual 77, 3) := by decide +kernel
theorem dX8_count_78 : decode cX8_count 78 = .ok (.goto 7, 3) := by decide +kernel
theorem dX8_count_81 : decode cX8_count 81 = .ok (.aload_n 0, 1) := by decide +kernel
theorem dX8_count_82 : decode cX8_count 82 = .ok (.invokevirtual 84, 3) := by decide +kernel
theorem dX8_count_85 : decode cX8_count 85 = .ok (.ireturn, 1) := by decide +kernel
theorem dX8_arrives_0 : decode cX8_arrives 0 = .ok (.aload_n 0, 1) := by decide +kernel
theorem dX8_arrives_1 : decode cX8_arrives 1 = .ok (.getfield 9, 3) := by decide +kernel
theorem dX8_arrives_4 : decode cX8_arrives 4 = .ok (.iconst 5, 1) := by decide +kernel
theorem dX8_arrives_5 : decode cX8_arrives 5 = .ok (.iaload, 1) := by decide +kernel
theorem dX8_arrives_6 : decode cX8_arrives 6 = .ok (.invokestatic 71, 3) := by decide +kernel
theorem dX8_arrives_9 : decode cX8_arrives 9 = .ok (.istore 6, 2) := by decide +kernel
theorem dX8_arrives_11 : decode cX8_arrives 11 = .ok (.iconst 0, 1) := by decide +kernel
theorem dX8_arrives_12 : decode cX8_arrives 12 = .ok (.istore 7, 2) := by decide +kernel
theorem dX8_arrives_14 : decode cX8_arrives 14 = .ok (.iload 7, 2) := by decide +kernel
theorem dX8_arrives_16 : decode cX8_arrives 16 = .ok (.bipush 10, 2) := by decide +kernel
theorem dX8_arrives_18 : decode cX8_arrives 18 = .ok (.if_icmp .ge 20, 3) := by decide +kernel
theorem dX8_arrives_21 : decode cX8_arrives 21 = .ok (.aload_n 0, 1) := by decide +kernel
theorem dX8_arrives_22 : decode cX8_arrives 22 = .ok (.getfield 9, 3) := by decide +kernel
theorem dX8_arrives_25 : decode cX8_arrives 25 = .ok (.iload 6, 2) := by decide +kernel
theorem dX8_arrives_27 : decode cX8_arrives 27 = .ok (.iload 7, 2) := by decide +kernel
theorem dX8_arrives_29 : decode cX8_arrives 29 = .ok (.iadd, 1) := by decide +kernel
theorem dX8_arrives_30 : decode cX8_arrives 30 = .ok (.iconst 0, 1) := by decide +kernel
theorem dX8_arrives_31 : decode cX8_arrives 31 = .ok (.iastore, 1) := by decide +kernel
theorem dX8_arrives_32 : decode cX8_arrives 32 = .ok (.iinc 7 1, 3) := by decide +kernel
theorem dX8_arrives_35 : decode cX8_arrives 35 = .ok (.goto (-21), 3) := by decide +kernel
theorem dX8_arrives_38 : decode cX8_arrives 38 = .ok (.aload_n 0, 1) := by decide +kernel
theorem dX8_arrives_39 : decode cX8_arrives 39 = .ok (.getfield 9, 3) := by decide +kernel
theorem dX8_arrives_42 : decode cX8_arrives 42 = .ok (.iload 6, 2) := by decide +kernel
theorem dX8_arrives_44 : decode cX8_arrives 44 = .ok (.iload_n 2, 1) := by decide +kernel
theorem dX8_arrives_45 : decode cX8_arrives 45 = .ok (.iastore, 1) := by decide +kernel
theorem dX8_arrives_46 : decode cX8_arrives 46 = .ok (.aload_n 0, 1) := by decide +kernel
theorem dX8_arrives_47 : decode cX8_arrives 47 = .ok (.getfield 9, 3) := by decide +kernel
theorem dX8_arrives_50 : decode cX8_arrives 50 = .ok (.iload 6, 2) := by decide +kernel
theorem dX8_arrives_52 : decode cX8_arrives 52 = .ok (.iconst 1, 1) := by decide +kernel
theorem dX8_arrives_53 : decode cX8_arrives 53 = .ok (.iadd, 1) := by decide +kernel
theorem dX8_arrives_54 : decode cX8_arrives 54 = .ok (.iload_n 3, 1) := by decide +kernel
theorem dX8_arrives_55 : decode cX8_arrives 55 = .ok (.iastore, 1) := by decide +kernel
theorem dX8_arrives_56 : decode cX8_arrives 56 = .ok (.aload_n 0, 1) := by decide +kernel
theorem dX8_arrives_57 : decode cX8_arrives 57 = .ok (.getfield 9, 3) := by decide +kernel
theorem dX8_arrives_60 : decode cX8_arrives 60 = .ok (.iload 6, 2) := by decide +kernel
theorem dX8_arrives_62 : decode cX8_arrives 62 = .ok (.iconst 2, 1) := by decide +kernel
theorem dX8_arrives_63 : decode cX8_arrives 63 = .ok (.iadd, 1) := by decide +kernel
theorem dX8_arrives_64 : decode cX8_arrives 64 = .ok (.iload 4, 2) := by decide +kernel
theorem dX8_arrives_66 : decode cX8_arrives 66 = .ok (.iastore, 1) := by decide +kernel
theorem dX8_arrives_67 : decode cX8_arrives 67 = .ok (.aload_n 0, 1) := by decide +kernel
theorem dX8_arrives_68 : decode cX8_arrives 68 = .ok (.getfield 9, 3) := by decide +kernel
theorem dX8_arrives_71 : decode cX8_arrives 71 = .ok (.iload 6, 2) := by decide +kernel
theorem dX8_arrives_73 : decode cX8_arrives 73 = .ok (.iconst 3, 1) := by decide +kernel
theorem dX8_arrives_74 : decode cX8_arrives 74 = .ok (.iadd, 1) := by decide +kernel
theorem dX8_arrives_75 : decode cX8_arrives 75 = .ok (.iload 5, 2) := by decide +kernel
theorem dX8_arrives_77 : decode cX8_arrives 77 = .ok (.iastore, 1) := by decide +kernel
theorem dX8_arrives_78 : decode cX8_arrives 78 = .ok (.aload_n 0, 1) := by decide +kernel
theorem dX8_arrives_79 : decode cX8_arrives 79 = .ok (.getfield 9, 3) := by decide +kernel
theorem dX8_arrives_82 : decode cX8_arrives 82 = .ok (.iload 6, 2) := by decide +kernel
theorem dX8_arrives_84 : decode cX8_arrives 84 = .ok (.iconst 5, 1) := by decide +kernel
theorem dX8_arrives_85 : decode cX8_arrives 85 = .ok (.iadd, 1) := by decide +kernel
theorem dX8_arrives_86 : decode cX8_arrives 86 = .ok (.iload_n 1, 1) := by decide +kernel
theorem dX8_arrives_87 : decode cX8_arrives 87 = .ok (.iastore, 1) := by decide +kernel
theorem dX8_arrives_88 : decode cX8_arrives 88 = .ok (.aload_n 0, 1) := by decide +kernel
theorem dX8_arrives_89 : decode cX8_arrives 89 = .ok (.getfield 9, 3) := by decide +kernel
theorem dX8_arrives_92 : decode cX8_arrives 92 = .ok (.iconst 5, 1) := by decide +kernel
theorem dX8_arrives_93 : decode cX8_arrives 93 = .ok (.dup2, 1) := by decide +kernel
theorem dX8_arrives_94 : decode cX8_arrives 94 = .ok (.iaload, 1) := by decide +kernel
theorem dX8_arrives_95 : decode cX8_arrives 95 = .ok (.iconst 1, 1) := by decide +kernel
theorem dX8_arrives_96 : decode cX8_arrives 96 = .ok (.iadd, 1) := by decide +kernel
theorem dX8_arrives_97 : decode cX8_arrives 97 = .ok (.iastore, 1) := by decide +kernel
theorem dX8_arrives_98 : decode cX8_arrives 98 = .ok (.return_, 1) := by decide +kernel
theorem dX8_addGuest_0 : decode cX8_addGuest 0 = .ok (.aload_n 0, 1) := by decide +kernel
theorem dX8_addGuest_1 : decode cX8_addGuest 1 = .ok (.iconst 0, 1) := by decide +kernel
theorem dX8_addGuest_2 : decode cX8_addGuest 2 = .ok (.putfield 41, 3) := by decide +kernel
theorem dX8_addGuest_5 : decode cX8_addGuest 5 = .ok (.iload_n 1, 1) := by decide +kernel
theorem dX8_addGuest_6 : decode cX8_addGuest 6 = .ok (.invokestatic 58, 3) := by decide +kernel
theorem dX8_addGuest_9 : decode cX8_addGuest 9 = .ok (.ifCond .ne 9, 3) := by decide +kernel
theorem dX8_addGuest_12 : decode cX8_addGuest 12 = .ok (.aload_n 0, 1) := by decide +kernel
theorem dX8_addGuest_13 : decode cX8_addGuest 13 = .ok (.iconst 1, 1) := by decide +kernel
theorem dX8_addGuest_14 : decode cX8_addGuest 14 = .ok (.invokevirtual 62, 3) := by decide +kernel
theorem dX8_addGuest_17 : decode cX8_addGuest 17 = .ok (.ireturn, 1) := by decide +kernel
theorem dX8_addGuest_18 : decode cX8_addGuest 18 = .ok (.iload_n 2, 1) := by decide +kernel
theorem dX8_addGuest_19 : decode cX8_addGuest 19 = .ok (.iconst 1, 1) := by decide +kernel
theorem dX8_addGuest_20 : decode cX8_addGuest 20 = .ok (.iconst 3, 1) := by decide +kernel
theorem dX8_addGuest_21 : decode cX8_addGuest 21 = .ok (.invokestatic 47, 3) := by decide +kernel
theorem dX8_addGuest_24 : decode cX8_addGuest 24 = .ok (.ifCond .eq 37, 3) := by decide +kernel
theorem dX8_addGuest_27 : decode cX8_addGuest 27 = .ok (.iload_n 3, 1) := by decide +kernel
theorem dX8_addGuest_28 : decode cX8_addGuest 28 = .ok (.iconst 0, 1) := by decide +kernel
theorem dX8_addGuest_29 : decode cX8_addGuest 29 = .ok (.bipush 15, 2) := by decide +kernel
theorem dX8_addGuest_31 : decode cX8_addGuest 31 = .ok (.invokestatic 47, 3) := by decide +kernel
theorem dX8_addGuest_34 : decode cX8_addGuest 34 = .ok (.ifCond .eq 27, 3) := by decide +kernel
theorem dX8_addGuest_37 : decode cX8_addGuest 37 = .ok (.iload 4, 2) := by decide +kernel
theorem dX8_addGuest_39 : decode cX8_addGuest 39 = .ok (.iconst 0, 1) := by decide +kernel
theorem dX8_addGuest_40 : decode cX8_addGuest 40 = .ok (.sipush 1000, 3) := by decide +kernel
theorem dX8_addGuest_43 : decode cX8_addGuest 43 = .ok (.invokestatic 47, 3) := by decide +kernel
theorem dX8_addGuest_46 : decode cX8_addGuest 46 = .ok (.ifCond .eq 15, 3) := by decide +kernel
theorem dX8_addGuest_49 : decode cX8_addGuest 49 = .ok (.iload 5, 2) := by decide +kernel
theorem dX8_addGuest_51 : decode cX8_addGuest 51 = .ok (.iconst 0, 1) := by decide +kernel
theorem dX8_addGuest_52 : decode cX8_addGuest 52 = .ok (.sipush 1000, 3) := by decide +kernel
theorem dX8_addGuest_55 : decode cX8_addGuest 55 = .ok (.invokestatic 47, 3) := by decide +kernel
theorem dX8_addGuest_58 : decode cX8_addGuest 58 = .ok (.ifCond .ne 9, 3) := by decide +kernel
theorem dX8_addGuest_61 : decode cX8_addGuest 61 = .ok (.aload_n 0, 1) := by decide +kernel
theorem dX8_addGuest_62 : decode cX8_addGuest 62 = .ok (.iconst 2, 1) := by decide +kernel
theorem dX8_addGuest_63 : decode cX8_addGuest 63 = .ok (.invokevirtual 62, 3) := by decide +kernel
theorem dX8_addGuest_66 : decode cX8_addGuest 66 = .ok (.ireturn, 1) := by decide +kernel
theorem dX8_addGuest_67 : decode cX8_addGuest 67 = .ok (.aload_n 0, 1) := by decide +kernel
theorem dX8_addGuest_68 : decode cX8_addGuest 68 = .ok (.getfield 9, 3) := by decide +kernel
theorem dX8_addGuest_71 : decode cX8_addGuest 71 = .ok (.iconst 5, 1) := by decide +kernel
theorem dX8_addGuest_72 : decode cX8_addGuest 72 = .ok (.iaload, 1) := by decide +kernel
theorem dX8_addGuest_73 : decode cX8_addGuest 73 = .ok (.bipush 16, 2) := by decide +kernel
theorem dX8_addGuest_75 : decode cX8_addGuest 75 = .ok (.if_icmp .ne 9, 3) := by decide +kernel
theorem dX8_addGuest_78 : decode cX8_addGuest 78 = .ok (.aload_n 0, 1) := by decide +kernel
theorem dX8_addGuest_79 : decode cX8_addGuest 79 = .ok (.iconst 3, 1) := by decide +kernel
theorem dX8_addGuest_80 : decode cX8_addGuest 80 = .ok (.invokevirtual 62, 3) := by decide +kernel
theorem dX8_addGuest_83 : decode cX8_addGuest 83 = .ok (.ireturn, 1) := by decide +kernel
theorem dX8_addGuest_84 : decode cX8_addGuest 84 = .ok (.aload_n 0, 1) := by decide +kernel
theorem dX8_addGuest_85 : decode cX8_addGuest 85 = .ok (.invokevirtual 65, 3) := by decide +kernel
theorem dX8_addGuest_88 : decode cX8_addGuest 88 = .ok (.aload_n 0, 1) := by decide +kernel
theorem dX8_addGuest_89 : decode cX8_addGuest 89 = .ok (.iload_n 1, 1) := by decide +kernel
theorem dX8_addGuest_90 : decode cX8_addGuest 90 = .ok (.iload_n 2, 1) := by decide +kernel
theorem dX8_addGuest_91 : decode cX8_addGuest 91 = .ok (.iload_n 3, 1) := by decide +kernel
theorem dX8_addGuest_92 : decode cX8_addGuest 92 = .ok (.iload 4, 2) := by decide +kernel
theorem dX8_addGuest_94 : decode cX8_addGuest 94 = .ok (.iload 5, 2) := by decide +kernel
theorem dX8_addGuest_96 : decode cX8_addGuest 96 = .ok (.invokevirtual 88, 3) := by decide +kernel
theorem dX8_addGuest_99 : decode cX8_addGuest 99 = .ok (.aload_n 0, 1) := by decide +kernel
theorem dX8_addGuest_100 : decode cX8_addGuest 100 = .ok (.getfield 9, 3) := by decide +kernel
theorem dX8_addGuest_103 : decode cX8_addGuest 103 = .ok (.iconst 5, 1) := by decide +kernel
theorem dX8_addGuest_104 : decode cX8_addGuest 104 = .ok (.iaload, 1) := by decide +kernel
theorem dX8_addGuest_105 : decode cX8_addGuest 105 = .ok (.iconst 1, 1) := by decide +kernel
theorem dX8_addGuest_106 : decode cX8_addGuest 106 = .ok (.isub, 1) := by decide +kernel
theorem dX8_addGuest_107 : decode cX8_addGuest 107 = .ok (.ireturn, 1) := by decide +kernel
theorem dX8_placeOf_0 : decode cX8_placeOf 0 = .ok (.aload_n 0, 1) := by decide +kernel
theorem dX8_placeOf_1 : decode cX8_placeOf 1 = .ok (.getfield 9, 3) := by decide +kernel
theorem dX8_placeOf_4 : decode cX8_placeOf 4 = .ok (.iload_n 1, 1) := by decide +kernel
theorem dX8_placeOf_5 : decode cX8_placeOf 5 = .ok (.invokestatic 71, 3) := by decide +kernel
theorem dX8_placeOf_8 : decode cX8_placeOf 8 = .ok (.iconst 5, 1) := by decide +kernel
theorem dX8_placeOf_9 : decode cX8_placeOf 9 = .ok (.iadd, 1) := by decide +kernel
theorem dX8_placeOf_10 : decode cX8_placeOf 10 = .ok (.iaload, 1) := by decide +kernel
theorem dX8_placeOf_11 : decode cX8_placeOf 11 = .ok (.invokestatic 51, 3) := by decide +kernel
theorem dX8_placeOf_14 : decode cX8_placeOf 14 = .ok (.bipush 11, 2) := by decide +kernel
theorem dX8_placeOf_16 : decode cX8_placeOf 16 = .ok (.iadd, 1) := by decide +kernel
theorem dX8_placeOf_17 : decode cX8_placeOf 17 = .ok (.istore_n 2, 1) := by decide +kernel
theorem dX8_placeOf_18 : decode cX8_placeOf 18 = .ok (.iconst 0, 1) := by decide +kernel
theorem dX8_placeOf_19 : decode cX8_placeOf 19 = .ok (.istore_n 3, 1) := by decide +kernel
theorem dX8_placeOf_20 : decode cX8_placeOf 20 = .ok (.aload_n 0, 1) := by decide +kernel
theorem dX8_placeOf_21 : decode cX8_placeOf 21 = .ok (.getfield 9, 3) := by decide +kernel
theorem dX8_placeOf_24 : decode cX8_placeOf 24 = .ok (.iload_n 2, 1) := by decide +kernel
theorem dX8_placeOf_25 : decode cX8_placeOf 25 = .ok (.iload_n 3, 1) := by decide +kernel
theorem dX8_placeOf_26 : decode cX8_placeOf 26 = .ok (.iadd, 1) := by decide +kernel
theorem dX8_placeOf_27 : decode cX8_placeOf 27 = .ok (.iaload, 1) := by decide +kernel
theorem dX8_placeOf_28 : decode cX8_placeOf 28 = .ok (.iload_n 1, 1) := by decide +kernel
theorem dX8_placeOf_29 : decode cX8_placeOf 29 = .ok (.if_icmp .eq 9, 3) := by decide +kernel
theorem dX8_placeOf_32 : decode cX8_placeOf 32 = .ok (.iinc 3 1, 3) := by decide +kernel
theorem dX8_placeOf_35 : decode cX8_placeOf 35 = .ok (.goto (-15), 3) := by decide +kernel
theorem dX8_placeOf_38 : decode cX8_placeOf 38 = .ok (.iload_n 3, 1) := by decide +kernel
theorem dX8_placeOf_39 : decode cX8_placeOf 39 = .ok (.ireturn, 1) := by decide +kernel
theorem dX8_guest_0 : decode cX8_guest 0 = .ok (.aload_n 0, 1) := by decide +kernel
theorem dX8_guest_1 : decode cX8_guest 1 = .ok (.aload_n 0, 1) := by decide +kernel
theorem dX8_guest_2 : decode cX8_guest 2 = .ok (.iload_n 1, 1) := by decide +kernel
theorem dX8_guest_3 : decode cX8_guest 3 = .ok (.invokevirtual 92, 3) := by decide +kernel
theorem dX8_guest_6 : decode cX8_guest 6 = .ok (.ifCond .ne 7, 3) := by decide +kernel
theorem dX8_guest_9 : decode cX8_guest 9 = .ok (.iconst 1, 1) := by decide +kernel
theorem dX8_guest_10 : decode cX8_guest 10 = .ok (.goto 18, 3) := by decide +kernel
theorem dX8_guest_13 : decode cX8_guest 13 = .ok (.iload_n 2, 1) := by decide +kernel
theorem dX8_guest_14 : decode cX8_guest 14 = .ok (.iconst 0, 1) := by decide +kernel
theorem dX8_guest_15 : decode cX8_guest 15 = .ok (.bipush 6, 2) := by decide +kernel
theorem dX8_guest_17 : decode cX8_guest 17 = .ok (.invokestatic 47, 3) := by decide +kernel
theorem dX8_guest_20 : decode cX8_guest 20 = .ok (.ifCond .ne 7, 3) := by decide +kernel
theorem dX8_guest_23 : decode cX8_guest 23 = .ok (.iconst 2, 1) := by decide +kernel
theorem dX8_guest_24 : decode cX8_guest 24 = .ok (.goto 4, 3) := by decide +kernel
theorem dX8_guest_27 : decode cX8_guest 27 = .ok (.iconst 0, 1) := by decide +kernel
theorem dX8_guest_28 : decode cX8_guest 28 = .ok (.putfield 41, 3) := by decide +kernel
theorem dX8_guest_31 : decode cX8_guest 31 = .ok (.aload_n 0, 1) := by decide +kernel
theorem dX8_guest_32 : decode cX8_guest 32 = .ok (.getfield 41, 3) := by decide +kernel
theorem dX8_guest_35 : decode cX8_guest 35 = .ok (.ifCond .le 5, 3) := by decide +kernel
theorem dX8_guest_38 : decode cX8_guest 38 = .ok (.iconst 0, 1) := by decide +kernel
theorem dX8_guest_39 : decode cX8_guest 39 = .ok (.ireturn, 1) := by decide +kernel
theorem dX8_guest_40 : decode cX8_guest 40 = .ok (.iload_n 1, 1) := by decide +kernel
theorem dX8_guest_41 : decode cX8_guest 41 = .ok (.invokestatic 71, 3) := by decide +kernel
theorem dX8_guest_44 : decode cX8_guest 44 = .ok (.istore_n 3, 1) := by decide +kernel
theorem dX8_guest_45 : decode cX8_guest 45 = .ok (.aload_n 0, 1) := by decide +kernel
theorem dX8_guest_46 : decode cX8_guest 46 = .ok (.getfield 9, 3) := by decide +kernel
theorem dX8_guest_49 : decode cX8_guest 49 = .ok (.iload_n 3, 1) := by decide +kernel
theorem dX8_guest_50 : decode cX8_guest 50 = .ok (.iconst 4, 1) := by decide +kernel
theorem dX8_guest_51 : decode cX8_guest 51 = .ok (.iadd, 1) := by decide +kernel
theorem dX8_guest_52 : decode cX8_guest 52 = .ok (.iaload, 1) := by decide +kernel
theorem dX8_guest_53 : decode cX8_guest 53 = .ok (.istore 4, 2) := by decide +kernel
theorem dX8_guest_55 : decode cX8_guest 55 = .ok (.iload_n 2, 1) := by decide +kernel
theorem dX8_guest_56 : decode cX8_guest 56 = .ok (.tableswitch 90 0 2 #[28, 31, 50], 28) := by decide +kernel
theorem dX8_guest_84 : decode cX8_guest 84 = .ok (.iload 4, 2) := by decide +kernel
theorem dX8_guest_86 : decode cX8_guest 86 = .ok (.ireturn, 1) := by decide +kernel
theorem dX8_guest_87 : decode cX8_guest 87 = .ok (.iload 4, 2) := by decide +kernel
theorem dX8_guest_89 : decode cX8_guest 89 = .ok (.iconst 4, 1) := by decide +kernel
theorem dX8_guest_90 : decode cX8_guest 90 = .ok (.if_icmp .ne 7, 3) := by decide +kernel
theorem dX8_guest_93 : decode cX8_guest 93 = .ok (.iconst (-1), 1) := by decide +kernel
theorem dX8_guest_94 : decode cX8_guest 94 = .ok (.goto 11, 3) := by decide +kernel
theorem dX8_guest_97 : decode cX8_guest 97 = .ok (.aload_n 0, 1) := by decide +kernel
theorem dX8_guest_98 : decode cX8_guest 98 = .ok (.getfield 9, 3) := by decide +kernel
theorem dX8_guest_101 : decode cX8_guest 101 = .ok (.iload_n 3, 1) := by decide +kernel
theorem dX8_guest_102 : decode cX8_guest 102 = .ok (.iconst 5, 1) := by decide +kernel
theorem dX8_guest_103 : decode cX8_guest 103 = .ok (.iadd, 1) := by decide +kernel
theorem dX8_guest_104 : decode cX8_guest 104 = .ok (.iaload, 1) := by decide +kernel
theorem dX8_guest_105 : decode cX8_guest 105 = .ok (.ireturn, 1) := by decide +kernel
theorem dX8_guest_106 : decode cX8_guest 106 = .ok (.iload 4, 2) := by decide +kernel
theorem dX8_guest_108 : decode cX8_guest 108 = .ok (.iconst 1, 1) := by decide +kernel
theorem dX8_guest_109 : decode cX8_guest 109 = .ok (.if_icmp .ne 11, 3) := by decide +kernel
theorem dX8_guest_112 : decode cX8_guest 112 = .ok (.aload_n 0, 1) := by decide +kernel
theorem dX8_guest_113 : decode cX8_guest 113 = .ok (.iload_n 1, 1) := by decide +kernel
theorem dX8_guest_114 : decode cX8_guest 114 = .ok (.invokevirtual 95, 3) := by decide +kernel
theorem dX8_guest_117 : decode cX8_guest 117 = .ok (.goto 28, 3) := by decide +kernel
theorem dX8_guest_120 : decode cX8_guest 120 = .ok (.iload 4, 2) := by decide +kernel
theorem dX8_guest_122 : decode cX8_guest 122 = .ok (.iconst 2, 1) := by decide +kernel
theorem dX8_guest_123 : decode cX8_guest 123 = .ok (.if_icmp .eq 9, 3) := by decide +kernel
theorem dX8_guest_126 : decode cX8_guest 126 = .ok (.iload 4, 2) := by decide +kernel
theorem dX8_guest_128 : decode cX8_guest 128 = .ok (.iconst 3, 1) := by decide +kernel
theorem dX8_guest_129 : decode cX8_guest 129 = .ok (.if_icmp .ne 15, 3) := by decide +kernel
theorem dX8_guest_132 : decode cX8_guest 132 = .ok (.aload_n 0, 1) := by decide +kernel
theorem dX8_guest_133 : decode cX8_guest 133 = .ok (.getfield 9, 3) := by decide +kernel
theorem dX8_guest_136 : decode cX8_guest 136 = .ok (.iload_n 3, 1) := by decide +kernel
theorem dX8_guest_137 : decode cX8_guest 137 = .ok (.bipush 6, 2) := by decide +kernel
theorem dX8_guest_139 : decode cX8_guest 139 = .ok (.iadd, 1) := by decide +kernel
theorem dX8_guest_140 : decode cX8_guest 140 = .ok (.iaload, 1) := by decide +kernel
theorem dX8_guest_141 : decode cX8_guest 141 = .ok (.goto 4, 3) := by decide +kernel
theorem dX8_guest_144 : decode cX8_guest 144 = .ok (.iconst 0, 1) := by decide +kernel
theorem dX8_guest_145 : decode cX8_guest 145 = .ok (.ireturn, 1) := by decide +kernel
theorem dX8_guest_146 : decode cX8_guest 146 = .ok (.aload_n 0, 1) := by decide +kernel
theorem dX8_guest_147 : decode cX8_guest 147 = .ok (.getfield 9, 3) := by decide +kernel
theorem dX8_guest_150 : decode cX8_guest 150 = .ok (.iload_n 3, 1) := by decide +kernel
theorem dX8_guest_151 : decode cX8_guest 151 = .ok (.iload_n 2, 1) := by decide +kernel
theorem dX8_guest_152 : decode cX8_guest 152 = .ok (.iadd, 1) := by decide +kernel
theorem dX8_guest_153 : decode cX8_guest 153 = .ok (.iconst 3, 1) := by decide +kernel
theorem dX8_guest_154 : decode cX8_guest 154 = .ok (.isub, 1) := by decide +kernel
theorem dX8_guest_155 : decode cX8_guest 155 = .ok (.iaload, 1) := by decide +kernel
theorem dX8_guest_156 : decode cX8_guest 156 = .ok (.ireturn, 1) := by decide +kernel
theorem dX8_isOpenTo_0 : decode cX8_isOpenTo 0 = .ok (.iload_n 1, 1) := by decide +kernel
theorem dX8_isOpenTo_1 : decode cX8_isOpenTo 1 = .ok (.invokestatic 71, 3) := by decide +kernel
theorem dX8_isOpenTo_4 : decode cX8_isOpenTo 4 = .ok (.istore_n 3, 1) := by decide +kernel
theorem dX8_isOpenTo_5 : decode cX8_isOpenTo 5 = .ok (.aload_n 0, 1) := by decide +kernel
theorem dX8_isOpenTo_6 : decode cX8_isOpenTo 6 = .ok (.getfield 9, 3) := by decide +kernel
theorem dX8_isOpenTo_9 : decode cX8_isOpenTo 9 = .ok (.iload_n 3, 1) := by decide +kernel
theorem dX8_isOpenTo_10 : decode cX8_isOpenTo 10 = .ok (.iconst 1, 1) := by decide +kernel
theorem dX8_isOpenTo_11 : decode cX8_isOpenTo 11 = .ok (.iadd, 1) := by decide +kernel
theorem dX8_isOpenTo_12 : decode cX8_isOpenTo 12 = .ok (.iaload, 1) := by decide +kernel
theorem dX8_isOpenTo_13 : decode cX8_isOpenTo 13 = .ok (.aload_n 0, 1) := by decide +kernel
theorem dX8_isOpenTo_14 : decode cX8_isOpenTo 14 = .ok (.getfield 9, 3) := by decide +kernel
theorem dX8_isOpenTo_17 : decode cX8_isOpenTo 17 = .ok (.iload_n 2, 1) := by decide +kernel
theorem dX8_isOpenTo_18 : decode cX8_isOpenTo 18 = .ok (.invokestatic 51, 3) := by decide +kernel
theorem dX8_isOpenTo_21 : decode cX8_isOpenTo 21 = .ok (.iconst 2, 1) := by decide +kernel
theorem dX8_isOpenTo_22 : decode cX8_isOpenTo 22 = .ok (.iadd, 1) := by decide +kernel
theorem dX8_isOpenTo_23 : decode cX8_isOpenTo 23 = .ok (.iaload, 1) := by decide +kernel
theorem dX8_isOpenTo_24 : decode cX8_isOpenTo 24 = .ok (.ishr, 1) := by decide +kernel
theorem dX8_isOpenTo_25 : decode cX8_isOpenTo 25 = .ok (.iconst 1, 1) := by decide +kernel
theorem dX8_isOpenTo_26 : decode cX8_isOpenTo 26 = .ok (.iand, 1) := by decide +kernel
theorem dX8_isOpenTo_27 : decode cX8_isOpenTo 27 = .ok (.iconst 1, 1) := by decide +kernel
theorem dX8_isOpenTo_28 : decode cX8_isOpenTo 28 = .ok (.if_icmp .ne 35, 3) := by decide +kernel
theorem dX8_isOpenTo_31 : decode cX8_isOpenTo 31 = .ok (.aload_n 0, 1) := by decide +kernel
theorem dX8_isOpenTo_32 : decode cX8_isOpenTo 32 = .ok (.getfield 9, 3) := by decide +kernel
theorem dX8_isOpenTo_35 : decode cX8_isOpenTo 35 = .ok (.iconst 2, 1) := by decide +kernel
theorem dX8_isOpenTo_36 : decode cX8_isOpenTo 36 = .ok (.iaload, 1) := by decide +kernel
theorem dX8_isOpenTo_37 : decode cX8_isOpenTo 37 = .ok (.aload_n 0, 1) := by decide +kernel
theorem dX8_isOpenTo_38 : decode cX8_isOpenTo 38 = .ok (.getfield 9, 3) := by decide +kernel
theorem dX8_isOpenTo_41 : decode cX8_isOpenTo 41 = .ok (.iload_n 3, 1) := by decide +kernel
theorem dX8_isOpenTo_42 : decode cX8_isOpenTo 42 = .ok (.iconst 2, 1) := by decide +kernel
theorem dX8_isOpenTo_43 : decode cX8_isOpenTo 43 = .ok (.iadd, 1) := by decide +kernel
theorem dX8_isOpenTo_44 : decode cX8_isOpenTo 44 = .ok (.iaload, 1) := by decide +kernel
theorem dX8_isOpenTo_45 : decode cX8_isOpenTo 45 = .ok (.aload_n 0, 1) := by decide +kernel
theorem dX8_isOpenTo_46 : decode cX8_isOpenTo 46 = .ok (.getfield 9, 3) := by decide +kernel
theorem dX8_isOpenTo_49 : decode cX8_isOpenTo 49 = .ok (.iload_n 3, 1) := by decide +kernel
theorem dX8_isOpenTo_50 : decode cX8_isOpenTo 50 = .ok (.iconst 3, 1) := by decide +kernel
theorem dX8_isOpenTo_51 : decode cX8_isOpenTo 51 = .ok (.iadd, 1) := by decide +kernel
theorem dX8_isOpenTo_52 : decode cX8_isOpenTo 52 = .ok (.iaload, 1) := by decide +kernel
theorem dX8_isOpenTo_53 : decode cX8_isOpenTo 53 = .ok (.invokestatic 47, 3) := by decide +kernel
theorem dX8_isOpenTo_56 : decode cX8_isOpenTo 56 = .ok (.ifCond .eq 7, 3) := by decide +kernel
theorem dX8_isOpenTo_59 : decode cX8_isOpenTo 59 = .ok (.iconst 1, 1) := by decide +kernel
theorem dX8_isOpenTo_60 : decode cX8_isOpenTo 60 = .ok (.goto 4, 3) := by decide +kernel
theorem dX8_isOpenTo_63 : decode cX8_isOpenTo 63 = .ok (.iconst 0, 1) := by decide +kernel
theorem dX8_isOpenTo_64 : decode cX8_isOpenTo 64 = .ok (.ireturn, 1) := by decide +kernel
theorem dX8_whyNoLift_0 : decode cX8_whyNoLift 0 = .ok (.iload_n 1, 1) := by decide +kernel
theorem dX8_whyNoLift_1 : decode cX8_whyNoLift 1 = .ok (.invokestatic 71, 3) := by decide +kernel
theorem dX8_whyNoLift_4 : decode cX8_whyNoLift 4 = .ok (.istore_n 3, 1) := by decide +kernel
theorem dX8_whyNoLift_5 : decode cX8_whyNoLift 5 = .ok (.aload_n 0, 1) := by decide +kernel
theorem dX8_whyNoLift_6 : decode cX8_whyNoLift 6 = .ok (.getfield 9, 3) := by decide +kernel
theorem dX8_whyNoLift_9 : decode cX8_whyNoLift 9 = .ok (.iload_n 3, 1) := by decide +kernel
theorem dX8_whyNoLift_10 : decode cX8_whyNoLift 10 = .ok (.iconst 4, 1) := by decide +kernel
theorem dX8_whyNoLift_11 : decode cX8_whyNoLift 11 = .ok (.iadd, 1) := by decide +kernel
theorem dX8_whyNoLift_12 : decode cX8_whyNoLift 12 = .ok (.iaload, 1) := by decide +kernel
theorem dX8_whyNoLift_13 : decode cX8_whyNoLift 13 = .ok (.ifCond .eq 7, 3) := by decide +kernel
theorem dX8_whyNoLift_16 : decode cX8_whyNoLift 16 = .ok (.iconst 1, 1) := by decide +kernel
theorem dX8_whyNoLift_17 : decode cX8_whyNoLift 17 = .ok (.goto 75, 3) := by decide +kernel
theorem dX8_whyNoLift_20 : decode cX8_whyNoLift 20 = .ok (.aload_n 0, 1) := by decide +kernel
theorem dX8_whyNoLift_21 : decode cX8_whyNoLift 21 = .ok (.getfield 9, 3) := by decide +kernel
theorem dX8_whyNoLift_24 : decode cX8_whyNoLift 24 = .ok (.iload_n 3, 1) := by decide +kernel
theorem dX8_whyNoLift_25 : decode cX8_whyNoLift 25 = .ok (.iconst 5, 1) := by decide +kernel
theorem dX8_whyNoLift_26 : decode cX8_whyNoLift 26 = .ok (.iadd, 1) := by decide +kernel
theorem dX8_whyNoLift_27 : decode cX8_whyNoLift 27 = .ok (.iaload, 1) := by decide +kernel
theorem dX8_whyNoLift_28 : decode cX8_whyNoLift 28 = .ok (.aload_n 0, 1) := by decide +kernel
theorem dX8_whyNoLift_29 : decode cX8_whyNoLift 29 = .ok (.getfield 9, 3) := by decide +kernel
theorem dX8_whyNoLift_32 : decode cX8_whyNoLift 32 = .ok (.iload_n 2, 1) := by decide +kernel
theorem dX8_whyNoLift_33 : decode cX8_whyNoLift 33 = .ok (.invokestatic 51, 3) := by decide +kernel
theorem dX8_whyNoLift_36 : decode cX8_whyNoLift 36 = .ok (.iaload, 1) := by decide +kernel
theorem dX8_whyNoLift_37 : decode cX8_whyNoLift 37 = .ok (.if_icmp .eq 7, 3) := by decide +kernel
theorem dX8_whyNoLift_40 : decode cX8_whyNoLift 40 = .ok (.iconst 2, 1) := by decide +kernel
theorem dX8_whyNoLift_41 : decode cX8_whyNoLift 41 = .ok (.goto 51, 3) := by decide +kernel
theorem dX8_whyNoLift_44 : decode cX8_whyNoLift 44 = .ok (.aload_n 0, 1) := by decide +kernel
theorem dX8_whyNoLift_45 : decode cX8_whyNoLift 45 = .ok (.iload_n 1, 1) := by decide +kernel
theorem dX8_whyNoLift_46 : decode cX8_whyNoLift 46 = .ok (.iload_n 2, 1) := by decide +kernel
theorem dX8_whyNoLift_47 : decode cX8_whyNoLift 47 = .ok (.invokevirtual 98, 3) := by decide +kernel
theorem dX8_whyNoLift_50 : decode cX8_whyNoLift 50 = .ok (.ifCond .ne 7, 3) := by decide +kernel
theorem dX8_whyNoLift_53 : decode cX8_whyNoLift 53 = .ok (.iconst 3, 1) := by decide +kernel
theorem dX8_whyNoLift_54 : decode cX8_whyNoLift 54 = .ok (.goto 38, 3) := by decide +kernel
theorem dX8_whyNoLift_57 : decode cX8_whyNoLift 57 = .ok (.aload_n 0, 1) := by decide +kernel
theorem dX8_whyNoLift_58 : decode cX8_whyNoLift 58 = .ok (.iload_n 2, 1) := by decide +kernel
theorem dX8_whyNoLift_59 : decode cX8_whyNoLift 59 = .ok (.invokevirtual 55, 3) := by decide +kernel
theorem dX8_whyNoLift_62 : decode cX8_whyNoLift 62 = .ok (.iconst 2, 1) := by decide +kernel
theorem dX8_whyNoLift_63 : decode cX8_whyNoLift 63 = .ok (.if_icmp .ne 7, 3) := by decide +kernel
theorem dX8_whyNoLift_66 : decode cX8_whyNoLift 66 = .ok (.iconst 4, 1) := by decide +kernel
theorem dX8_whyNoLift_67 : decode cX8_whyNoLift 67 = .ok (.goto 25, 3) := by decide +kernel
theorem dX8_whyNoLift_70 : decode cX8_whyNoLift 70 = .ok (.aload_n 0, 1) := by decide +kernel
theorem dX8_whyNoLift_71 : decode cX8_whyNoLift 71 = .ok (.getfield 9, 3) := by decide +kernel
theorem dX8_whyNoLift_74 : decode cX8_whyNoLift 74 = .ok (.iload_n 2, 1) := by decide +kernel
theorem dX8_whyNoLift_75 : decode cX8_whyNoLift 75 = .ok (.invokestatic 51, 3) := by decide +kernel
theorem dX8_whyNoLift_78 : decode cX8_whyNoLift 78 = .ok (.bipush 10, 2) := by decide +kernel
theorem dX8_whyNoLift_80 : decode cX8_whyNoLift 80 = .ok (.iadd, 1) := by decide +kernel
theorem dX8_whyNoLift_81 : decode cX8_whyNoLift 81 = .ok (.iaload, 1) := by decide +kernel
theorem dX8_whyNoLift_82 : decode cX8_whyNoLift 82 = .ok (.bipush 10, 2) := by decide +kernel
theorem dX8_whyNoLift_84 : decode cX8_whyNoLift 84 = .ok (.if_icmp .ne 7, 3) := by decide +kernel
theorem dX8_whyNoLift_87 : decode cX8_whyNoLift 87 = .ok (.iconst 5, 1) := by decide +kernel
theorem dX8_whyNoLift_88 : decode cX8_whyNoLift 88 = .ok (.goto 4, 3) := by decide +kernel
theorem dX8_whyNoLift_91 : decode cX8_whyNoLift 91 = .ok (.iconst 0, 1) := by decide +kernel
theorem dX8_whyNoLift_92 : decode cX8_whyNoLift 92 = .ok (.ireturn, 1) := by decide +kernel
theorem dX8_whyNoPiste_0 : decode cX8_whyNoPiste 0 = .ok (.iload_n 1, 1) := by decide +kernel
theorem dX8_whyNoPiste_1 : decode cX8_whyNoPiste 1 = .ok (.invokestatic 71, 3) := by decide +kernel
theorem dX8_whyNoPiste_4 : decode cX8_whyNoPiste 4 = .ok (.istore_n 3, 1) := by decide +kernel
theorem dX8_whyNoPiste_5 : decode cX8_whyNoPiste 5 = .ok (.aload_n 0, 1) := by decide +kernel
theorem dX8_whyNoPiste_6 : decode cX8_whyNoPiste 6 = .ok (.getfield 9, 3) := by decide +kernel
theorem dX8_whyNoPiste_9 : decode cX8_whyNoPiste 9 = .ok (.iload_n 3, 1) := by decide +kernel
theorem dX8_whyNoPiste_10 : decode cX8_whyNoPiste 10 = .ok (.iconst 4, 1) := by decide +kernel
theorem dX8_whyNoPiste_11 : decode cX8_whyNoPiste 11 = .ok (.iadd, 1) := by decide +kernel
theorem dX8_whyNoPiste_12 : decode cX8_whyNoPiste 12 = .ok (.iaload, 1) := by decide +kernel
theorem dX8_whyNoPiste_13 : decode cX8_whyNoPiste 13 = .ok (.ifCond .eq 7, 3) := by decide +kernel
theorem dX8_whyNoPiste_16 : decode cX8_whyNoPiste 16 = .ok (.iconst 1, 1) := by decide +kernel
theorem dX8_whyNoPiste_17 : decode cX8_whyNoPiste 17 = .ok (.goto 74, 3) := by decide +kernel
theorem dX8_whyNoPiste_20 : decode cX8_whyNoPiste 20 = .ok (.aload_n 0, 1) := by decide +kernel
theorem dX8_whyNoPiste_21 : decode cX8_whyNoPiste 21 = .ok (.getfield 9, 3) := by decide +kernel
theorem dX8_whyNoPiste_24 : decode cX8_whyNoPiste 24 = .ok (.iload_n 3, 1) := by decide +kernel
theorem dX8_whyNoPiste_25 : decode cX8_whyNoPiste 25 = .ok (.iconst 5, 1) := by decide +kernel
theorem dX8_whyNoPiste_26 : decode cX8_whyNoPiste 26 = .ok (.iadd, 1) := by decide +kernel
theorem dX8_whyNoPiste_27 : decode cX8_whyNoPiste 27 = .ok (.iaload, 1) := by decide +kernel
theorem dX8_whyNoPiste_28 : decode cX8_whyNoPiste 28 = .ok (.aload_n 0, 1) := by decide +kernel
theorem dX8_whyNoPiste_29 : decode cX8_whyNoPiste 29 = .ok (.getfield 9, 3) := by decide +kernel
theorem dX8_whyNoPiste_32 : decode cX8_whyNoPiste 32 = .ok (.iload_n 2, 1) := by decide +kernel
theorem dX8_whyNoPiste_33 : decode cX8_whyNoPiste 33 = .ok (.invokestatic 68, 3) := by decide +kernel
theorem dX8_whyNoPiste_36 : decode cX8_whyNoPiste 36 = .ok (.iaload, 1) := by decide +kernel
theorem dX8_whyNoPiste_37 : decode cX8_whyNoPiste 37 = .ok (.if_icmp .eq 7, 3) := by decide +kernel
theorem dX8_whyNoPiste_40 : decode cX8_whyNoPiste 40 = .ok (.iconst 2, 1) := by decide +kernel
theorem dX8_whyNoPiste_41 : decode cX8_whyNoPiste 41 = .ok (.goto 50, 3) := by decide +kernel
theorem dX8_whyNoPiste_44 : decode cX8_whyNoPiste 44 = .ok (.aload_n 0, 1) := by decide +kernel
theorem dX8_whyNoPiste_45 : decode cX8_whyNoPiste 45 = .ok (.getfield 9, 3) := by decide +kernel
theorem dX8_whyNoPiste_48 : decode cX8_whyNoPiste 48 = .ok (.iload_n 2, 1) := by decide +kernel
theorem dX8_whyNoPiste_49 : decode cX8_whyNoPiste 49 = .ok (.invokestatic 68, 3) := by decide +kernel
theorem dX8_whyNoPiste_52 : decode cX8_whyNoPiste 52 = .ok (.iconst 4, 1) := by decide +kernel
theorem dX8_whyNoPiste_53 : decode cX8_whyNoPiste 53 = .ok (.iadd, 1) := by decide +kernel
theorem dX8_whyNoPiste_54 : decode cX8_whyNoPiste 54 = .ok (.iaload, 1) := by decide +kernel
theorem dX8_whyNoPiste_55 : decode cX8_whyNoPiste 55 = .ok (.ifCond .eq 8, 3) := by decide +kernel
theorem dX8_whyNoPiste_58 : decode cX8_whyNoPiste 58 = .ok (.bipush 6, 2) := by decide +kernel
theorem dX8_whyNoPiste_60 : decode cX8_whyNoPiste 60 = .ok (.goto 31, 3) := by decide +kernel
theorem dX8_whyNoPiste_63 : decode cX8_whyNoPiste 63 = .ok (.aload_n 0, 1) := by decide +kernel
theorem dX8_whyNoPiste_64 : decode cX8_whyNoPiste 64 = .ok (.getfield 9, 3) := by decide +kernel
theorem dX8_whyNoPiste_67 : decode cX8_whyNoPiste 67 = .ok (.iload_n 2, 1) := by decide +kernel
theorem dX8_whyNoPiste_68 : decode cX8_whyNoPiste 68 = .ok (.invokestatic 68, 3) := by decide +kernel
theorem dX8_whyNoPiste_71 : decode cX8_whyNoPiste 71 = .ok (.iconst 2, 1) := by decide +kernel
theorem dX8_whyNoPiste_72 : decode cX8_whyNoPiste 72 = .ok (.iadd, 1) := by decide +kernel
theorem dX8_whyNoPiste_73 : decode cX8_whyNoPiste 73 = .ok (.iaload, 1) := by decide +kernel
theorem dX8_whyNoPiste_74 : decode cX8_whyNoPiste 74 = .ok (.aload_n 0, 1) := by decide +kernel
theorem dX8_whyNoPiste_75 : decode cX8_whyNoPiste 75 = .ok (.getfield 9, 3) := by decide +kernel
theorem dX8_whyNoPiste_78 : decode cX8_whyNoPiste 78 = .ok (.iload_n 3, 1) := by decide +kernel
theorem dX8_whyNoPiste_79 : decode cX8_whyNoPiste 79 = .ok (.iaload, 1) := by decide +kernel
theorem dX8_whyNoPiste_80 : decode cX8_whyNoPiste 80 = .ok (.iconst 1, 1) := by decide +kernel
theorem dX8_whyNoPiste_81 : decode cX8_whyNoPiste 81 = .ok (.iadd, 1) := by decide +kernel
theorem dX8_whyNoPiste_82 : decode cX8_whyNoPiste 82 = .ok (.if_icmp .le 8, 3) := by decide +kernel
theorem dX8_whyNoPiste_85 : decode cX8_whyNoPiste 85 = .ok (.bipush 7, 2) := by decide +kernel
theorem dX8_whyNoPiste_87 : decode cX8_whyNoPiste 87 = .ok (.goto 4, 3) := by decide +kernel
theorem dX8_whyNoPiste_90 : decode cX8_whyNoPiste 90 = .ok (.iconst 0, 1) := by decide +kernel
theorem dX8_whyNoPiste_91 : decode cX8_whyNoPiste 91 = .ok (.ireturn, 1) := by decide +kernel
theorem dX8_standIn_0 : decode cX8_standIn 0 = .ok (.iload_n 2, 1) := by decide +kernel
theorem dX8_standIn_1 : decode cX8_standIn 1 = .ok (.invokestatic 51, 3) := by decide +kernel
theorem dX8_standIn_4 : decode cX8_standIn 4 = .ok (.istore_n 3, 1) := by decide +kernel
theorem dX8_standIn_5 : decode cX8_standIn 5 = .ok (.aload_n 0, 1) := by decide +kernel
theorem dX8_standIn_6 : decode cX8_standIn 6 = .ok (.getfield 9, 3) := by decide +kernel
theorem dX8_standIn_9 : decode cX8_standIn 9 = .ok (.iload_n 3, 1) := by decide +kernel
theorem dX8_standIn_10 : decode cX8_standIn 10 = .ok (.bipush 11, 2) := by decide +kernel
theorem dX8_standIn_12 : decode cX8_standIn 12 = .ok (.iadd, 1) := by decide +kernel
theorem dX8_standIn_13 : decode cX8_standIn 13 = .ok (.aload_n 0, 1) := by decide +kernel
theorem dX8_standIn_14 : decode cX8_standIn 14 = .ok (.getfield 9, 3) := by decide +kernel
theorem dX8_standIn_17 : decode cX8_standIn 17 = .ok (.iload_n 3, 1) := by decide +kernel
theorem dX8_standIn_18 : decode cX8_standIn 18 = .ok (.bipush 10, 2) := by decide +kernel
theorem dX8_standIn_20 : decode cX8_standIn 20 = .ok (.iadd, 1) := by decide +kernel
theorem dX8_standIn_21 : decode cX8_standIn 21 = .ok (.iaload, 1) := by decide +kernel
theorem dX8_standIn_22 : decode cX8_standIn 22 = .ok (.iadd, 1) := by decide +kernel
theorem dX8_standIn_23 : decode cX8_standIn 23 = .ok (.iload_n 1, 1) := by decide +kernel
theorem dX8_standIn_24 : decode cX8_standIn 24 = .ok (.iastore, 1) := by decide +kernel
theorem dX8_standIn_25 : decode cX8_standIn 25 = .ok (.aload_n 0, 1) := by decide +kernel
theorem dX8_standIn_26 : decode cX8_standIn 26 = .ok (.getfield 9, 3) := by decide +kernel
theorem dX8_standIn_29 : decode cX8_standIn 29 = .ok (.iload_n 3, 1) := by decide +kernel
theorem dX8_standIn_30 : decode cX8_standIn 30 = .ok (.bipush 10, 2) := by decide +kernel
theorem dX8_standIn_32 : decode cX8_standIn 32 = .ok (.iadd, 1) := by decide +kernel
theorem dX8_standIn_33 : decode cX8_standIn 33 = .ok (.dup2, 1) := by decide +kernel
theorem dX8_standIn_34 : decode cX8_standIn 34 = .ok (.iaload, 1) := by decide +kernel
theorem dX8_standIn_35 : decode cX8_standIn 35 = .ok (.iconst 1, 1) := by decide +kernel
theorem dX8_standIn_36 : decode cX8_standIn 36 = .ok (.iadd, 1) := by decide +kernel
theorem dX8_standIn_37 : decode cX8_standIn 37 = .ok (.iastore, 1) := by decide +kernel
theorem dX8_standIn_38 : decode cX8_standIn 38 = .ok (.aload_n 0, 1) := by decide +kernel
theorem dX8_standIn_39 : decode cX8_standIn 39 = .ok (.getfield 9, 3) := by decide +kernel
theorem dX8_standIn_42 : decode cX8_standIn 42 = .ok (.iload_n 1, 1) := by decide +kernel
theorem dX8_standIn_43 : decode cX8_standIn 43 = .ok (.invokestatic 71, 3) := by decide +kernel
theorem dX8_standIn_46 : decode cX8_standIn 46 = .ok (.iconst 4, 1) := by decide +kernel
theorem dX8_standIn_47 : decode cX8_standIn 47 = .ok (.iadd, 1) := by decide +kernel
theorem dX8_standIn_48 : decode cX8_standIn 48 = .ok (.iconst 1, 1) := by decide +kernel
theorem dX8_standIn_49 : decode cX8_standIn 49 = .ok (.iastore, 1) := by decide +kernel
theorem dX8_standIn_50 : decode cX8_standIn 50 = .ok (.aload_n 0, 1) := by decide +kernel
theorem dX8_standIn_51 : decode cX8_standIn 51 = .ok (.getfield 9, 3) := by decide +kernel
theorem dX8_standIn_54 : decode cX8_standIn 54 = .ok (.iload_n 1, 1) := by decide +kernel
theorem dX8_standIn_55 : decode cX8_standIn 55 = .ok (.invokestatic 71, 3) := by decide +kernel
theorem dX8_standIn_58 : decode cX8_standIn 58 = .ok (.iconst 5, 1) := by decide +kernel
theorem dX8_standIn_59 : decode cX8_standIn 59 = .ok (.iadd, 1) := by decide +kernel
theorem dX8_standIn_60 : decode cX8_standIn 60 = .ok (.iload_n 2, 1) := by decide +kernel
theorem dX8_standIn_61 : decode cX8_standIn 61 = .ok (.iastore, 1) := by decide +kernel
theorem dX8_standIn_62 : decode cX8_standIn 62 = .ok (.aload_n 0, 1) := by decide +kernel
theorem dX8_standIn_63 : decode cX8_standIn 63 = .ok (.getfield 9, 3) := by decide +kernel
theorem dX8_standIn_66 : decode cX8_standIn 66 = .ok (.iload_n 3, 1) := by decide +kernel
theorem dX8_standIn_67 : decode cX8_standIn 67 = .ok (.bipush 10, 2) := by decide +kernel
theorem dX8_standIn_69 : decode cX8_standIn 69 = .ok (.iadd, 1) := by decide +kernel
theorem dX8_standIn_70 : decode cX8_standIn 70 = .ok (.iaload, 1) := by decide +kernel
theorem dX8_standIn_71 : decode cX8_standIn 71 = .ok (.iconst 1, 1) := by decide +kernel
theorem dX8_standIn_72 : decode cX8_standIn 72 = .ok (.isub, 1) := by decide +kernel
theorem dX8_standIn_73 : decode cX8_standIn 73 = .ok (.ireturn, 1) := by decide +kernel
theorem dX8_skiTime_0 : decode cX8_skiTime 0 = .ok (.iload_n 2, 1) := by decide +kernel
theorem dX8_skiTime_1 : decode cX8_skiTime 1 = .ok (.invokestatic 68, 3) := by decide +kernel
theorem dX8_skiTime_4 : decode cX8_skiTime 4 = .ok (.istore_n 3, 1) := by decide +kernel
theorem dX8_skiTime_5 : decode cX8_skiTime 5 = .ok (.aload_n 0, 1) := by decide +kernel
theorem dX8_skiTime_6 : decode cX8_skiTime 6 = .ok (.getfield 9, 3) := by decide +kernel
theorem dX8_skiTime_9 : decode cX8_skiTime 9 = .ok (.iload_n 3, 1) := by decide +kernel
theorem dX8_skiTime_10 : decode cX8_skiTime 10 = .ok (.iconst 2, 1) := by decide +kernel
theorem dX8_skiTime_11 : decode cX8_skiTime 11 = .ok (.iadd, 1) := by decide +kernel
theorem dX8_skiTime_12 : decode cX8_skiTime 12 = .ok (.iaload, 1) := by decide +kernel
theorem dX8_skiTime_13 : decode cX8_skiTime 13 = .ok (.aload_n 0, 1) := by decide +kernel
theorem dX8_skiTime_14 : decode cX8_skiTime 14 = .ok (.getfield 9, 3) := by decide +kernel
theorem dX8_skiTime_17 : decode cX8_skiTime 17 = .ok (.iload_n 1, 1) := by decide +kernel
theorem dX8_skiTime_18 : decode cX8_skiTime 18 = .ok (.invokestatic 71, 3) := by decide +kernel
theorem dX8_skiTime_21 : decode cX8_skiTime 21 = .ok (.iaload, 1) := by decide +kernel
theorem dX8_skiTime_22 : decode cX8_skiTime 22 = .ok (.if_icmp .le 16, 3) := by decide +kernel
theorem dX8_skiTime_25 : decode cX8_skiTime 25 = .ok (.iconst 2, 1) := by decide +kernel
theorem dX8_skiTime_26 : decode cX8_skiTime 26 = .ok (.aload_n 0, 1) := by decide +kernel
theorem dX8_skiTime_27 : decode cX8_skiTime 27 = .ok (.getfield 9, 3) := by decide +kernel
theorem dX8_skiTime_30 : decode cX8_skiTime 30 = .ok (.iload_n 3, 1) := by decide +kernel
theorem dX8_skiTime_31 : decode cX8_skiTime 31 = .ok (.iconst 3, 1) := by decide +kernel
theorem dX8_skiTime_32 : decode cX8_skiTime 32 = .ok (.iadd, 1) := by decide +kernel
theorem dX8_skiTime_33 : decode cX8_skiTime 33 = .ok (.iaload, 1) := by decide +kernel
theorem dX8_skiTime_34 : decode cX8_skiTime 34 = .ok (.imul, 1) := by decide +kernel
theorem dX8_skiTime_35 : decode cX8_skiTime 35 = .ok (.goto 11, 3) := by decide +kernel
theorem dX8_skiTime_38 : decode cX8_skiTime 38 = .ok (.aload_n 0, 1) := by decide +kernel
theorem dX8_skiTime_39 : decode cX8_skiTime 39 = .ok (.getfield 9, 3) := by decide +kernel
theorem dX8_skiTime_42 : decode cX8_skiTime 42 = .ok (.iload_n 3, 1) := by decide +kernel
theorem dX8_skiTime_43 : decode cX8_skiTime 43 = .ok (.iconst 3, 1) := by decide +kernel
theorem dX8_skiTime_44 : decode cX8_skiTime 44 = .ok (.iadd, 1) := by decide +kernel
theorem dX8_skiTime_45 : decode cX8_skiTime 45 = .ok (.iaload, 1) := by decide +kernel
theorem dX8_skiTime_46 : decode cX8_skiTime 46 = .ok (.ireturn, 1) := by decide +kernel
theorem dX8_goDown_0 : decode cX8_goDown 0 = .ok (.iload_n 1, 1) := by decide +kernel
theorem dX8_goDown_1 : decode cX8_goDown 1 = .ok (.invokestatic 71, 3) := by decide +kernel
theorem dX8_goDown_4 : decode cX8_goDown 4 = .ok (.istore_n 3, 1) := by decide +kernel
theorem dX8_goDown_5 : decode cX8_goDown 5 = .ok (.aload_n 0, 1) := by decide +kernel
theorem dX8_goDown_6 : decode cX8_goDown 6 = .ok (.getfield 9, 3) := by decide +kernel
theorem dX8_goDown_9 : decode cX8_goDown 9 = .ok (.iload_n 3, 1) := by decide +kernel
theorem dX8_goDown_10 : decode cX8_goDown 10 = .ok (.iconst 4, 1) := by decide +kernel
theorem dX8_goDown_11 : decode cX8_goDown 11 = .ok (.iadd, 1) := by decide +kernel
theorem dX8_goDown_12 : decode cX8_goDown 12 = .ok (.iconst 3, 1) := by decide +kernel
theorem dX8_goDown_13 : decode cX8_goDown 13 = .ok (.iastore, 1) := by decide +kernel
theorem dX8_goDown_14 : decode cX8_goDown 14 = .ok (.aload_n 0, 1) := by decide +kernel
theorem dX8_goDown_15 : decode cX8_goDown 15 = .ok (.getfield 9, 3) := by decide +kernel
theorem dX8_goDown_18 : decode cX8_goDown 18 = .ok (.iload_n 3, 1) := by decide +kernel
theorem dX8_goDown_19 : decode cX8_goDown 19 = .ok (.iconst 5, 1) := by decide +kernel
theorem dX8_goDown_20 : decode cX8_goDown 20 = .ok (.iadd, 1) := by decide +kernel
theorem dX8_goDown_21 : decode cX8_goDown 21 = .ok (.iload_n 2, 1) := by decide +kernel
theorem dX8_goDown_22 : decode cX8_goDown 22 = .ok (.iastore, 1) := by decide +kernel
theorem dX8_goDown_23 : decode cX8_goDown 23 = .ok (.aload_n 0, 1) := by decide +kernel
