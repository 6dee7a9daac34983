theorem dX8_goDown_24 : decode cX8_goDown 24 = .ok (.getfield 9, 3) := by decide +kernel
theorem dX8_goDown_27 : decode cX8_goDown 27 = .ok (.iload_n 3, 1) := by decide +kernel
theorem dX8_goDown_28 : decode cX8_goDown 28 = .ok (.bipush 6, 2) := by decide +kernel
theorem dX8_goDown_30 : decode cX8_goDown 30 = .ok (.iadd, 1) := by decide +kernel
theorem dX8_goDown_31 : decode cX8_goDown 31 = .ok (.aload_n 0, 1) := by decide +kernel
theorem dX8_goDown_32 : decode cX8_goDown 32 = .ok (.iload_n 1, 1) := by decide +kernel
theorem dX8_goDown_33 : decode cX8_goDown 33 = .ok (.iload_n 2, 1) := by decide +kernel
theorem dX8_goDown_34 : decode cX8_goDown 34 = .ok (.invokevirtual 102, 3) := by decide +kernel
theorem dX8_goDown_37 : decode cX8_goDown 37 = .ok (.iastore, 1) := by decide +kernel
theorem dX8_goDown_38 : decode cX8_goDown 38 = .ok (.aload_n 0, 1) := by decide +kernel
theorem dX8_goDown_39 : decode cX8_goDown 39 = .ok (.getfield 9, 3) := by decide +kernel
theorem dX8_goDown_42 : decode cX8_goDown 42 = .ok (.iload_n 3, 1) := by decide +kernel
theorem dX8_goDown_43 : decode cX8_goDown 43 = .ok (.bipush 8, 2) := by decide +kernel
theorem dX8_goDown_45 : decode cX8_goDown 45 = .ok (.iadd, 1) := by decide +kernel
theorem dX8_goDown_46 : decode cX8_goDown 46 = .ok (.dup2, 1) := by decide +kernel
theorem dX8_goDown_47 : decode cX8_goDown 47 = .ok (.iaload, 1) := by decide +kernel
theorem dX8_goDown_48 : decode cX8_goDown 48 = .ok (.iconst 1, 1) := by decide +kernel
theorem dX8_goDown_49 : decode cX8_goDown 49 = .ok (.iadd, 1) := by decide +kernel
theorem dX8_goDown_50 : decode cX8_goDown 50 = .ok (.iastore, 1) := by decide +kernel
theorem dX8_goDown_51 : decode cX8_goDown 51 = .ok (.aload_n 0, 1) := by decide +kernel
theorem dX8_goDown_52 : decode cX8_goDown 52 = .ok (.getfield 9, 3) := by decide +kernel
theorem dX8_goDown_55 : decode cX8_goDown 55 = .ok (.iload_n 2, 1) := by decide +kernel
theorem dX8_goDown_56 : decode cX8_goDown 56 = .ok (.invokestatic 68, 3) := by decide +kernel
theorem dX8_goDown_59 : decode cX8_goDown 59 = .ok (.iconst 5, 1) := by decide +kernel
theorem dX8_goDown_60 : decode cX8_goDown 60 = .ok (.iadd, 1) := by decide +kernel
theorem dX8_goDown_61 : decode cX8_goDown 61 = .ok (.dup2, 1) := by decide +kernel
theorem dX8_goDown_62 : decode cX8_goDown 62 = .ok (.iaload, 1) := by decide +kernel
theorem dX8_goDown_63 : decode cX8_goDown 63 = .ok (.aload_n 0, 1) := by decide +kernel
theorem dX8_goDown_64 : decode cX8_goDown 64 = .ok (.getfield 9, 3) := by decide +kernel
theorem dX8_goDown_67 : decode cX8_goDown 67 = .ok (.iload_n 2, 1) := by decide +kernel
theorem dX8_goDown_68 : decode cX8_goDown 68 = .ok (.invokestatic 68, 3) := by decide +kernel
theorem dX8_goDown_71 : decode cX8_goDown 71 = .ok (.iconst 2, 1) := by decide +kernel
theorem dX8_goDown_72 : decode cX8_goDown 72 = .ok (.iadd, 1) := by decide +kernel
theorem dX8_goDown_73 : decode cX8_goDown 73 = .ok (.iaload, 1) := by decide +kernel
theorem dX8_goDown_74 : decode cX8_goDown 74 = .ok (.iadd, 1) := by decide +kernel
theorem dX8_goDown_75 : decode cX8_goDown 75 = .ok (.iastore, 1) := by decide +kernel
theorem dX8_goDown_76 : decode cX8_goDown 76 = .ok (.aload_n 0, 1) := by decide +kernel
theorem dX8_goDown_77 : decode cX8_goDown 77 = .ok (.getfield 9, 3) := by decide +kernel
theorem dX8_goDown_80 : decode cX8_goDown 80 = .ok (.iload_n 2, 1) := by decide +kernel
theorem dX8_goDown_81 : decode cX8_goDown 81 = .ok (.invokestatic 68, 3) := by decide +kernel
theorem dX8_goDown_84 : decode cX8_goDown 84 = .ok (.bipush 7, 2) := by decide +kernel
theorem dX8_goDown_86 : decode cX8_goDown 86 = .ok (.iadd, 1) := by decide +kernel
theorem dX8_goDown_87 : decode cX8_goDown 87 = .ok (.dup2, 1) := by decide +kernel
theorem dX8_goDown_88 : decode cX8_goDown 88 = .ok (.iaload, 1) := by decide +kernel
theorem dX8_goDown_89 : decode cX8_goDown 89 = .ok (.iconst 1, 1) := by decide +kernel
theorem dX8_goDown_90 : decode cX8_goDown 90 = .ok (.iadd, 1) := by decide +kernel
theorem dX8_goDown_91 : decode cX8_goDown 91 = .ok (.iastore, 1) := by decide +kernel
theorem dX8_goDown_92 : decode cX8_goDown 92 = .ok (.aload_n 0, 1) := by decide +kernel
theorem dX8_goDown_93 : decode cX8_goDown 93 = .ok (.getfield 9, 3) := by decide +kernel
theorem dX8_goDown_96 : decode cX8_goDown 96 = .ok (.iload_n 3, 1) := by decide +kernel
theorem dX8_goDown_97 : decode cX8_goDown 97 = .ok (.bipush 6, 2) := by decide +kernel
theorem dX8_goDown_99 : decode cX8_goDown 99 = .ok (.iadd, 1) := by decide +kernel
theorem dX8_goDown_100 : decode cX8_goDown 100 = .ok (.iaload, 1) := by decide +kernel
theorem dX8_goDown_101 : decode cX8_goDown 101 = .ok (.ireturn, 1) := by decide +kernel
theorem dX8_refuses_0 : decode cX8_refuses 0 = .ok (.aload_n 0, 1) := by decide +kernel
theorem dX8_refuses_1 : decode cX8_refuses 1 = .ok (.iload_n 2, 1) := by decide +kernel
theorem dX8_refuses_2 : decode cX8_refuses 2 = .ok (.putfield 37, 3) := by decide +kernel
theorem dX8_refuses_5 : decode cX8_refuses 5 = .ok (.aload_n 0, 1) := by decide +kernel
theorem dX8_refuses_6 : decode cX8_refuses 6 = .ok (.getfield 9, 3) := by decide +kernel
theorem dX8_refuses_9 : decode cX8_refuses 9 = .ok (.iload_n 1, 1) := by decide +kernel
theorem dX8_refuses_10 : decode cX8_refuses 10 = .ok (.invokestatic 71, 3) := by decide +kernel
theorem dX8_refuses_13 : decode cX8_refuses 13 = .ok (.bipush 9, 2) := by decide +kernel
theorem dX8_refuses_15 : decode cX8_refuses 15 = .ok (.iadd, 1) := by decide +kernel
theorem dX8_refuses_16 : decode cX8_refuses 16 = .ok (.dup2, 1) := by decide +kernel
theorem dX8_refuses_17 : decode cX8_refuses 17 = .ok (.iaload, 1) := by decide +kernel
theorem dX8_refuses_18 : decode cX8_refuses 18 = .ok (.iconst 1, 1) := by decide +kernel
theorem dX8_refuses_19 : decode cX8_refuses 19 = .ok (.iadd, 1) := by decide +kernel
theorem dX8_refuses_20 : decode cX8_refuses 20 = .ok (.iastore, 1) := by decide +kernel
theorem dX8_refuses_21 : decode cX8_refuses 21 = .ok (.aload_n 0, 1) := by decide +kernel
theorem dX8_refuses_22 : decode cX8_refuses 22 = .ok (.iconst 2, 1) := by decide +kernel
theorem dX8_refuses_23 : decode cX8_refuses 23 = .ok (.invokevirtual 62, 3) := by decide +kernel
theorem dX8_refuses_26 : decode cX8_refuses 26 = .ok (.ireturn, 1) := by decide +kernel
theorem dX8_queue_0 : decode cX8_queue 0 = .ok (.aload_n 0, 1) := by decide +kernel
theorem dX8_queue_1 : decode cX8_queue 1 = .ok (.iconst 0, 1) := by decide +kernel
theorem dX8_queue_2 : decode cX8_queue 2 = .ok (.putfield 41, 3) := by decide +kernel
theorem dX8_queue_5 : decode cX8_queue 5 = .ok (.aload_n 0, 1) := by decide +kernel
theorem dX8_queue_6 : decode cX8_queue 6 = .ok (.iload_n 1, 1) := by decide +kernel
theorem dX8_queue_7 : decode cX8_queue 7 = .ok (.invokevirtual 92, 3) := by decide +kernel
theorem dX8_queue_10 : decode cX8_queue 10 = .ok (.ifCond .eq 11, 3) := by decide +kernel
theorem dX8_queue_13 : decode cX8_queue 13 = .ok (.aload_n 0, 1) := by decide +kernel
theorem dX8_queue_14 : decode cX8_queue 14 = .ok (.iload_n 2, 1) := by decide +kernel
theorem dX8_queue_15 : decode cX8_queue 15 = .ok (.invokevirtual 74, 3) := by decide +kernel
theorem dX8_queue_18 : decode cX8_queue 18 = .ok (.ifCond .ne 9, 3) := by decide +kernel
theorem dX8_queue_21 : decode cX8_queue 21 = .ok (.aload_n 0, 1) := by decide +kernel
theorem dX8_queue_22 : decode cX8_queue 22 = .ok (.iconst 1, 1) := by decide +kernel
theorem dX8_queue_23 : decode cX8_queue 23 = .ok (.invokevirtual 62, 3) := by decide +kernel
theorem dX8_queue_26 : decode cX8_queue 26 = .ok (.ireturn, 1) := by decide +kernel
theorem dX8_queue_27 : decode cX8_queue 27 = .ok (.aload_n 0, 1) := by decide +kernel
theorem dX8_queue_28 : decode cX8_queue 28 = .ok (.iload_n 1, 1) := by decide +kernel
theorem dX8_queue_29 : decode cX8_queue 29 = .ok (.iload_n 2, 1) := by decide +kernel
theorem dX8_queue_30 : decode cX8_queue 30 = .ok (.invokevirtual 105, 3) := by decide +kernel
theorem dX8_queue_33 : decode cX8_queue 33 = .ok (.istore_n 3, 1) := by decide +kernel
theorem dX8_queue_34 : decode cX8_queue 34 = .ok (.iload_n 3, 1) := by decide +kernel
theorem dX8_queue_35 : decode cX8_queue 35 = .ok (.ifCond .le 10, 3) := by decide +kernel
theorem dX8_queue_38 : decode cX8_queue 38 = .ok (.aload_n 0, 1) := by decide +kernel
theorem dX8_queue_39 : decode cX8_queue 39 = .ok (.iload_n 1, 1) := by decide +kernel
theorem dX8_queue_40 : decode cX8_queue 40 = .ok (.iload_n 3, 1) := by decide +kernel
theorem dX8_queue_41 : decode cX8_queue 41 = .ok (.invokevirtual 108, 3) := by decide +kernel
theorem dX8_queue_44 : decode cX8_queue 44 = .ok (.ireturn, 1) := by decide +kernel
theorem dX8_queue_45 : decode cX8_queue 45 = .ok (.aload_n 0, 1) := by decide +kernel
theorem dX8_queue_46 : decode cX8_queue 46 = .ok (.invokevirtual 65, 3) := by decide +kernel
theorem dX8_queue_49 : decode cX8_queue 49 = .ok (.aload_n 0, 1) := by decide +kernel
theorem dX8_queue_50 : decode cX8_queue 50 = .ok (.iload_n 1, 1) := by decide +kernel
theorem dX8_queue_51 : decode cX8_queue 51 = .ok (.iload_n 2, 1) := by decide +kernel
theorem dX8_queue_52 : decode cX8_queue 52 = .ok (.invokevirtual 111, 3) := by decide +kernel
theorem dX8_queue_55 : decode cX8_queue 55 = .ok (.ireturn, 1) := by decide +kernel
theorem dX8_ski_0 : decode cX8_ski 0 = .ok (.aload_n 0, 1) := by decide +kernel
theorem dX8_ski_1 : decode cX8_ski 1 = .ok (.iconst 0, 1) := by decide +kernel
theorem dX8_ski_2 : decode cX8_ski 2 = .ok (.putfield 41, 3) := by decide +kernel
theorem dX8_ski_5 : decode cX8_ski 5 = .ok (.aload_n 0, 1) := by decide +kernel
theorem dX8_ski_6 : decode cX8_ski 6 = .ok (.iload_n 1, 1) := by decide +kernel
theorem dX8_ski_7 : decode cX8_ski 7 = .ok (.invokevirtual 92, 3) := by decide +kernel
theorem dX8_ski_10 : decode cX8_ski 10 = .ok (.ifCond .eq 11, 3) := by decide +kernel
theorem dX8_ski_13 : decode cX8_ski 13 = .ok (.aload_n 0, 1) := by decide +kernel
theorem dX8_ski_14 : decode cX8_ski 14 = .ok (.iload_n 2, 1) := by decide +kernel
theorem dX8_ski_15 : decode cX8_ski 15 = .ok (.invokevirtual 81, 3) := by decide +kernel
theorem dX8_ski_18 : decode cX8_ski 18 = .ok (.ifCond .ne 9, 3) := by decide +kernel
theorem dX8_ski_21 : decode cX8_ski 21 = .ok (.aload_n 0, 1) := by decide +kernel
theorem dX8_ski_22 : decode cX8_ski 22 = .ok (.iconst 1, 1) := by decide +kernel
theorem dX8_ski_23 : decode cX8_ski 23 = .ok (.invokevirtual 62, 3) := by decide +kernel
theorem dX8_ski_26 : decode cX8_ski 26 = .ok (.ireturn, 1) := by decide +kernel
theorem dX8_ski_27 : decode cX8_ski 27 = .ok (.aload_n 0, 1) := by decide +kernel
theorem dX8_ski_28 : decode cX8_ski 28 = .ok (.iload_n 1, 1) := by decide +kernel
theorem dX8_ski_29 : decode cX8_ski 29 = .ok (.iload_n 2, 1) := by decide +kernel
theorem dX8_ski_30 : decode cX8_ski 30 = .ok (.invokevirtual 114, 3) := by decide +kernel
theorem dX8_ski_33 : decode cX8_ski 33 = .ok (.istore_n 3, 1) := by decide +kernel
theorem dX8_ski_34 : decode cX8_ski 34 = .ok (.iload_n 3, 1) := by decide +kernel
theorem dX8_ski_35 : decode cX8_ski 35 = .ok (.ifCond .le 10, 3) := by decide +kernel
theorem dX8_ski_38 : decode cX8_ski 38 = .ok (.aload_n 0, 1) := by decide +kernel
theorem dX8_ski_39 : decode cX8_ski 39 = .ok (.iload_n 1, 1) := by decide +kernel
theorem dX8_ski_40 : decode cX8_ski 40 = .ok (.iload_n 3, 1) := by decide +kernel
theorem dX8_ski_41 : decode cX8_ski 41 = .ok (.invokevirtual 108, 3) := by decide +kernel
theorem dX8_ski_44 : decode cX8_ski 44 = .ok (.ireturn, 1) := by decide +kernel
theorem dX8_ski_45 : decode cX8_ski 45 = .ok (.aload_n 0, 1) := by decide +kernel
theorem dX8_ski_46 : decode cX8_ski 46 = .ok (.invokevirtual 65, 3) := by decide +kernel
theorem dX8_ski_49 : decode cX8_ski 49 = .ok (.aload_n 0, 1) := by decide +kernel
theorem dX8_ski_50 : decode cX8_ski 50 = .ok (.iload_n 1, 1) := by decide +kernel
theorem dX8_ski_51 : decode cX8_ski 51 = .ok (.iload_n 2, 1) := by decide +kernel
theorem dX8_ski_52 : decode cX8_ski 52 = .ok (.invokevirtual 117, 3) := by decide +kernel
theorem dX8_ski_55 : decode cX8_ski 55 = .ok (.ireturn, 1) := by decide +kernel
theorem dX8_drops_0 : decode cX8_drops 0 = .ok (.iload_n 1, 1) := by decide +kernel
theorem dX8_drops_1 : decode cX8_drops 1 = .ok (.invokestatic 51, 3) := by decide +kernel
theorem dX8_drops_4 : decode cX8_drops 4 = .ok (.istore 4, 2) := by decide +kernel
theorem dX8_drops_6 : decode cX8_drops 6 = .ok (.aload_n 0, 1) := by decide +kernel
theorem dX8_drops_7 : decode cX8_drops 7 = .ok (.getfield 9, 3) := by decide +kernel
theorem dX8_drops_10 : decode cX8_drops 10 = .ok (.iload 4, 2) := by decide +kernel
theorem dX8_drops_12 : decode cX8_drops 12 = .ok (.bipush 10, 2) := by decide +kernel
theorem dX8_drops_14 : decode cX8_drops 14 = .ok (.iadd, 1) := by decide +kernel
theorem dX8_drops_15 : decode cX8_drops 15 = .ok (.dup2, 1) := by decide +kernel
theorem dX8_drops_16 : decode cX8_drops 16 = .ok (.iaload, 1) := by decide +kernel
theorem dX8_drops_17 : decode cX8_drops 17 = .ok (.iload_n 3, 1) := by decide +kernel
theorem dX8_drops_18 : decode cX8_drops 18 = .ok (.isub, 1) := by decide +kernel
theorem dX8_drops_19 : decode cX8_drops 19 = .ok (.iastore, 1) := by decide +kernel
theorem dX8_drops_20 : decode cX8_drops 20 = .ok (.iload_n 2, 1) := by decide +kernel
theorem dX8_drops_21 : decode cX8_drops 21 = .ok (.istore 5, 2) := by decide +kernel
theorem dX8_drops_23 : decode cX8_drops 23 = .ok (.iload 5, 2) := by decide +kernel
theorem dX8_drops_25 : decode cX8_drops 25 = .ok (.aload_n 0, 1) := by decide +kernel
theorem dX8_drops_26 : decode cX8_drops 26 = .ok (.getfield 9, 3) := by decide +kernel
theorem dX8_drops_29 : decode cX8_drops 29 = .ok (.iload 4, 2) := by decide +kernel
theorem dX8_drops_31 : decode cX8_drops 31 = .ok (.bipush 10, 2) := by decide +kernel
theorem dX8_drops_33 : decode cX8_drops 33 = .ok (.iadd, 1) := by decide +kernel
theorem dX8_drops_34 : decode cX8_drops 34 = .ok (.iaload, 1) := by decide +kernel
theorem dX8_drops_35 : decode cX8_drops 35 = .ok (.if_icmp .ge 37, 3) := by decide +kernel
theorem dX8_drops_38 : decode cX8_drops 38 = .ok (.aload_n 0, 1) := by decide +kernel
theorem dX8_drops_39 : decode cX8_drops 39 = .ok (.getfield 9, 3) := by decide +kernel
theorem dX8_drops_42 : decode cX8_drops 42 = .ok (.iload 4, 2) := by decide +kernel
theorem dX8_drops_44 : decode cX8_drops 44 = .ok (.bipush 11, 2) := by decide +kernel
theorem dX8_drops_46 : decode cX8_drops 46 = .ok (.iadd, 1) := by decide +kernel
theorem dX8_drops_47 : decode cX8_drops 47 = .ok (.iload 5, 2) := by decide +kernel
theorem dX8_drops_49 : decode cX8_drops 49 = .ok (.iadd, 1) := by decide +kernel
theorem dX8_drops_50 : decode cX8_drops 50 = .ok (.aload_n 0, 1) := by decide +kernel
theorem dX8_drops_51 : decode cX8_drops 51 = .ok (.getfield 9, 3) := by decide +kernel
theorem dX8_drops_54 : decode cX8_drops 54 = .ok (.iload 4, 2) := by decide +kernel
theorem dX8_drops_56 : decode cX8_drops 56 = .ok (.bipush 11, 2) := by decide +kernel
theorem dX8_drops_58 : decode cX8_drops 58 = .ok (.iadd, 1) := by decide +kernel
theorem dX8_drops_59 : decode cX8_drops 59 = .ok (.iload 5, 2) := by decide +kernel
theorem dX8_drops_61 : decode cX8_drops 61 = .ok (.iadd, 1) := by decide +kernel
theorem dX8_drops_62 : decode cX8_drops 62 = .ok (.iload_n 3, 1) := by decide +kernel
theorem dX8_drops_63 : decode cX8_drops 63 = .ok (.iadd, 1) := by decide +kernel
theorem dX8_drops_64 : decode cX8_drops 64 = .ok (.iaload, 1) := by decide +kernel
theorem dX8_drops_65 : decode cX8_drops 65 = .ok (.iastore, 1) := by decide +kernel
theorem dX8_drops_66 : decode cX8_drops 66 = .ok (.iinc 5 1, 3) := by decide +kernel
theorem dX8_drops_69 : decode cX8_drops 69 = .ok (.goto (-46), 3) := by decide +kernel
theorem dX8_drops_72 : decode cX8_drops 72 = .ok (.return_, 1) := by decide +kernel
theorem dX8_leave_0 : decode cX8_leave 0 = .ok (.aload_n 0, 1) := by decide +kernel
theorem dX8_leave_1 : decode cX8_leave 1 = .ok (.aload_n 0, 1) := by decide +kernel
theorem dX8_leave_2 : decode cX8_leave 2 = .ok (.iload_n 1, 1) := by decide +kernel
theorem dX8_leave_3 : decode cX8_leave 3 = .ok (.invokevirtual 92, 3) := by decide +kernel
theorem dX8_leave_6 : decode cX8_leave 6 = .ok (.ifCond .ne 7, 3) := by decide +kernel
theorem dX8_leave_9 : decode cX8_leave 9 = .ok (.iconst 1, 1) := by decide +kernel
theorem dX8_leave_10 : decode cX8_leave 10 = .ok (.goto 23, 3) := by decide +kernel
theorem dX8_leave_13 : decode cX8_leave 13 = .ok (.aload_n 0, 1) := by decide +kernel
theorem dX8_leave_14 : decode cX8_leave 14 = .ok (.getfield 9, 3) := by decide +kernel
theorem dX8_leave_17 : decode cX8_leave 17 = .ok (.iload_n 1, 1) := by decide +kernel
theorem dX8_leave_18 : decode cX8_leave 18 = .ok (.invokestatic 71, 3) := by decide +kernel
theorem dX8_leave_21 : decode cX8_leave 21 = .ok (.iconst 4, 1) := by decide +kernel
theorem dX8_leave_22 : decode cX8_leave 22 = .ok (.iadd, 1) := by decide +kernel
theorem dX8_leave_23 : decode cX8_leave 23 = .ok (.iaload, 1) := by decide +kernel
theorem dX8_leave_24 : decode cX8_leave 24 = .ok (.iconst 1, 1) := by decide +kernel
theorem dX8_leave_25 : decode cX8_leave 25 = .ok (.if_icmp .le 7, 3) := by decide +kernel
theorem dX8_leave_28 : decode cX8_leave 28 = .ok (.iconst 2, 1) := by decide +kernel
theorem dX8_leave_29 : decode cX8_leave 29 = .ok (.goto 4, 3) := by decide +kernel
theorem dX8_leave_32 : decode cX8_leave 32 = .ok (.iconst 0, 1) := by decide +kernel
theorem dX8_leave_33 : decode cX8_leave 33 = .ok (.putfield 41, 3) := by decide +kernel
theorem dX8_leave_36 : decode cX8_leave 36 = .ok (.aload_n 0, 1) := by decide +kernel
theorem dX8_leave_37 : decode cX8_leave 37 = .ok (.getfield 41, 3) := by decide +kernel
theorem dX8_leave_40 : decode cX8_leave 40 = .ok (.ifCond .le 5, 3) := by decide +kernel
theorem dX8_leave_43 : decode cX8_leave 43 = .ok (.iconst 0, 1) := by decide +kernel
theorem dX8_leave_44 : decode cX8_leave 44 = .ok (.ireturn, 1) := by decide +kernel
theorem dX8_leave_45 : decode cX8_leave 45 = .ok (.aload_n 0, 1) := by decide +kernel
theorem dX8_leave_46 : decode cX8_leave 46 = .ok (.invokevirtual 65, 3) := by decide +kernel
theorem dX8_leave_49 : decode cX8_leave 49 = .ok (.iload_n 1, 1) := by decide +kernel
theorem dX8_leave_50 : decode cX8_leave 50 = .ok (.invokestatic 71, 3) := by decide +kernel
theorem dX8_leave_53 : decode cX8_leave 53 = .ok (.istore_n 2, 1) := by decide +kernel
theorem dX8_leave_54 : decode cX8_leave 54 = .ok (.aload_n 0, 1) := by decide +kernel
theorem dX8_leave_55 : decode cX8_leave 55 = .ok (.getfield 9, 3) := by decide +kernel
theorem dX8_leave_58 : decode cX8_leave 58 = .ok (.iload_n 2, 1) := by decide +kernel
theorem dX8_leave_59 : decode cX8_leave 59 = .ok (.iconst 4, 1) := by decide +kernel
theorem dX8_leave_60 : decode cX8_leave 60 = .ok (.iadd, 1) := by decide +kernel
theorem dX8_leave_61 : decode cX8_leave 61 = .ok (.iaload, 1) := by decide +kernel
theorem dX8_leave_62 : decode cX8_leave 62 = .ok (.ifCond .ne 14, 3) := by decide +kernel
theorem dX8_leave_65 : decode cX8_leave 65 = .ok (.aload_n 0, 1) := by decide +kernel
theorem dX8_leave_66 : decode cX8_leave 66 = .ok (.getfield 9, 3) := by decide +kernel
theorem dX8_leave_69 : decode cX8_leave 69 = .ok (.iload_n 2, 1) := by decide +kernel
theorem dX8_leave_70 : decode cX8_leave 70 = .ok (.iconst 4, 1) := by decide +kernel
theorem dX8_leave_71 : decode cX8_leave 71 = .ok (.iadd, 1) := by decide +kernel
theorem dX8_leave_72 : decode cX8_leave 72 = .ok (.iconst 4, 1) := by decide +kernel
theorem dX8_leave_73 : decode cX8_leave 73 = .ok (.iastore, 1) := by decide +kernel
theorem dX8_leave_74 : decode cX8_leave 74 = .ok (.iconst 4, 1) := by decide +kernel
theorem dX8_leave_75 : decode cX8_leave 75 = .ok (.ireturn, 1) := by decide +kernel
theorem dX8_leave_76 : decode cX8_leave 76 = .ok (.aload_n 0, 1) := by decide +kernel
theorem dX8_leave_77 : decode cX8_leave 77 = .ok (.getfield 9, 3) := by decide +kernel
theorem dX8_leave_80 : decode cX8_leave 80 = .ok (.iload_n 2, 1) := by decide +kernel
theorem dX8_leave_81 : decode cX8_leave 81 = .ok (.iconst 5, 1) := by decide +kernel
theorem dX8_leave_82 : decode cX8_leave 82 = .ok (.iadd, 1) := by decide +kernel
theorem dX8_leave_83 : decode cX8_leave 83 = .ok (.iaload, 1) := by decide +kernel
theorem dX8_leave_84 : decode cX8_leave 84 = .ok (.istore_n 3, 1) := by decide +kernel
theorem dX8_leave_85 : decode cX8_leave 85 = .ok (.aload_n 0, 1) := by decide +kernel
theorem dX8_leave_86 : decode cX8_leave 86 = .ok (.iload_n 3, 1) := by decide +kernel
theorem dX8_leave_87 : decode cX8_leave 87 = .ok (.aload_n 0, 1) := by decide +kernel
theorem dX8_leave_88 : decode cX8_leave 88 = .ok (.iload_n 1, 1) := by decide +kernel
theorem dX8_leave_89 : decode cX8_leave 89 = .ok (.invokevirtual 95, 3) := by decide +kernel
theorem dX8_leave_92 : decode cX8_leave 92 = .ok (.iconst 1, 1) := by decide +kernel
theorem dX8_leave_93 : decode cX8_leave 93 = .ok (.invokevirtual 120, 3) := by decide +kernel
theorem dX8_leave_96 : decode cX8_leave 96 = .ok (.aload_n 0, 1) := by decide +kernel
theorem dX8_leave_97 : decode cX8_leave 97 = .ok (.getfield 9, 3) := by decide +kernel
theorem dX8_leave_100 : decode cX8_leave 100 = .ok (.iload_n 2, 1) := by decide +kernel
theorem dX8_leave_101 : decode cX8_leave 101 = .ok (.iconst 4, 1) := by decide +kernel
theorem dX8_leave_102 : decode cX8_leave 102 = .ok (.iadd, 1) := by decide +kernel
theorem dX8_leave_103 : decode cX8_leave 103 = .ok (.iconst 0, 1) := by decide +kernel
theorem dX8_leave_104 : decode cX8_leave 104 = .ok (.iastore, 1) := by decide +kernel
theorem dX8_leave_105 : decode cX8_leave 105 = .ok (.aload_n 0, 1) := by decide +kernel
theorem dX8_leave_106 : decode cX8_leave 106 = .ok (.getfield 9, 3) := by decide +kernel
theorem dX8_leave_109 : decode cX8_leave 109 = .ok (.iload_n 2, 1) := by decide +kernel
theorem dX8_leave_110 : decode cX8_leave 110 = .ok (.iconst 5, 1) := by decide +kernel
theorem dX8_leave_111 : decode cX8_leave 111 = .ok (.iadd, 1) := by decide +kernel
theorem dX8_leave_112 : decode cX8_leave 112 = .ok (.aload_n 0, 1) := by decide +kernel
theorem dX8_leave_113 : decode cX8_leave 113 = .ok (.getfield 9, 3) := by decide +kernel
theorem dX8_leave_116 : decode cX8_leave 116 = .ok (.iload_n 3, 1) := by decide +kernel
theorem dX8_leave_117 : decode cX8_leave 117 = .ok (.invokestatic 51, 3) := by decide +kernel
theorem dX8_leave_120 : decode cX8_leave 120 = .ok (.iaload, 1) := by decide +kernel
theorem dX8_leave_121 : decode cX8_leave 121 = .ok (.iastore, 1) := by decide +kernel
theorem dX8_leave_122 : decode cX8_leave 122 = .ok (.iconst 0, 1) := by decide +kernel
theorem dX8_leave_123 : decode cX8_leave 123 = .ok (.ireturn, 1) := by decide +kernel
theorem dX8_whyNotQueue_0 : decode cX8_whyNotQueue 0 = .ok (.aload_n 0, 1) := by decide +kernel
theorem dX8_whyNotQueue_1 : decode cX8_whyNotQueue 1 = .ok (.iconst 0, 1) := by decide +kernel
theorem dX8_whyNotQueue_2 : decode cX8_whyNotQueue 2 = .ok (.putfield 41, 3) := by decide +kernel
theorem dX8_whyNotQueue_5 : decode cX8_whyNotQueue 5 = .ok (.aload_n 0, 1) := by decide +kernel
theorem dX8_whyNotQueue_6 : decode cX8_whyNotQueue 6 = .ok (.iload_n 1, 1) := by decide +kernel
theorem dX8_whyNotQueue_7 : decode cX8_whyNotQueue 7 = .ok (.invokevirtual 92, 3) := by decide +kernel
theorem dX8_whyNotQueue_10 : decode cX8_whyNotQueue 10 = .ok (.ifCond .eq 20, 3) := by decide +kernel
theorem dX8_whyNotQueue_13 : decode cX8_whyNotQueue 13 = .ok (.aload_n 0, 1) := by decide +kernel
theorem dX8_whyNotQueue_14 : decode cX8_whyNotQueue 14 = .ok (.iload_n 2, 1) := by decide +kernel
theorem dX8_whyNotQueue_15 : decode cX8_whyNotQueue 15 = .ok (.invokevirtual 74, 3) := by decide +kernel
theorem dX8_whyNotQueue_18 : decode cX8_whyNotQueue 18 = .ok (.ifCond .eq 12, 3) := by decide +kernel
theorem dX8_whyNotQueue_21 : decode cX8_whyNotQueue 21 = .ok (.aload_n 0, 1) := by decide +kernel
theorem dX8_whyNotQueue_22 : decode cX8_whyNotQueue 22 = .ok (.iload_n 1, 1) := by decide +kernel
theorem dX8_whyNotQueue_23 : decode cX8_whyNotQueue 23 = .ok (.iload_n 2, 1) := by decide +kernel
theorem dX8_whyNotQueue_24 : decode cX8_whyNotQueue 24 = .ok (.invokevirtual 105, 3) := by decide +kernel
theorem dX8_whyNotQueue_27 : decode cX8_whyNotQueue 27 = .ok (.goto 8, 3) := by decide +kernel
theorem dX8_whyNotQueue_30 : decode cX8_whyNotQueue 30 = .ok (.aload_n 0, 1) := by decide +kernel
theorem dX8_whyNotQueue_31 : decode cX8_whyNotQueue 31 = .ok (.iconst 1, 1) := by decide +kernel
theorem dX8_whyNotQueue_32 : decode cX8_whyNotQueue 32 = .ok (.invokevirtual 62, 3) := by decide +kernel
theorem dX8_whyNotQueue_35 : decode cX8_whyNotQueue 35 = .ok (.ireturn, 1) := by decide +kernel
theorem dX8_whyNotSki_0 : decode cX8_whyNotSki 0 = .ok (.aload_n 0, 1) := by decide +kernel
theorem dX8_whyNotSki_1 : decode cX8_whyNotSki 1 = .ok (.iconst 0, 1) := by decide +kernel
theorem dX8_whyNotSki_2 : decode cX8_whyNotSki 2 = .ok (.putfield 41, 3) := by decide +kernel
theorem dX8_whyNotSki_5 : decode cX8_whyNotSki 5 = .ok (.aload_n 0, 1) := by decide +kernel
theorem dX8_whyNotSki_6 : decode cX8_whyNotSki 6 = .ok (.iload_n 1, 1) := by decide +kernel
theorem dX8_whyNotSki_7 : decode cX8_whyNotSki 7 = .ok (.invokevirtual 92, 3) := by decide +kernel
theorem dX8_whyNotSki_10 : decode cX8_whyNotSki 10 = .ok (.ifCond .eq 20, 3) := by decide +kernel
theorem dX8_whyNotSki_13 : decode cX8_whyNotSki 13 = .ok (.aload_n 0, 1) := by decide +kernel
theorem dX8_whyNotSki_14 : decode cX8_whyNotSki 14 = .ok (.iload_n 2, 1) := by decide +kernel
theorem dX8_whyNotSki_15 : decode cX8_whyNotSki 15 = .ok (.invokevirtual 81, 3) := by decide +kernel
theorem dX8_whyNotSki_18 : decode cX8_whyNotSki 18 = .ok (.ifCond .eq 12, 3) := by decide +kernel
theorem dX8_whyNotSki_21 : decode cX8_whyNotSki 21 = .ok (.aload_n 0, 1) := by decide +kernel
theorem dX8_whyNotSki_22 : decode cX8_whyNotSki 22 = .ok (.iload_n 1, 1) := by decide +kernel
theorem dX8_whyNotSki_23 : decode cX8_whyNotSki 23 = .ok (.iload_n 2, 1) := by decide +kernel
theorem dX8_whyNotSki_24 : decode cX8_whyNotSki 24 = .ok (.invokevirtual 114, 3) := by decide +kernel
theorem dX8_whyNotSki_27 : decode cX8_whyNotSki 27 = .ok (.goto 8, 3) := by decide +kernel
theorem dX8_whyNotSki_30 : decode cX8_whyNotSki 30 = .ok (.aload_n 0, 1) := by decide +kernel
theorem dX8_whyNotSki_31 : decode cX8_whyNotSki 31 = .ok (.iconst 1, 1) := by decide +kernel
theorem dX8_whyNotSki_32 : decode cX8_whyNotSki 32 = .ok (.invokevirtual 62, 3) := by decide +kernel
theorem dX8_whyNotSki_35 : decode cX8_whyNotSki 35 = .ok (.ireturn, 1) := by decide +kernel
theorem dX8_reason_0 : decode cX8_reason 0 = .ok (.aload_n 0, 1) := by decide +kernel
theorem dX8_reason_1 : decode cX8_reason 1 = .ok (.aload_n 0, 1) := by decide +kernel
theorem dX8_reason_2 : decode cX8_reason 2 = .ok (.getfield 37, 3) := by decide +kernel
theorem dX8_reason_5 : decode cX8_reason 5 = .ok (.ifCond .ne 7, 3) := by decide +kernel
theorem dX8_reason_8 : decode cX8_reason 8 = .ok (.iconst 1, 1) := by decide +kernel
theorem dX8_reason_9 : decode cX8_reason 9 = .ok (.goto 4, 3) := by decide +kernel
theorem dX8_reason_12 : decode cX8_reason 12 = .ok (.iconst 0, 1) := by decide +kernel
theorem dX8_reason_13 : decode cX8_reason 13 = .ok (.putfield 41, 3) := by decide +kernel
theorem dX8_reason_16 : decode cX8_reason 16 = .ok (.aload_n 0, 1) := by decide +kernel
theorem dX8_reason_17 : decode cX8_reason 17 = .ok (.getfield 37, 3) := by decide +kernel
theorem dX8_reason_20 : decode cX8_reason 20 = .ok (.ireturn, 1) := by decide +kernel
theorem dX8_opened_0 : decode cX8_opened 0 = .ok (.aload_n 0, 1) := by decide +kernel
theorem dX8_opened_1 : decode cX8_opened 1 = .ok (.iconst 0, 1) := by decide +kernel
theorem dX8_opened_2 : decode cX8_opened 2 = .ok (.putfield 41, 3) := by decide +kernel
theorem dX8_opened_5 : decode cX8_opened 5 = .ok (.aload_n 0, 1) := by decide +kernel
theorem dX8_opened_6 : decode cX8_opened 6 = .ok (.iload_n 1, 1) := by decide +kernel
theorem dX8_opened_7 : decode cX8_opened 7 = .ok (.invokevirtual 92, 3) := by decide +kernel
theorem dX8_opened_10 : decode cX8_opened 10 = .ok (.ifCond .ne 9, 3) := by decide +kernel
theorem dX8_opened_13 : decode cX8_opened 13 = .ok (.aload_n 0, 1) := by decide +kernel
theorem dX8_opened_14 : decode cX8_opened 14 = .ok (.iconst 1, 1) := by decide +kernel
theorem dX8_opened_15 : decode cX8_opened 15 = .ok (.invokevirtual 62, 3) := by decide +kernel
theorem dX8_opened_18 : decode cX8_opened 18 = .ok (.ireturn, 1) := by decide +kernel
theorem dX8_opened_19 : decode cX8_opened 19 = .ok (.iconst 0, 1) := by decide +kernel
theorem dX8_opened_20 : decode cX8_opened 20 = .ok (.istore_n 2, 1) := by decide +kernel
theorem dX8_opened_21 : decode cX8_opened 21 = .ok (.iconst 0, 1) := by decide +kernel
theorem dX8_opened_22 : decode cX8_opened 22 = .ok (.istore_n 3, 1) := by decide +kernel
theorem dX8_opened_23 : decode cX8_opened 23 = .ok (.iload_n 3, 1) := by decide +kernel
theorem dX8_opened_24 : decode cX8_opened 24 = .ok (.aload_n 0, 1) := by decide +kernel
theorem dX8_opened_25 : decode cX8_opened 25 = .ok (.getfield 9, 3) := by decide +kernel
theorem dX8_opened_28 : decode cX8_opened 28 = .ok (.iconst 3, 1) := by decide +kernel
theorem dX8_opened_29 : decode cX8_opened 29 = .ok (.iaload, 1) := by decide +kernel
theorem dX8_opened_30 : decode cX8_opened 30 = .ok (.if_icmp .ge 28, 3) := by decide +kernel
theorem dX8_opened_33 : decode cX8_opened 33 = .ok (.iload_n 2, 1) := by decide +kernel
theorem dX8_opened_34 : decode cX8_opened 34 = .ok (.aload_n 0, 1) := by decide +kernel
theorem dX8_opened_35 : decode cX8_opened 35 = .ok (.iload_n 1, 1) := by decide +kernel
theorem dX8_opened_36 : decode cX8_opened 36 = .ok (.iload_n 3, 1) := by decide +kernel
theorem dX8_opened_37 : decode cX8_opened 37 = .ok (.invokevirtual 98, 3) := by decide +kernel
theorem dX8_opened_40 : decode cX8_opened 40 = .ok (.ifCond .eq 9, 3) := by decide +kernel
theorem dX8_opened_43 : decode cX8_opened 43 = .ok (.iconst 1, 1) := by decide +kernel
theorem dX8_opened_44 : decode cX8_opened 44 = .ok (.iload_n 3, 1) := by decide +kernel
theorem dX8_opened_45 : decode cX8_opened 45 = .ok (.ishl, 1) := by decide +kernel
theorem dX8_opened_46 : decode cX8_opened 46 = .ok (.goto 4, 3) := by decide +kernel
theorem dX8_opened_49 : decode cX8_opened 49 = .ok (.iconst 0, 1) := by decide +kernel
theorem dX8_opened_50 : decode cX8_opened 50 = .ok (.ior, 1) := by decide +kernel
theorem dX8_opened_51 : decode cX8_opened 51 = .ok (.istore_n 2, 1) := by decide +kernel
theorem dX8_opened_52 : decode cX8_opened 52 = .ok (.iinc 3 1, 3) := by decide +kernel
theorem dX8_opened_55 : decode cX8_opened 55 = .ok (.goto (-32), 3) := by decide +kernel
theorem dX8_opened_58 : decode cX8_opened 58 = .ok (.iload_n 2, 1) := by decide +kernel
theorem dX8_opened_59 : decode cX8_opened 59 = .ok (.ireturn, 1) := by decide +kernel
theorem dX8_queued_0 : decode cX8_queued 0 = .ok (.aload_n 0, 1) := by decide +kernel
theorem dX8_queued_1 : decode cX8_queued 1 = .ok (.aload_n 0, 1) := by decide +kernel
theorem dX8_queued_2 : decode cX8_queued 2 = .ok (.iload_n 1, 1) := by decide +kernel
theorem dX8_queued_3 : decode cX8_queued 3 = .ok (.invokevirtual 74, 3) := by decide +kernel
theorem dX8_queued_6 : decode cX8_queued 6 = .ok (.ifCond .ne 7, 3) := by decide +kernel
theorem dX8_queued_9 : decode cX8_queued 9 = .ok (.iconst 1, 1) := by decide +kernel
theorem dX8_queued_10 : decode cX8_queued 10 = .ok (.goto 30, 3) := by decide +kernel
theorem dX8_queued_13 : decode cX8_queued 13 = .ok (.iload_n 2, 1) := by decide +kernel
theorem dX8_queued_14 : decode cX8_queued 14 = .ok (.iconst 0, 1) := by decide +kernel
theorem dX8_queued_15 : decode cX8_queued 15 = .ok (.aload_n 0, 1) := by decide +kernel
theorem dX8_queued_16 : decode cX8_queued 16 = .ok (.getfield 9, 3) := by decide +kernel
theorem dX8_queued_19 : decode cX8_queued 19 = .ok (.iload_n 1, 1) := by decide +kernel
theorem dX8_queued_20 : decode cX8_queued 20 = .ok (.invokestatic 51, 3) := by decide +kernel
theorem dX8_queued_23 : decode cX8_queued 23 = .ok (.bipush 10, 2) := by decide +kernel
theorem dX8_queued_25 : decode cX8_queued 25 = .ok (.iadd, 1) := by decide +kernel
theorem dX8_queued_26 : decode cX8_queued 26 = .ok (.iaload, 1) := by decide +kernel
theorem dX8_queued_27 : decode cX8_queued 27 = .ok (.iconst 1, 1) := by decide +kernel
theorem dX8_queued_28 : decode cX8_queued 28 = .ok (.isub, 1) := by decide +kernel
theorem dX8_queued_29 : decode cX8_queued 29 = .ok (.invokestatic 47, 3) := by decide +kernel
theorem dX8_queued_32 : decode cX8_queued 32 = .ok (.ifCond .ne 7, 3) := by decide +kernel
theorem dX8_queued_35 : decode cX8_queued 35 = .ok (.iconst 2, 1) := by decide +kernel
theorem dX8_queued_36 : decode cX8_queued 36 = .ok (.goto 4, 3) := by decide +kernel
theorem dX8_queued_39 : decode cX8_queued 39 = .ok (.iconst 0, 1) := by decide +kernel
theorem dX8_queued_40 : decode cX8_queued 40 = .ok (.putfield 41, 3) := by decide +kernel
theorem dX8_queued_43 : decode cX8_queued 43 = .ok (.aload_n 0, 1) := by decide +kernel
theorem dX8_queued_44 : decode cX8_queued 44 = .ok (.getfield 41, 3) := by decide +kernel
theorem dX8_queued_47 : decode cX8_queued 47 = .ok (.ifCond .le 7, 3) := by decide +kernel
theorem dX8_queued_50 : decode cX8_queued 50 = .ok (.iconst 0, 1) := by decide +kernel
theorem dX8_queued_51 : decode cX8_queued 51 = .ok (.goto 17, 3) := by decide +kernel
theorem dX8_queued_54 : decode cX8_queued 54 = .ok (.aload_n 0, 1) := by decide +kernel
theorem dX8_queued_55 : decode cX8_queued 55 = .ok (.getfield 9, 3) := by decide +kernel
theorem dX8_queued_58 : decode cX8_queued 58 = .ok (.iload_n 1, 1) := by decide +kernel
theorem dX8_queued_59 : decode cX8_queued 59 = .ok (.invokestatic 51, 3) := by decide +kernel
theorem dX8_queued_62 : decode cX8_queued 62 = .ok (.bipush 11, 2) := by decide +kernel
theorem dX8_queued_64 : decode cX8_queued 64 = .ok (.iadd, 1) := by decide +kernel
theorem dX8_queued_65 : decode cX8_queued 65 = .ok (.iload_n 2, 1) := by decide +kernel
theorem dX8_queued_66 : decode cX8_queued 66 = .ok (.iadd, 1) := by decide +kernel
theorem dX8_queued_67 : decode cX8_queued 67 = .ok (.iaload, 1) := by decide +kernel
theorem dX8_queued_68 : decode cX8_queued 68 = .ok (.ireturn, 1) := by decide +kernel
theorem dX8_comesTo_0 : decode cX8_comesTo 0 = .ok (.aload_n 0, 1) := by decide +kernel
theorem dX8_comesTo_1 : decode cX8_comesTo 1 = .ok (.getfield 9, 3) := by decide +kernel
theorem dX8_comesTo_4 : decode cX8_comesTo 4 = .ok (.iload_n 1, 1) := by decide +kernel
theorem dX8_comesTo_5 : decode cX8_comesTo 5 = .ok (.invokestatic 71, 3) := by decide +kernel
theorem dX8_comesTo_8 : decode cX8_comesTo 8 = .ok (.iconst 4, 1) := by decide +kernel
theorem dX8_comesTo_9 : decode cX8_comesTo 9 = .ok (.iadd, 1) := by decide +kernel
theorem dX8_comesTo_10 : decode cX8_comesTo 10 = .ok (.iconst 0, 1) := by decide +kernel
theorem dX8_comesTo_11 : decode cX8_comesTo 11 = .ok (.iastore, 1) := by decide +kernel
theorem dX8_comesTo_12 : decode cX8_comesTo 12 = .ok (.aload_n 0, 1) := by decide +kernel
theorem dX8_comesTo_13 : decode cX8_comesTo 13 = .ok (.getfield 9, 3) := by decide +kernel
theorem dX8_comesTo_16 : decode cX8_comesTo 16 = .ok (.iload_n 1, 1) := by decide +kernel
theorem dX8_comesTo_17 : decode cX8_comesTo 17 = .ok (.invokestatic 71, 3) := by decide +kernel
theorem dX8_comesTo_20 : decode cX8_comesTo 20 = .ok (.iconst 5, 1) := by decide +kernel
theorem dX8_comesTo_21 : decode cX8_comesTo 21 = .ok (.iadd, 1) := by decide +kernel
theorem dX8_comesTo_22 : decode cX8_comesTo 22 = .ok (.iload_n 2, 1) := by decide +kernel
theorem dX8_comesTo_23 : decode cX8_comesTo 23 = .ok (.iastore, 1) := by decide +kernel
theorem dX8_comesTo_24 : decode cX8_comesTo 24 = .ok (.aload_n 0, 1) := by decide +kernel
theorem dX8_comesTo_25 : decode cX8_comesTo 25 = .ok (.getfield 9, 3) := by decide +kernel
theorem dX8_comesTo_28 : decode cX8_comesTo 28 = .ok (.iload_n 1, 1) := by decide +kernel
theorem dX8_comesTo_29 : decode cX8_comesTo 29 = .ok (.invokestatic 71, 3) := by decide +kernel
theorem dX8_comesTo_32 : decode cX8_comesTo 32 = .ok (.bipush 6, 2) := by decide +kernel
theorem dX8_comesTo_34 : decode cX8_comesTo 34 = .ok (.iadd, 1) := by decide +kernel
theorem dX8_comesTo_35 : decode cX8_comesTo 35 = .ok (.iconst 0, 1) := by decide +kernel
theorem dX8_comesTo_36 : decode cX8_comesTo 36 = .ok (.iastore, 1) := by decide +kernel
theorem dX8_comesTo_37 : decode cX8_comesTo 37 = .ok (.aload_n 0, 1) := by decide +kernel
theorem dX8_comesTo_38 : decode cX8_comesTo 38 = .ok (.dup, 1) := by decide +kernel
theorem dX8_comesTo_39 : decode cX8_comesTo 39 = .ok (.getfield 124, 3) := by decide +kernel
theorem dX8_comesTo_42 : decode cX8_comesTo 42 = .ok (.iconst 1, 1) := by decide +kernel
theorem dX8_comesTo_43 : decode cX8_comesTo 43 = .ok (.iadd, 1) := by decide +kernel
theorem dX8_comesTo_44 : decode cX8_comesTo 44 = .ok (.putfield 124, 3) := by decide +kernel
theorem dX8_comesTo_47 : decode cX8_comesTo 47 = .ok (.return_, 1) := by decide +kernel
theorem dX8_cabin_0 : decode cX8_cabin 0 = .ok (.iload_n 1, 1) := by decide +kernel
theorem dX8_cabin_1 : decode cX8_cabin 1 = .ok (.invokestatic 51, 3) := by decide +kernel
theorem dX8_cabin_4 : decode cX8_cabin 4 = .ok (.istore_n 2, 1) := by decide +kernel
theorem dX8_cabin_5 : decode cX8_cabin 5 = .ok (.aload_n 0, 1) := by decide +kernel
theorem dX8_cabin_6 : decode cX8_cabin 6 = .ok (.getfield 9, 3) := by decide +kernel
theorem dX8_cabin_9 : decode cX8_cabin 9 = .ok (.iload_n 2, 1) := by decide +kernel
theorem dX8_cabin_10 : decode cX8_cabin 10 = .ok (.bipush 10, 2) := by decide +kernel
theorem dX8_cabin_12 : decode cX8_cabin 12 = .ok (.iadd, 1) := by decide +kernel
theorem dX8_cabin_13 : decode cX8_cabin 13 = .ok (.iaload, 1) := by decide +kernel
theorem dX8_cabin_14 : decode cX8_cabin 14 = .ok (.aload_n 0, 1) := by decide +kernel
theorem dX8_cabin_15 : decode cX8_cabin 15 = .ok (.getfield 9, 3) := by decide +kernel
theorem dX8_cabin_18 : decode cX8_cabin 18 = .ok (.iload_n 2, 1) := by decide +kernel
theorem dX8_cabin_19 : decode cX8_cabin 19 = .ok (.iconst 4, 1) := by decide +kernel
theorem dX8_cabin_20 : decode cX8_cabin 20 = .ok (.iadd, 1) := by decide +kernel
theorem dX8_cabin_21 : decode cX8_cabin 21 = .ok (.iaload, 1) := by decide +kernel
theorem dX8_cabin_22 : decode cX8_cabin 22 = .ok (.invokestatic 127, 3) := by decide +kernel
theorem dX8_cabin_25 : decode cX8_cabin 25 = .ok (.istore_n 3, 1) := by decide +kernel
theorem dX8_cabin_26 : decode cX8_cabin 26 = .ok (.iconst 0, 1) := by decide +kernel
theorem dX8_cabin_27 : decode cX8_cabin 27 = .ok (.istore 4, 2) := by decide +kernel
theorem dX8_cabin_29 : decode cX8_cabin 29 = .ok (.iload 4, 2) := by decide +kernel
theorem dX8_cabin_31 : decode cX8_cabin 31 = .ok (.iload_n 3, 1) := by decide +kernel
theorem dX8_cabin_32 : decode cX8_cabin 32 = .ok (.if_icmp .ge 70, 3) := by decide +kernel
theorem dX8_cabin_35 : decode cX8_cabin 35 = .ok (.aload_n 0, 1) := by decide +kernel
theorem dX8_cabin_36 : decode cX8_cabin 36 = .ok (.getfield 9, 3) := by decide +kernel
theorem dX8_cabin_39 : decode cX8_cabin 39 = .ok (.iload_n 2, 1) := by decide +kernel
theorem dX8_cabin_40 : decode cX8_cabin 40 = .ok (.bipush 11, 2) := by decide +kernel
theorem dX8_cabin_42 : decode cX8_cabin 42 = .ok (.iadd, 1) := by decide +kernel
theorem dX8_cabin_43 : decode cX8_cabin 43 = .ok (.iload 4, 2) := by decide +kernel
theorem dX8_cabin_45 : decode cX8_cabin 45 = .ok (.iadd, 1) := by decide +kernel
theorem dX8_cabin_46 : decode cX8_cabin 46 = .ok (.iaload, 1) := by decide +kernel
theorem dX8_cabin_47 : decode cX8_cabin 47 = .ok (.invokestatic 71, 3) := by decide +kernel
theorem dX8_cabin_50 : decode cX8_cabin 50 = .ok (.istore 5, 2) := by decide +kernel
theorem dX8_cabin_52 : decode cX8_cabin 52 = .ok (.aload_n 0, 1) := by decide +kernel
theorem dX8_cabin_53 : decode cX8_cabin 53 = .ok (.getfield 9, 3) := by decide +kernel
theorem dX8_cabin_56 : decode cX8_cabin 56 = .ok (.iload 5, 2) := by decide +kernel
theorem dX8_cabin_58 : decode cX8_cabin 58 = .ok (.iconst 4, 1) := by decide +kernel
theorem dX8_cabin_59 : decode cX8_cabin 59 = .ok (.iadd, 1) := by decide +kernel
theorem dX8_cabin_60 : decode cX8_cabin 60 = .ok (.iconst 2, 1) := by decide +kernel
theorem dX8_cabin_61 : decode cX8_cabin 61 = .ok (.iastore, 1) := by decide +kernel
theorem dX8_cabin_62 : decode cX8_cabin 62 = .ok (.aload_n 0, 1) := by decide +kernel
theorem dX8_cabin_63 : decode cX8_cabin 63 = .ok (.getfield 9, 3) := by decide +kernel
theorem dX8_cabin_66 : decode cX8_cabin 66 = .ok (.iload 5, 2) := by decide +kernel
theorem dX8_cabin_68 : decode cX8_cabin 68 = .ok (.bipush 6, 2) := by decide +kernel
theorem dX8_cabin_70 : decode cX8_cabin 70 = .ok (.iadd, 1) := by decide +kernel
theorem dX8_cabin_71 : decode cX8_cabin 71 = .ok (.iconst 2, 1) := by decide +kernel
theorem dX8_cabin_72 : decode cX8_cabin 72 = .ok (.aload_n 0, 1) := by decide +kernel
theorem dX8_cabin_73 : decode cX8_cabin 73 = .ok (.getfield 9, 3) := by decide +kernel
theorem dX8_cabin_76 : decode cX8_cabin 76 = .ok (.iload_n 2, 1) := by decide +kernel
theorem dX8_cabin_77 : decode cX8_cabin 77 = .ok (.iconst 5, 1) := by decide +kernel
theorem dX8_cabin_78 : decode cX8_cabin 78 = .ok (.iadd, 1) := by decide +kernel
theorem dX8_cabin_79 : decode cX8_cabin 79 = .ok (.iaload, 1) := by decide +kernel
theorem dX8_cabin_80 : decode cX8_cabin 80 = .ok (.imul, 1) := by decide +kernel
theorem dX8_cabin_81 : decode cX8_cabin 81 = .ok (.iastore, 1) := by decide +kernel
theorem dX8_cabin_82 : decode cX8_cabin 82 = .ok (.aload_n 0, 1) := by decide +kernel
theorem dX8_cabin_83 : decode cX8_cabin 83 = .ok (.getfield 9, 3) := by decide +kernel
theorem dX8_cabin_86 : decode cX8_cabin 86 = .ok (.iload 5, 2) := by decide +kernel
theorem dX8_cabin_88 : decode cX8_cabin 88 = .ok (.bipush 7, 2) := by decide +kernel
theorem dX8_cabin_90 : decode cX8_cabin 90 = .ok (.iadd, 1) := by decide +kernel
theorem dX8_cabin_91 : decode cX8_cabin 91 = .ok (.dup2, 1) := by decide +kernel
theorem dX8_cabin_92 : decode cX8_cabin 92 = .ok (.iaload, 1) := by decide +kernel
theorem dX8_cabin_93 : decode cX8_cabin 93 = .ok (.iconst 1, 1) := by decide +kernel
theorem dX8_cabin_94 : decode cX8_cabin 94 = .ok (.iadd, 1) := by decide +kernel
theorem dX8_cabin_95 : decode cX8_cabin 95 = .ok (.iastore, 1) := by decide +kernel
theorem dX8_cabin_96 : decode cX8_cabin 96 = .ok (.iinc 4 1, 3) := by decide +kernel
theorem dX8_cabin_99 : decode cX8_cabin 99 = .ok (.goto (-70), 3) := by decide +kernel
theorem dX8_cabin_102 : decode cX8_cabin 102 = .ok (.aload_n 0, 1) := by decide +kernel
theorem dX8_cabin_103 : decode cX8_cabin 103 = .ok (.iload_n 1, 1) := by decide +kernel
theorem dX8_cabin_104 : decode cX8_cabin 104 = .ok (.iconst 0, 1) := by decide +kernel
theorem dX8_cabin_105 : decode cX8_cabin 105 = .ok (.iload_n 3, 1) := by decide +kernel
theorem dX8_cabin_106 : decode cX8_cabin 106 = .ok (.invokevirtual 120, 3) := by decide +kernel
theorem dX8_cabin_109 : decode cX8_cabin 109 = .ok (.aload_n 0, 1) := by decide +kernel
theorem dX8_cabin_110 : decode cX8_cabin 110 = .ok (.getfield 9, 3) := by decide +kernel
theorem dX8_cabin_113 : decode cX8_cabin 113 = .ok (.iload_n 2, 1) := by decide +kernel
theorem dX8_cabin_114 : decode cX8_cabin 114 = .ok (.bipush 8, 2) := by decide +kernel
theorem dX8_cabin_116 : decode cX8_cabin 116 = .ok (.iadd, 1) := by decide +kernel
theorem dX8_cabin_117 : decode cX8_cabin 117 = .ok (.dup2, 1) := by decide +kernel
theorem dX8_cabin_118 : decode cX8_cabin 118 = .ok (.iaload, 1) := by decide +kernel
theorem dX8_cabin_119 : decode cX8_cabin 119 = .ok (.iload_n 3, 1) := by decide +kernel
theorem dX8_cabin_120 : decode cX8_cabin 120 = .ok (.iadd, 1) := by decide +kernel
theorem dX8_cabin_121 : decode cX8_cabin 121 = .ok (.iastore, 1) := by decide +kernel
theorem dX8_cabin_122 : decode cX8_cabin 122 = .ok (.aload_n 0, 1) := by decide +kernel
theorem dX8_cabin_123 : decode cX8_cabin 123 = .ok (.getfield 9, 3) := by decide +kernel
theorem dX8_cabin_126 : decode cX8_cabin 126 = .ok (.iload_n 2, 1) := by decide +kernel
theorem dX8_cabin_127 : decode cX8_cabin 127 = .ok (.bipush 9, 2) := by decide +kernel
theorem dX8_cabin_129 : decode cX8_cabin 129 = .ok (.iadd, 1) := by decide +kernel
theorem dX8_cabin_130 : decode cX8_cabin 130 = .ok (.dup2, 1) := by decide +kernel
theorem dX8_cabin_131 : decode cX8_cabin 131 = .ok (.iaload, 1) := by decide +kernel
theorem dX8_cabin_132 : decode cX8_cabin 132 = .ok (.iconst 1, 1) := by decide +kernel
theorem dX8_cabin_133 : decode cX8_cabin 133 = .ok (.iadd, 1) := by decide +kernel
theorem dX8_cabin_134 : decode cX8_cabin 134 = .ok (.iastore, 1) := by decide +kernel
theorem dX8_cabin_135 : decode cX8_cabin 135 = .ok (.aload_n 0, 1) := by decide +kernel
theorem dX8_cabin_136 : decode cX8_cabin 136 = .ok (.getfield 9, 3) := by decide +kernel
theorem dX8_cabin_139 : decode cX8_cabin 139 = .ok (.iload_n 2, 1) := by decide +kernel
theorem dX8_cabin_140 : decode cX8_cabin 140 = .ok (.bipush 7, 2) := by decide +kernel
theorem dX8_cabin_142 : decode cX8_cabin 142 = .ok (.iadd, 1) := by decide +kernel
theorem dX8_cabin_143 : decode cX8_cabin 143 = .ok (.dup2, 1) := by decide +kernel
theorem dX8_cabin_144 : decode cX8_cabin 144 = .ok (.iaload, 1) := by decide +kernel
theorem dX8_cabin_145 : decode cX8_cabin 145 = .ok (.iconst 2, 1) := by decide +kernel
theorem dX8_cabin_146 : decode cX8_cabin 146 = .ok (.aload_n 0, 1) := by decide +kernel
theorem dX8_cabin_147 : decode cX8_cabin 147 = .ok (.getfield 9, 3) := by decide +kernel
theorem dX8_cabin_150 : decode cX8_cabin 150 = .ok (.iload_n 2, 1) := by decide +kernel
theorem dX8_cabin_151 : decode cX8_cabin 151 = .ok (.iconst 3, 1) := by decide +kernel
theorem dX8_cabin_152 : decode cX8_cabin 152 = .ok (.iadd, 1) := by decide +kernel
theorem dX8_cabin_153 : decode cX8_cabin 153 = .ok (.iaload, 1) := by decide +kernel
theorem dX8_cabin_154 : decode cX8_cabin 154 = .ok (.imul, 1) := by decide +kernel
theorem dX8_cabin_155 : decode cX8_cabin 155 = .ok (.isub, 1) := by decide +kernel
theorem dX8_cabin_156 : decode cX8_cabin 156 = .ok (.iastore, 1) := by decide +kernel
theorem dX8_cabin_157 : decode cX8_cabin 157 = .ok (.return_, 1) := by decide +kernel
theorem dX8_tick_0 : decode cX8_tick 0 = .ok (.iconst 0, 1) := by decide +kernel
theorem dX8_tick_1 : decode cX8_tick 1 = .ok (.istore_n 1, 1) := by decide +kernel
theorem dX8_tick_2 : decode cX8_tick 2 = .ok (.iload_n 1, 1) := by decide +kernel
theorem dX8_tick_3 : decode cX8_tick 3 = .ok (.aload_n 0, 1) := by decide +kernel
theorem dX8_tick_4 : decode cX8_tick 4 = .ok (.getfield 9, 3) := by decide +kernel
theorem dX8_tick_7 : decode cX8_tick 7 = .ok (.iconst 5, 1) := by decide +kernel
theorem dX8_tick_8 : decode cX8_tick 8 = .ok (.iaload, 1) := by decide +kernel
theorem dX8_tick_9 : decode cX8_tick 9 = .ok (.if_icmp .ge 85, 3) := by decide +kernel
theorem dX8_tick_12 : decode cX8_tick 12 = .ok (.iload_n 1, 1) := by decide +kernel
theorem dX8_tick_13 : decode cX8_tick 13 = .ok (.invokestatic 71, 3) := by decide +kernel
theorem dX8_tick_16 : decode cX8_tick 16 = .ok (.istore_n 2, 1) := by decide +kernel
theorem dX8_tick_17 : decode cX8_tick 17 = .ok (.aload_n 0, 1) := by decide +kernel
theorem dX8_tick_18 : decode cX8_tick 18 = .ok (.getfield 9, 3) := by decide +kernel
theorem dX8_tick_21 : decode cX8_tick 21 = .ok (.iload_n 2, 1) := by decide +kernel
theorem dX8_tick_22 : decode cX8_tick 22 = .ok (.iconst 4, 1) := by decide +kernel
theorem dX8_tick_23 : decode cX8_tick 23 = .ok (.iadd, 1) := by decide +kernel
theorem dX8_tick_24 : decode cX8_tick 24 = .ok (.iaload, 1) := by decide +kernel
theorem dX8_tick_25 : decode cX8_tick 25 = .ok (.iconst 2, 1) := by decide +kernel
theorem dX8_tick_26 : decode cX8_tick 26 = .ok (.if_icmp .ne 62, 3) := by decide +kernel
theorem dX8_tick_29 : decode cX8_tick 29 = .ok (.aload_n 0, 1) := by decide +kernel
theorem dX8_tick_30 : decode cX8_tick 30 = .ok (.getfield 9, 3) := by decide +kernel
theorem dX8_tick_33 : decode cX8_tick 33 = .ok (.iload_n 2, 1) := by decide +kernel
theorem dX8_tick_34 : decode cX8_tick 34 = .ok (.bipush 6, 2) := by decide +kernel
theorem dX8_tick_36 : decode cX8_tick 36 = .ok (.iadd, 1) := by decide +kernel
theorem dX8_tick_37 : decode cX8_tick 37 = .ok (.dup2, 1) := by decide +kernel
theorem dX8_tick_38 : decode cX8_tick 38 = .ok (.iaload, 1) := by decide +kernel
theorem dX8_tick_39 : decode cX8_tick 39 = .ok (.aload_n 0, 1) := by decide +kernel
theorem dX8_tick_40 : decode cX8_tick 40 = .ok (.aload_n 0, 1) := by decide +kernel
theorem dX8_tick_41 : decode cX8_tick 41 = .ok (.getfield 9, 3) := by decide +kernel
theorem dX8_tick_44 : decode cX8_tick 44 = .ok (.iload_n 2, 1) := by decide +kernel
theorem dX8_tick_45 : decode cX8_tick 45 = .ok (.iconst 5, 1) := by decide +kernel
theorem dX8_tick_46 : decode cX8_tick 46 = .ok (.iadd, 1) := by decide +kernel
theorem dX8_tick_47 : decode cX8_tick 47 = .ok (.iaload, 1) := by decide +kernel
theorem dX8_tick_48 : decode cX8_tick 48 = .ok (.invokevirtual 132, 3) := by decide +kernel
theorem dX8_tick_51 : decode cX8_tick 51 = .ok (.isub, 1) := by decide +kernel
theorem dX8_tick_52 : decode cX8_tick 52 = .ok (.iastore, 1) := by decide +kernel
theorem dX8_tick_53 : decode cX8_tick 53 = .ok (.aload_n 0, 1) := by decide +kernel
theorem dX8_tick_54 : decode cX8_tick 54 = .ok (.getfield 9, 3) := by decide +kernel
theorem dX8_tick_57 : decode cX8_tick 57 = .ok (.iload_n 2, 1) := by decide +kernel
theorem dX8_tick_58 : decode cX8_tick 58 = .ok (.bipush 6, 2) := by decide +kernel
theorem dX8_tick_60 : decode cX8_tick 60 = .ok (.iadd, 1) := by decide +kernel
theorem dX8_tick_61 : decode cX8_tick 61 = .ok (.iaload, 1) := by decide +kernel
theorem dX8_tick_62 : decode cX8_tick 62 = .ok (.ifCond .gt 26, 3) := by decide +kernel
theorem dX8_tick_65 : decode cX8_tick 65 = .ok (.aload_n 0, 1) := by decide +kernel
theorem dX8_tick_66 : decode cX8_tick 66 = .ok (.iload_n 1, 1) := by decide +kernel
theorem dX8_tick_67 : decode cX8_tick 67 = .ok (.aload_n 0, 1) := by decide +kernel
theorem dX8_tick_68 : decode cX8_tick 68 = .ok (.getfield 9, 3) := by decide +kernel
theorem dX8_tick_71 : decode cX8_tick 71 = .ok (.aload_n 0, 1) := by decide +kernel
theorem dX8_tick_72 : decode cX8_tick 72 = .ok (.getfield 9, 3) := by decide +kernel
theorem dX8_tick_75 : decode cX8_tick 75 = .ok (.iload_n 2, 1) := by decide +kernel
theorem dX8_tick_76 : decode cX8_tick 76 = .ok (.iconst 5, 1) := by decide +kernel
theorem dX8_tick_77 : decode cX8_tick 77 = .ok (.iadd, 1) := by decide +kernel
theorem dX8_tick_78 : decode cX8_tick 78 = .ok (.iaload, 1) := by decide +kernel
theorem dX8_tick_79 : decode cX8_tick 79 = .ok (.invokestatic 51, 3) := by decide +kernel
theorem dX8_tick_82 : decode cX8_tick 82 = .ok (.iconst 1, 1) := by decide +kernel
theorem dX8_tick_83 : decode cX8_tick 83 = .ok (.iadd, 1) := by decide +kernel
theorem dX8_tick_84 : decode cX8_tick 84 = .ok (.iaload, 1) := by decide +kernel
theorem dX8_tick_85 : decode cX8_tick 85 = .ok (.invokevirtual 135, 3) := by decide +kernel
theorem dX8_tick_88 : decode cX8_tick 88 = .ok (.iinc 1 1, 3) := by decide +kernel
theorem dX8_tick_91 : decode cX8_tick 91 = .ok (.goto (-89), 3) := by decide +kernel
theorem dX8_tick_94 : decode cX8_tick 94 = .ok (.iconst 0, 1) := by decide +kernel
theorem dX8_tick_95 : decode cX8_tick 95 = .ok (.istore_n 1, 1) := by decide +kernel
theorem dX8_tick_96 : decode cX8_tick 96 = .ok (.iload_n 1, 1) := by decide +kernel
theorem dX8_tick_97 : decode cX8_tick 97 = .ok (.aload_n 0, 1) := by decide +kernel
theorem dX8_tick_98 : decode cX8_tick 98 = .ok (.getfield 9, 3) := by decide +kernel
theorem dX8_tick_101 : decode cX8_tick 101 = .ok (.iconst 5, 1) := by decide +kernel
theorem dX8_tick_102 : decode cX8_tick 102 = .ok (.iaload, 1) := by decide +kernel
theorem dX8_tick_103 : decode cX8_tick 103 = .ok (.if_icmp .ge 74, 3) := by decide +kernel
theorem dX8_tick_106 : decode cX8_tick 106 = .ok (.iload_n 1, 1) := by decide +kernel
theorem dX8_tick_107 : decode cX8_tick 107 = .ok (.invokestatic 71, 3) := by decide +kernel
theorem dX8_tick_110 : decode cX8_tick 110 = .ok (.istore_n 2, 1) := by decide +kernel
theorem dX8_tick_111 : decode cX8_tick 111 = .ok (.aload_n 0, 1) := by decide +kernel
theorem dX8_tick_112 : decode cX8_tick 112 = .ok (.getfield 9, 3) := by decide +kernel
theorem dX8_tick_115 : decode cX8_tick 115 = .ok (.iload_n 2, 1) := by decide +kernel
theorem dX8_tick_116 : decode cX8_tick 116 = .ok (.iconst 4, 1) := by decide +kernel
theorem dX8_tick_117 : decode cX8_tick 117 = .ok (.iadd, 1) := by decide +kernel
theorem dX8_tick_118 : decode cX8_tick 118 = .ok (.iaload, 1) := by decide +kernel
theorem dX8_tick_119 : decode cX8_tick 119 = .ok (.iconst 3, 1) := by decide +kernel
theorem dX8_tick_120 : decode cX8_tick 120 = .ok (.if_icmp .ne 51, 3) := by decide +kernel
theorem dX8_tick_123 : decode cX8_tick 123 = .ok (.aload_n 0, 1) := by decide +kernel
theorem dX8_tick_124 : decode cX8_tick 124 = .ok (.getfield 9, 3) := by decide +kernel
theorem dX8_tick_127 : decode cX8_tick 127 = .ok (.iload_n 2, 1) := by decide +kernel
theorem dX8_tick_128 : decode cX8_tick 128 = .ok (.bipush 6, 2) := by decide +kernel
theorem dX8_tick_130 : decode cX8_tick 130 = .ok (.iadd, 1) := by decide +kernel
theorem dX8_tick_131 : decode cX8_tick 131 = .ok (.dup2, 1) := by decide +kernel
theorem dX8_tick_132 : decode cX8_tick 132 = .ok (.iaload, 1) := by decide +kernel
theorem dX8_tick_133 : decode cX8_tick 133 = .ok (.iconst 1, 1) := by decide +kernel
theorem dX8_tick_134 : decode cX8_tick 134 = .ok (.isub, 1) := by decide +kernel
theorem dX8_tick_135 : decode cX8_tick 135 = .ok (.iastore, 1) := by decide +kernel
theorem dX8_tick_136 : decode cX8_tick 136 = .ok (.aload_n 0, 1) := by decide +kernel
theorem dX8_tick_137 : decode cX8_tick 137 = .ok (.getfield 9, 3) := by decide +kernel
theorem dX8_tick_140 : decode cX8_tick 140 = .ok (.iload_n 2, 1) := by decide +kernel
theorem dX8_tick_141 : decode cX8_tick 141 = .ok (.bipush 6, 2) := by decide +kernel
theorem dX8_tick_143 : decode cX8_tick 143 = .ok (.iadd, 1) := by decide +kernel
theorem dX8_tick_144 : decode cX8_tick 144 = .ok (.iaload, 1) := by decide +kernel
theorem dX8_tick_145 : decode cX8_tick 145 = .ok (.ifCond .ne 26, 3) := by decide +kernel
theorem dX8_tick_148 : decode cX8_tick 148 = .ok (.aload_n 0, 1) := by decide +kernel
theorem dX8_tick_149 : decode cX8_tick 149 = .ok (.iload_n 1, 1) := by decide +kernel
theorem dX8_tick_150 : decode cX8_tick 150 = .ok (.aload_n 0, 1) := by decide +kernel
theorem dX8_tick_151 : decode cX8_tick 151 = .ok (.getfield 9, 3) := by decide +kernel
theorem dX8_tick_154 : decode cX8_tick 154 = .ok (.aload_n 0, 1) := by decide +kernel
theorem dX8_tick_155 : decode cX8_tick 155 = .ok (.getfield 9, 3) := by decide +kernel
theorem dX8_tick_158 : decode cX8_tick 158 = .ok (.iload_n 2, 1) := by decide +kernel
theorem dX8_tick_159 : decode cX8_tick 159 = .ok (.iconst 5, 1) := by decide +kernel
theorem dX8_tick_160 : decode cX8_tick 160 = .ok (.iadd, 1) := by decide +kernel
theorem dX8_tick_161 : decode cX8_tick 161 = .ok (.iaload, 1) := by decide +kernel
theorem dX8_tick_162 : decode cX8_tick 162 = .ok (.invokestatic 68, 3) := by decide +kernel
theorem dX8_tick_165 : decode cX8_tick 165 = .ok (.iconst 1, 1) := by decide +kernel
theorem dX8_tick_166 : decode cX8_tick 166 = .ok (.iadd, 1) := by decide +kernel
theorem dX8_tick_167 : decode cX8_tick 167 = .ok (.iaload, 1) := by decide +kernel
theorem dX8_tick_168 : decode cX8_tick 168 = .ok (.invokevirtual 135, 3) := by decide +kernel
theorem dX8_tick_171 : decode cX8_tick 171 = .ok (.iinc 1 1, 3) := by decide +kernel
theorem dX8_tick_174 : decode cX8_tick 174 = .ok (.goto (-78), 3) := by decide +kernel
theorem dX8_tick_177 : decode cX8_tick 177 = .ok (.iconst 0, 1) := by decide +kernel
theorem dX8_tick_178 : decode cX8_tick 178 = .ok (.istore_n 1, 1) := by decide +kernel
theorem dX8_tick_179 : decode cX8_tick 179 = .ok (.iload_n 1, 1) := by decide +kernel
theorem dX8_tick_180 : decode cX8_tick 180 = .ok (.aload_n 0, 1) := by decide +kernel
theorem dX8_tick_181 : decode cX8_tick 181 = .ok (.getfield 9, 3) := by decide +kernel
theorem dX8_tick_184 : decode cX8_tick 184 = .ok (.iconst 3, 1) := by decide +kernel
theorem dX8_tick_185 : decode cX8_tick 185 = .ok (.iaload, 1) := by decide +kernel
theorem dX8_tick_186 : decode cX8_tick 186 = .ok (.if_icmp .ge 61, 3) := by decide +kernel
theorem dX8_tick_189 : decode cX8_tick 189 = .ok (.iload_n 1, 1) := by decide +kernel
theorem dX8_tick_190 : decode cX8_tick 190 = .ok (.invokestatic 51, 3) := by decide +kernel
theorem dX8_tick_193 : decode cX8_tick 193 = .ok (.istore_n 2, 1) := by decide +kernel
theorem dX8_tick_194 : decode cX8_tick 194 = .ok (.aload_n 0, 1) := by decide +kernel
theorem dX8_tick_195 : decode cX8_tick 195 = .ok (.getfield 9, 3) := by decide +kernel
theorem dX8_tick_198 : decode cX8_tick 198 = .ok (.iload_n 2, 1) := by decide +kernel
theorem dX8_tick_199 : decode cX8_tick 199 = .ok (.bipush 7, 2) := by decide +kernel
theorem dX8_tick_201 : decode cX8_tick 201 = .ok (.iadd, 1) := by decide +kernel
theorem dX8_tick_202 : decode cX8_tick 202 = .ok (.dup2, 1) := by decide +kernel
theorem dX8_tick_203 : decode cX8_tick 203 = .ok (.iaload, 1) := by decide +kernel
theorem dX8_tick_204 : decode cX8_tick 204 = .ok (.aload_n 0, 1) := by decide +kernel
theorem dX8_tick_205 : decode cX8_tick 205 = .ok (.iload_n 1, 1) := by decide +kernel
theorem dX8_tick_206 : decode cX8_tick 206 = .ok (.invokevirtual 132, 3) := by decide +kernel
theorem dX8_tick_209 : decode cX8_tick 209 = .ok (.iadd, 1) := by decide +kernel
theorem dX8_tick_210 : decode cX8_tick 210 = .ok (.iastore, 1) := by decide +kernel
theorem dX8_tick_211 : decode cX8_tick 211 = .ok (.aload_n 0, 1) := by decide +kernel
theorem dX8_tick_212 : decode cX8_tick 212 = .ok (.getfield 9, 3) := by decide +kernel
theorem dX8_tick_215 : decode cX8_tick 215 = .ok (.iload_n 2, 1) := by decide +kernel
theorem dX8_tick_216 : decode cX8_tick 216 = .ok (.bipush 7, 2) := by decide +kernel
theorem dX8_tick_218 : decode cX8_tick 218 = .ok (.iadd, 1) := by decide +kernel
theorem dX8_tick_219 : decode cX8_tick 219 = .ok (.iaload, 1) := by decide +kernel
theorem dX8_tick_220 : decode cX8_tick 220 = .ok (.iconst 2, 1) := by decide +kernel
theorem dX8_tick_221 : decode cX8_tick 221 = .ok (.aload_n 0, 1) := by decide +kernel
theorem dX8_tick_222 : decode cX8_tick 222 = .ok (.getfield 9, 3) := by decide +kernel
theorem dX8_tick_225 : decode cX8_tick 225 = .ok (.iload_n 2, 1) := by decide +kernel
theorem dX8_tick_226 : decode cX8_tick 226 = .ok (.iconst 3, 1) := by decide +kernel
theorem dX8_tick_227 : decode cX8_tick 227 = .ok (.iadd, 1) := by decide +kernel
theorem dX8_tick_228 : decode cX8_tick 228 = .ok (.iaload, 1) := by decide +kernel
theorem dX8_tick_229 : decode cX8_tick 229 = .ok (.imul, 1) := by decide +kernel
theorem dX8_tick_230 : decode cX8_tick 230 = .ok (.if_icmp .lt 11, 3) := by decide +kernel
theorem dX8_tick_233 : decode cX8_tick 233 = .ok (.aload_n 0, 1) := by decide +kernel
theorem dX8_tick_234 : decode cX8_tick 234 = .ok (.iload_n 1, 1) := by decide +kernel
theorem dX8_tick_235 : decode cX8_tick 235 = .ok (.invokevirtual 139, 3) := by decide +kernel
theorem dX8_tick_238 : decode cX8_tick 238 = .ok (.goto (-27), 3) := by decide +kernel
theorem dX8_tick_241 : decode cX8_tick 241 = .ok (.iinc 1 1, 3) := by decide +kernel
theorem dX8_tick_244 : decode cX8_tick 244 = .ok (.goto (-65), 3) := by decide +kernel
theorem dX8_tick_247 : decode cX8_tick 247 = .ok (.iconst 0, 1) := by decide +kernel
theorem dX8_tick_248 : decode cX8_tick 248 = .ok (.istore_n 1, 1) := by decide +kernel
theorem dX8_tick_249 : decode cX8_tick 249 = .ok (.iload_n 1, 1) := by decide +kernel
theorem dX8_tick_250 : decode cX8_tick 250 = .ok (.aload_n 0, 1) := by decide +kernel
theorem dX8_tick_251 : decode cX8_tick 251 = .ok (.getfield 9, 3) := by decide +kernel
theorem dX8_tick_254 : decode cX8_tick 254 = .ok (.iconst 4, 1) := by decide +kernel
theorem dX8_tick_255 : decode cX8_tick 255 = .ok (.iaload, 1) := by decide +kernel
theorem dX8_tick_256 : decode cX8_tick 256 = .ok (.if_icmp .ge 69, 3) := by decide +kernel
theorem dX8_tick_259 : decode cX8_tick 259 = .ok (.iload_n 1, 1) := by decide +kernel
theorem dX8_tick_260 : decode cX8_tick 260 = .ok (.invokestatic 68, 3) := by decide +kernel
theorem dX8_tick_263 : decode cX8_tick 263 = .ok (.istore_n 2, 1) := by decide +kernel
theorem dX8_tick_264 : decode cX8_tick 264 = .ok (.aload_n 0, 1) := by decide +kernel
theorem dX8_tick_265 : decode cX8_tick 265 = .ok (.getfield 9, 3) := by decide +kernel
theorem dX8_tick_268 : decode cX8_tick 268 = .ok (.iload_n 2, 1) := by decide +kernel
theorem dX8_tick_269 : decode cX8_tick 269 = .ok (.iconst 4, 1) := by decide +kernel
theorem dX8_tick_270 : decode cX8_tick 270 = .ok (.iadd, 1) := by decide +kernel
theorem dX8_tick_271 : decode cX8_tick 271 = .ok (.iaload, 1) := by decide +kernel
theorem dX8_tick_272 : decode cX8_tick 272 = .ok (.iconst 2, 1) := by decide +kernel
theorem dX8_tick_273 : decode cX8_tick 273 = .ok (.if_icmp .ne 46, 3) := by decide +kernel
theorem dX8_tick_276 : decode cX8_tick 276 = .ok (.aload_n 0, 1) := by decide +kernel
theorem dX8_tick_277 : decode cX8_tick 277 = .ok (.getfield 9, 3) := by decide +kernel
theorem dX8_tick_280 : decode cX8_tick 280 = .ok (.iload_n 2, 1) := by decide +kernel
theorem dX8_tick_281 : decode cX8_tick 281 = .ok (.bipush 6, 2) := by decide +kernel
theorem dX8_tick_283 : decode cX8_tick 283 = .ok (.iadd, 1) := by decide +kernel
theorem dX8_tick_284 : decode cX8_tick 284 = .ok (.dup2, 1) := by decide +kernel
theorem dX8_tick_285 : decode cX8_tick 285 = .ok (.iaload, 1) := by decide +kernel
theorem dX8_tick_286 : decode cX8_tick 286 = .ok (.iconst 1, 1) := by decide +kernel
theorem dX8_tick_287 : decode cX8_tick 287 = .ok (.isub, 1) := by decide +kernel
theorem dX8_tick_288 : decode cX8_tick 288 = .ok (.iastore, 1) := by decide +kernel
theorem dX8_tick_289 : decode cX8_tick 289 = .ok (.aload_n 0, 1) := by decide +kernel
theorem dX8_tick_290 : decode cX8_tick 290 = .ok (.getfield 9, 3) := by decide +kernel
theorem dX8_tick_293 : decode cX8_tick 293 = .ok (.iload_n 2, 1) := by decide +kernel
theorem dX8_tick_294 : decode cX8_tick 294 = .ok (.bipush 6, 2) := by decide +kernel
theorem dX8_tick_296 : decode cX8_tick 296 = .ok (.iadd, 1) := by decide +kernel
theorem dX8_tick_297 : decode cX8_tick 297 = .ok (.iaload, 1) := by decide +kernel
theorem dX8_tick_298 : decode cX8_tick 298 = .ok (.ifCond .ne 21, 3) := by decide +kernel
theorem dX8_tick_301 : decode cX8_tick 301 = .ok (.aload_n 0, 1) := by decide +kernel
theorem dX8_tick_302 : decode cX8_tick 302 = .ok (.getfield 9, 3) := by decide +kernel
theorem dX8_tick_305 : decode cX8_tick 305 = .ok (.iload_n 2, 1) := by decide +kernel
theorem dX8_tick_306 : decode cX8_tick 306 = .ok (.iconst 4, 1) := by decide +kernel
theorem dX8_tick_307 : decode cX8_tick 307 = .ok (.iadd, 1) := by decide +kernel
theorem dX8_tick_308 : decode cX8_tick 308 = .ok (.iconst 0, 1) := by decide +kernel
theorem dX8_tick_309 : decode cX8_tick 309 = .ok (.iastore, 1) := by decide +kernel
theorem dX8_tick_310 : decode cX8_tick 310 = .ok (.aload_n 0, 1) := by decide +kernel
theorem dX8_tick_311 : decode cX8_tick 311 = .ok (.getfield 9, 3) := by decide +kernel
theorem dX8_tick_314 : decode cX8_tick 314 = .ok (.iload_n 2, 1) := by decide +kernel
theorem dX8_tick_315 : decode cX8_tick 315 = .ok (.iconst 5, 1) := by decide +kernel
theorem dX8_tick_316 : decode cX8_tick 316 = .ok (.iadd, 1) := by decide +kernel
theorem dX8_tick_317 : decode cX8_tick 317 = .ok (.iconst 0, 1) := by decide +kernel
theorem dX8_tick_318 : decode cX8_tick 318 = .ok (.iastore, 1) := by decide +kernel
theorem dX8_tick_319 : decode cX8_tick 319 = .ok (.iinc 1 1, 3) := by decide +kernel
theorem dX8_tick_322 : decode cX8_tick 322 = .ok (.goto (-73), 3) := by decide +kernel
theorem dX8_tick_325 : decode cX8_tick 325 = .ok (.iconst 0, 1) := by decide +kernel
theorem dX8_tick_326 : decode cX8_tick 326 = .ok (.istore_n 1, 1) := by decide +kernel
theorem dX8_tick_327 : decode cX8_tick 327 = .ok (.iload_n 1, 1) := by decide +kernel
theorem dX8_tick_328 : decode cX8_tick 328 = .ok (.aload_n 0, 1) := by decide +kernel
theorem dX8_tick_329 : decode cX8_tick 329 = .ok (.getfield 9, 3) := by decide +kernel
theorem dX8_tick_332 : decode cX8_tick 332 = .ok (.iconst 4, 1) := by decide +kernel
theorem dX8_tick_333 : decode cX8_tick 333 = .ok (.iaload, 1) := by decide +kernel
theorem dX8_tick_334 : decode cX8_tick 334 = .ok (.if_icmp .ge 58, 3) := by decide +kernel
theorem dX8_tick_337 : decode cX8_tick 337 = .ok (.iload_n 1, 1) := by decide +kernel
theorem dX8_tick_338 : decode cX8_tick 338 = .ok (.invokestatic 68, 3) := by decide +kernel
theorem dX8_tick_341 : decode cX8_tick 341 = .ok (.istore_n 2, 1) := by decide +kernel
theorem dX8_tick_342 : decode cX8_tick 342 = .ok (.aload_n 0, 1) := by decide +kernel
theorem dX8_tick_343 : decode cX8_tick 343 = .ok (.getfield 9, 3) := by decide +kernel
theorem dX8_tick_346 : decode cX8_tick 346 = .ok (.iload_n 2, 1) := by decide +kernel
theorem dX8_tick_347 : decode cX8_tick 347 = .ok (.iconst 4, 1) := by decide +kernel
theorem dX8_tick_348 : decode cX8_tick 348 = .ok (.iadd, 1) := by decide +kernel
theorem dX8_tick_349 : decode cX8_tick 349 = .ok (.aload_n 0, 1) := by decide +kernel
theorem dX8_tick_350 : decode cX8_tick 350 = .ok (.getfield 9, 3) := by decide +kernel
theorem dX8_tick_353 : decode cX8_tick 353 = .ok (.iload_n 2, 1) := by decide +kernel
theorem dX8_tick_354 : decode cX8_tick 354 = .ok (.iconst 4, 1) := by decide +kernel
theorem dX8_tick_355 : decode cX8_tick 355 = .ok (.iadd, 1) := by decide +kernel
theorem dX8_tick_356 : decode cX8_tick 356 = .ok (.iaload, 1) := by decide +kernel
theorem dX8_tick_357 : decode cX8_tick 357 = .ok (.ifCond .ne 20, 3) := by decide +kernel
theorem dX8_tick_360 : decode cX8_tick 360 = .ok (.aload_n 0, 1) := by decide +kernel
theorem dX8_tick_361 : decode cX8_tick 361 = .ok (.getfield 9, 3) := by decide +kernel
theorem dX8_tick_364 : decode cX8_tick 364 = .ok (.iload_n 2, 1) := by decide +kernel
theorem dX8_tick_365 : decode cX8_tick 365 = .ok (.iconst 5, 1) := by decide +kernel
theorem dX8_tick_366 : decode cX8_tick 366 = .ok (.iadd, 1) := by decide +kernel
theorem dX8_tick_367 : decode cX8_tick 367 = .ok (.iaload, 1) := by decide +kernel
theorem dX8_tick_368 : decode cX8_tick 368 = .ok (.bipush 20, 2) := by decide +kernel
theorem dX8_tick_370 : decode cX8_tick 370 = .ok (.if_icmp .lt 7, 3) := by decide +kernel
theorem dX8_tick_373 : decode cX8_tick 373 = .ok (.iconst 1, 1) := by decide +kernel
theorem dX8_tick_374 : decode cX8_tick 374 = .ok (.goto 11, 3) := by decide +kernel
theorem dX8_tick_377 : decode cX8_tick 377 = .ok (.aload_n 0, 1) := by decide +kernel
theorem dX8_tick_378 : decode cX8_tick 378 = .ok (.getfield 9, 3) := by decide +kernel
theorem dX8_tick_381 : decode cX8_tick 381 = .ok (.iload_n 2, 1) := by decide +kernel
theorem dX8_tick_382 : decode cX8_tick 382 = .ok (.iconst 4, 1) := by decide +kernel
theorem dX8_tick_383 : decode cX8_tick 383 = .ok (.iadd, 1) := by decide +kernel
theorem dX8_tick_384 : decode cX8_tick 384 = .ok (.iaload, 1) := by decide +kernel
theorem dX8_tick_385 : decode cX8_tick 385 = .ok (.iastore, 1) := by decide +kernel
theorem dX8_tick_386 : decode cX8_tick 386 = .ok (.iinc 1 1, 3) := by decide +kernel
theorem dX8_tick_389 : decode cX8_tick 389 = .ok (.goto (-62), 3) := by decide +kernel
theorem dX8_tick_392 : decode cX8_tick 392 = .ok (.aload_n 0, 1) := by decide +kernel
theorem dX8_tick_393 : decode cX8_tick 393 = .ok (.getfield 9, 3) := by decide +kernel
theorem dX8_tick_396 : decode cX8_tick 396 = .ok (.iconst 1, 1) := by decide +kernel
theorem dX8_tick_397 : decode cX8_tick 397 = .ok (.dup2, 1) := by decide +kernel
theorem dX8_tick_398 : decode cX8_tick 398 = .ok (.iaload, 1) := by decide +kernel
theorem dX8_tick_399 : decode cX8_tick 399 = .ok (.iconst 1, 1) := by decide +kernel
theorem dX8_tick_400 : decode cX8_tick 400 = .ok (.iadd, 1) := by decide +kernel
theorem dX8_tick_401 : decode cX8_tick 401 = .ok (.iastore, 1) := by decide +kernel
theorem dX8_tick_402 : decode cX8_tick 402 = .ok (.return_, 1) := by decide +kernel
theorem dX8_ticks_0 : decode cX8_ticks 0 = .ok (.aload_n 0, 1) := by decide +kernel
theorem dX8_ticks_1 : decode cX8_ticks 1 = .ok (.iconst 0, 1) := by decide +kernel
theorem dX8_ticks_2 : decode cX8_ticks 2 = .ok (.putfield 124, 3) := by decide +kernel
theorem dX8_ticks_5 : decode cX8_ticks 5 = .ok (.iconst 0, 1) := by decide +kernel
theorem dX8_ticks_6 : decode cX8_ticks 6 = .ok (.istore_n 2, 1) := by decide +kernel
theorem dX8_ticks_7 : decode cX8_ticks 7 = .ok (.iload_n 2, 1) := by decide +kernel
theorem dX8_ticks_8 : decode cX8_ticks 8 = .ok (.iload_n 1, 1) := by decide +kernel
theorem dX8_ticks_9 : decode cX8_ticks 9 = .ok (.if_icmp .ge 13, 3) := by decide +kernel
theorem dX8_ticks_12 : decode cX8_ticks 12 = .ok (.aload_n 0, 1) := by decide +kernel
theorem dX8_ticks_13 : decode cX8_ticks 13 = .ok (.invokevirtual 143, 3) := by decide +kernel
theorem dX8_ticks_16 : decode cX8_ticks 16 = .ok (.iinc 2 1, 3) := by decide +kernel
theorem dX8_ticks_19 : decode cX8_ticks 19 = .ok (.goto (-12), 3) := by decide +kernel
theorem dX8_ticks_22 : decode cX8_ticks 22 = .ok (.aload_n 0, 1) := by decide +kernel
theorem dX8_ticks_23 : decode cX8_ticks 23 = .ok (.getfield 124, 3) := by decide +kernel
theorem dX8_ticks_26 : decode cX8_ticks 26 = .ok (.ireturn, 1) := by decide +kernel
theorem dX8_advance_0 : decode cX8_advance 0 = .ok (.aload_n 0, 1) := by decide +kernel
theorem dX8_advance_1 : decode cX8_advance 1 = .ok (.iload_n 1, 1) := by decide +kernel
theorem dX8_advance_2 : decode cX8_advance 2 = .ok (.iconst 1, 1) := by decide +kernel
theorem dX8_advance_3 : decode cX8_advance 3 = .ok (.bipush 50, 2) := by decide +kernel
theorem dX8_advance_5 : decode cX8_advance 5 = .ok (.invokestatic 47, 3) := by decide +kernel
theorem dX8_advance_8 : decode cX8_advance 8 = .ok (.ifCond .ne 7, 3) := by decide +kernel
theorem dX8_advance_11 : decode cX8_advance 11 = .ok (.iconst 1, 1) := by decide +kernel
theorem dX8_advance_12 : decode cX8_advance 12 = .ok (.goto 22, 3) := by decide +kernel
theorem dX8_advance_15 : decode cX8_advance 15 = .ok (.aload_n 0, 1) := by decide +kernel
theorem dX8_advance_16 : decode cX8_advance 16 = .ok (.getfield 9, 3) := by decide +kernel
theorem dX8_advance_19 : decode cX8_advance 19 = .ok (.iconst 1, 1) := by decide +kernel
theorem dX8_advance_20 : decode cX8_advance 20 = .ok (.iaload, 1) := by decide +kernel
theorem dX8_advance_21 : decode cX8_advance 21 = .ok (.iload_n 1, 1) := by decide +kernel
theorem dX8_advance_22 : decode cX8_advance 22 = .ok (.iadd, 1) := by decide +kernel
theorem dX8_advance_23 : decode cX8_advance 23 = .ok (.sipush 1000, 3) := by decide +kernel
theorem dX8_advance_26 : decode cX8_advance 26 = .ok (.if_icmp .le 7, 3) := by decide +kernel
theorem dX8_advance_29 : decode cX8_advance 29 = .ok (.iconst 2, 1) := by decide +kernel
theorem dX8_advance_30 : decode cX8_advance 30 = .ok (.goto 4, 3) := by decide +kernel
theorem dX8_advance_33 : decode cX8_advance 33 = .ok (.iconst 0, 1) := by decide +kernel
theorem dX8_advance_34 : decode cX8_advance 34 = .ok (.putfield 41, 3) := by decide +kernel
theorem dX8_advance_37 : decode cX8_advance 37 = .ok (.aload_n 0, 1) := by decide +kernel
theorem dX8_advance_38 : decode cX8_advance 38 = .ok (.getfield 41, 3) := by decide +kernel
theorem dX8_advance_41 : decode cX8_advance 41 = .ok (.ifCond .le 5, 3) := by decide +kernel
theorem dX8_advance_44 : decode cX8_advance 44 = .ok (.iconst 0, 1) := by decide +kernel
theorem dX8_advance_45 : decode cX8_advance 45 = .ok (.ireturn, 1) := by decide +kernel
theorem dX8_advance_46 : decode cX8_advance 46 = .ok (.aload_n 0, 1) := by decide +kernel
theorem dX8_advance_47 : decode cX8_advance 47 = .ok (.invokevirtual 65, 3) := by decide +kernel
theorem dX8_advance_50 : decode cX8_advance 50 = .ok (.aload_n 0, 1) := by decide +kernel
theorem dX8_advance_51 : decode cX8_advance 51 = .ok (.iload_n 1, 1) := by decide +kernel
theorem dX8_advance_52 : decode cX8_advance 52 = .ok (.invokevirtual 146, 3) := by decide +kernel
theorem dX8_advance_55 : decode cX8_advance 55 = .ok (.ireturn, 1) := by decide +kernel
theorem dX8_endDay_0 : decode cX8_endDay 0 = .ok (.aload_n 0, 1) := by decide +kernel
theorem dX8_endDay_1 : decode cX8_endDay 1 = .ok (.aload_n 0, 1) := by decide +kernel
theorem dX8_endDay_2 : decode cX8_endDay 2 = .ok (.getfield 9, 3) := by decide +kernel
theorem dX8_endDay_5 : decode cX8_endDay 5 = .ok (.iconst 2, 1) := by decide +kernel
theorem dX8_endDay_6 : decode cX8_endDay 6 = .ok (.iaload, 1) := by decide +kernel
theorem dX8_endDay_7 : decode cX8_endDay 7 = .ok (.sipush 1000, 3) := by decide +kernel
theorem dX8_endDay_10 : decode cX8_endDay 10 = .ok (.if_icmp .ne 7, 3) := by decide +kernel
theorem dX8_endDay_13 : decode cX8_endDay 13 = .ok (.iconst 1, 1) := by decide +kernel
theorem dX8_endDay_14 : decode cX8_endDay 14 = .ok (.goto 4, 3) := by decide +kernel
theorem dX8_endDay_17 : decode cX8_endDay 17 = .ok (.iconst 0, 1) := by decide +kernel
theorem dX8_endDay_18 : decode cX8_endDay 18 = .ok (.putfield 41, 3) := by decide +kernel
theorem dX8_endDay_21 : decode cX8_endDay 21 = .ok (.aload_n 0, 1) := by decide +kernel
theorem dX8_endDay_22 : decode cX8_endDay 22 = .ok (.getfield 41, 3) := by decide +kernel
theorem dX8_endDay_25 : decode cX8_endDay 25 = .ok (.ifCond .le 5, 3) := by decide +kernel
theorem dX8_endDay_28 : decode cX8_endDay 28 = .ok (.iconst 0, 1) := by decide +kernel
theorem dX8_endDay_29 : decode cX8_endDay 29 = .ok (.ireturn, 1) := by decide +kernel
theorem dX8_endDay_30 : decode cX8_endDay 30 = .ok (.aload_n 0, 1) := by decide +kernel
theorem dX8_endDay_31 : decode cX8_endDay 31 = .ok (.invokevirtual 65, 3) := by decide +kernel
theorem dX8_endDay_34 : decode cX8_endDay 34 = .ok (.aload_n 0, 1) := by decide +kernel
theorem dX8_endDay_35 : decode cX8_endDay 35 = .ok (.getfield 9, 3) := by decide +kernel
theorem dX8_endDay_38 : decode cX8_endDay 38 = .ok (.iconst 5, 1) := by decide +kernel
theorem dX8_endDay_39 : decode cX8_endDay 39 = .ok (.iaload, 1) := by decide +kernel
theorem dX8_endDay_40 : decode cX8_endDay 40 = .ok (.aload_n 0, 1) := by decide +kernel
theorem dX8_endDay_41 : decode cX8_endDay 41 = .ok (.iconst 4, 1) := by decide +kernel
theorem dX8_endDay_42 : decode cX8_endDay 42 = .ok (.iconst (-1), 1) := by decide +kernel
theorem dX8_endDay_43 : decode cX8_endDay 43 = .ok (.invokevirtual 77, 3) := by decide +kernel
theorem dX8_endDay_46 : decode cX8_endDay 46 = .ok (.isub, 1) := by decide +kernel
theorem dX8_endDay_47 : decode cX8_endDay 47 = .ok (.istore_n 1, 1) := by decide +kernel
theorem dX8_endDay_48 : decode cX8_endDay 48 = .ok (.iconst 0, 1) := by decide +kernel
theorem dX8_endDay_49 : decode cX8_endDay 49 = .ok (.istore_n 2, 1) := by decide +kernel
theorem dX8_endDay_50 : decode cX8_endDay 50 = .ok (.iload_n 2, 1) := by decide +kernel
theorem dX8_endDay_51 : decode cX8_endDay 51 = .ok (.aload_n 0, 1) := by decide +kernel
theorem dX8_endDay_52 : decode cX8_endDay 52 = .ok (.getfield 9, 3) := by decide +kernel
theorem dX8_endDay_55 : decode cX8_endDay 55 = .ok (.iconst 5, 1) := by decide +kernel
theorem dX8_endDay_56 : decode cX8_endDay 56 = .ok (.iaload, 1) := by decide +kernel
theorem dX8_endDay_57 : decode cX8_endDay 57 = .ok (.if_icmp .ge 34, 3) := by decide +kernel
theorem dX8_endDay_60 : decode cX8_endDay 60 = .ok (.aload_n 0, 1) := by decide +kernel
theorem dX8_endDay_61 : decode cX8_endDay 61 = .ok (.getfield 9, 3) := by decide +kernel
theorem dX8_endDay_64 : decode cX8_endDay 64 = .ok (.iload_n 2, 1) := by decide +kernel
theorem dX8_endDay_65 : decode cX8_endDay 65 = .ok (.invokestatic 71, 3) := by decide +kernel
theorem dX8_endDay_68 : decode cX8_endDay 68 = .ok (.iconst 4, 1) := by decide +kernel
theorem dX8_endDay_69 : decode cX8_endDay 69 = .ok (.iadd, 1) := by decide +kernel
theorem dX8_endDay_70 : decode cX8_endDay 70 = .ok (.iconst 4, 1) := by decide +kernel
theorem dX8_endDay_71 : decode cX8_endDay 71 = .ok (.iastore, 1) := by decide +kernel
theorem dX8_endDay_72 : decode cX8_endDay 72 = .ok (.aload_n 0, 1) := by decide +kernel
theorem dX8_endDay_73 : decode cX8_endDay 73 = .ok (.getfield 9, 3) := by decide +kernel
theorem dX8_endDay_76 : decode cX8_endDay 76 = .ok (.iload_n 2, 1) := by decide +kernel
theorem dX8_endDay_77 : decode cX8_endDay 77 = .ok (.invokestatic 71, 3) := by decide +kernel
theorem dX8_endDay_80 : decode cX8_endDay 80 = .ok (.bipush 6, 2) := by decide +kernel
theorem dX8_endDay_82 : decode cX8_endDay 82 = .ok (.iadd, 1) := by decide +kernel
theorem dX8_endDay_83 : decode cX8_endDay 83 = .ok (.iconst 0, 1) := by decide +kernel
theorem dX8_endDay_84 : decode cX8_endDay 84 = .ok (.iastore, 1) := by decide +kernel
theorem dX8_endDay_85 : decode cX8_endDay 85 = .ok (.iinc 2 1, 3) := by decide +kernel
theorem dX8_endDay_88 : decode cX8_endDay 88 = .ok (.goto (-38), 3) := by decide +kernel
theorem dX8_endDay_91 : decode cX8_endDay 91 = .ok (.iconst 0, 1) := by decide +kernel
theorem dX8_endDay_92 : decode cX8_endDay 92 = .ok (.istore_n 2, 1) := by decide +kernel
theorem dX8_endDay_93 : decode cX8_endDay 93 = .ok (.iload_n 2, 1) := by decide +kernel
theorem dX8_endDay_94 : decode cX8_endDay 94 = .ok (.aload_n 0, 1) := by decide +kernel
theorem dX8_endDay_95 : decode cX8_endDay 95 = .ok (.getfield 9, 3) := by decide +kernel
theorem dX8_endDay_98 : decode cX8_endDay 98 = .ok (.iconst 3, 1) := by decide +kernel
theorem dX8_endDay_99 : decode cX8_endDay 99 = .ok (.iaload, 1) := by decide +kernel
theorem dX8_endDay_100 : decode cX8_endDay 100 = .ok (.if_icmp .ge 35, 3) := by decide +kernel
theorem dX8_endDay_103 : decode cX8_endDay 103 = .ok (.aload_n 0, 1) := by decide +kernel
theorem dX8_endDay_104 : decode cX8_endDay 104 = .ok (.getfield 9, 3) := by decide +kernel
theorem dX8_endDay_107 : decode cX8_endDay 107 = .ok (.iload_n 2, 1) := by decide +kernel
theorem dX8_endDay_108 : decode cX8_endDay 108 = .ok (.invokestatic 51, 3) := by decide +kernel
theorem dX8_endDay_111 : decode cX8_endDay 111 = .ok (.bipush 10, 2) := by decide +kernel
theorem dX8_endDay_113 : decode cX8_endDay 113 = .ok (.iadd, 1) := by decide +kernel
theorem dX8_endDay_114 : decode cX8_endDay 114 = .ok (.iconst 0, 1) := by decide +kernel
theorem dX8_endDay_115 : decode cX8_endDay 115 = .ok (.iastore, 1) := by decide +kernel
theorem dX8_endDay_116 : decode cX8_endDay 116 = .ok (.aload_n 0, 1) := by decide +kernel
theorem dX8_endDay_117 : decode cX8_endDay 117 = .ok (.getfield 9, 3) := by decide +kernel
theorem dX8_endDay_120 : decode cX8_endDay 120 = .ok (.iload_n 2, 1) := by decide +kernel
theorem dX8_endDay_121 : decode cX8_endDay 121 = .ok (.invokestatic 51, 3) := by decide +kernel
theorem dX8_endDay_124 : decode cX8_endDay 124 = .ok (.bipush 7, 2) := by decide +kernel
theorem dX8_endDay_126 : decode cX8_endDay 126 = .ok (.iadd, 1) := by decide +kernel
theorem dX8_endDay_127 : decode cX8_endDay 127 = .ok (.iconst 0, 1) := by decide +kernel
theorem dX8_endDay_128 : decode cX8_endDay 128 = .ok (.iastore, 1) := by decide +kernel
theorem dX8_endDay_129 : decode cX8_endDay 129 = .ok (.iinc 2 1, 3) := by decide +kernel
theorem dX8_endDay_132 : decode cX8_endDay 132 = .ok (.goto (-39), 3) := by decide +kernel
theorem dX8_endDay_135 : decode cX8_endDay 135 = .ok (.iconst 0, 1) := by decide +kernel
theorem dX8_endDay_136 : decode cX8_endDay 136 = .ok (.istore_n 2, 1) := by decide +kernel
theorem dX8_endDay_137 : decode cX8_endDay 137 = .ok (.iload_n 2, 1) := by decide +kernel
theorem dX8_endDay_138 : decode cX8_endDay 138 = .ok (.aload_n 0, 1) := by decide +kernel
theorem dX8_endDay_139 : decode cX8_endDay 139 = .ok (.getfield 9, 3) := by decide +kernel
theorem dX8_endDay_142 : decode cX8_endDay 142 = .ok (.iconst 4, 1) := by decide +kernel
theorem dX8_endDay_143 : decode cX8_endDay 143 = .ok (.iaload, 1) := by decide +kernel
theorem dX8_endDay_144 : decode cX8_endDay 144 = .ok (.if_icmp .ge 54, 3) := by decide +kernel
theorem dX8_endDay_147 : decode cX8_endDay 147 = .ok (.iload_n 2, 1) := by decide +kernel
theorem dX8_endDay_148 : decode cX8_endDay 148 = .ok (.invokestatic 68, 3) := by decide +kernel
theorem dX8_endDay_151 : decode cX8_endDay 151 = .ok (.istore_n 3, 1) := by decide +kernel
theorem dX8_endDay_152 : decode cX8_endDay 152 = .ok (.aload_n 0, 1) := by decide +kernel
theorem dX8_endDay_153 : decode cX8_endDay 153 = .ok (.getfield 9, 3) := by decide +kernel
theorem dX8_endDay_156 : decode cX8_endDay 156 = .ok (.iload_n 3, 1) := by decide +kernel
theorem dX8_endDay_157 : decode cX8_endDay 157 = .ok (.iconst 4, 1) := by decide +kernel
theorem dX8_endDay_158 : decode cX8_endDay 158 = .ok (.iadd, 1) := by decide +kernel
theorem dX8_endDay_159 : decode cX8_endDay 159 = .ok (.iaload, 1) := by decide +kernel
theorem dX8_endDay_160 : decode cX8_endDay 160 = .ok (.iconst 2, 1) := by decide +kernel
theorem dX8_endDay_161 : decode cX8_endDay 161 = .ok (.if_icmp .ne 31, 3) := by decide +kernel
theorem dX8_endDay_164 : decode cX8_endDay 164 = .ok (.aload_n 0, 1) := by decide +kernel
theorem dX8_endDay_165 : decode cX8_endDay 165 = .ok (.getfield 9, 3) := by decide +kernel
theorem dX8_endDay_168 : decode cX8_endDay 168 = .ok (.iload_n 3, 1) := by decide +kernel
theorem dX8_endDay_169 : decode cX8_endDay 169 = .ok (.iconst 4, 1) := by decide +kernel
theorem dX8_endDay_170 : decode cX8_endDay 170 = .ok (.iadd, 1) := by decide +kernel
theorem dX8_endDay_171 : decode cX8_endDay 171 = .ok (.iconst 0, 1) := by decide +kernel
theorem dX8_endDay_172 : decode cX8_endDay 172 = .ok (.iastore, 1) := by decide +kernel
theorem dX8_endDay_173 : decode cX8_endDay 173 = .ok (.aload_n 0, 1) := by decide +kernel
theorem dX8_endDay_174 : decode cX8_endDay 174 = .ok (.getfield 9, 3) := by decide +kernel
theorem dX8_endDay_177 : decode cX8_endDay 177 = .ok (.iload_n 3, 1) := by decide +kernel
theorem dX8_endDay_178 : decode cX8_endDay 178 = .ok (.iconst 5, 1) := by decide +kernel
theorem dX8_endDay_179 : decode cX8_endDay 179 = .ok (.iadd, 1) := by decide +kernel
theorem dX8_endDay_180 : decode cX8_endDay 180 = .ok (.iconst 0, 1) := by decide +kernel
theorem dX8_endDay_181 : decode cX8_endDay 181 = .ok (.iastore, 1) := by decide +kernel
theorem dX8_endDay_182 : decode cX8_endDay 182 = .ok (.aload_n 0, 1) := by decide +kernel
theorem dX8_endDay_183 : decode cX8_endDay 183 = .ok (.getfield 9, 3) := by decide +kernel
theorem dX8_endDay_186 : decode cX8_endDay 186 = .ok (.iload_n 3, 1) := by decide +kernel
theorem dX8_endDay_187 : decode cX8_endDay 187 = .ok (.bipush 6, 2) := by decide +kernel
theorem dX8_endDay_189 : decode cX8_endDay 189 = .ok (.iadd, 1) := by decide +kernel
theorem dX8_endDay_190 : decode cX8_endDay 190 = .ok (.iconst 0, 1) := by decide +kernel
theorem dX8_endDay_191 : decode cX8_endDay 191 = .ok (.iastore, 1) := by decide +kernel
theorem dX8_endDay_192 : decode cX8_endDay 192 = .ok (.iinc 2 1, 3) := by decide +kernel
theorem dX8_endDay_195 : decode cX8_endDay 195 = .ok (.goto (-58), 3) := by decide +kernel
theorem dX8_endDay_198 : decode cX8_endDay 198 = .ok (.aload_n 0, 1) := by decide +kernel
theorem dX8_endDay_199 : decode cX8_endDay 199 = .ok (.getfield 9, 3) := by decide +kernel
theorem dX8_endDay_202 : decode cX8_endDay 202 = .ok (.iconst 1, 1) := by decide +kernel
theorem dX8_endDay_203 : decode cX8_endDay 203 = .ok (.iconst 0, 1) := by decide +kernel
theorem dX8_endDay_204 : decode cX8_endDay 204 = .ok (.iastore, 1) := by decide +kernel
theorem dX8_endDay_205 : decode cX8_endDay 205 = .ok (.aload_n 0, 1) := by decide +kernel
theorem dX8_endDay_206 : decode cX8_endDay 206 = .ok (.getfield 9, 3) := by decide +kernel
theorem dX8_endDay_209 : decode cX8_endDay 209 = .ok (.iconst 2, 1) := by decide +kernel
theorem dX8_endDay_210 : decode cX8_endDay 210 = .ok (.dup2, 1) := by decide +kernel
theorem dX8_endDay_211 : decode cX8_endDay 211 = .ok (.iaload, 1) := by decide +kernel
theorem dX8_endDay_212 : decode cX8_endDay 212 = .ok (.iconst 1, 1) := by decide +kernel
theorem dX8_endDay_213 : decode cX8_endDay 213 = .ok (.iadd, 1) := by decide +kernel
theorem dX8_endDay_214 : decode cX8_endDay 214 = .ok (.iastore, 1) := by decide +kernel
theorem dX8_endDay_215 : decode cX8_endDay 215 = .ok (.iload_n 1, 1) := by decide +kernel
theorem dX8_endDay_216 : decode cX8_endDay 216 = .ok (.ireturn, 1) := by decide +kernel
theorem dX8_layAside_0 : decode cX8_layAside 0 = .ok (.iconst 0, 1) := by decide +kernel
theorem dX8_layAside_1 : decode cX8_layAside 1 = .ok (.istore_n 1, 1) := by decide +kernel
theorem dX8_layAside_2 : decode cX8_layAside 2 = .ok (.iload_n 1, 1) := by decide +kernel
theorem dX8_layAside_3 : decode cX8_layAside 3 = .ok (.sipush 372, 3) := by decide +kernel
theorem dX8_layAside_6 : decode cX8_layAside 6 = .ok (.if_icmp .ge 21, 3) := by decide +kernel
theorem dX8_layAside_9 : decode cX8_layAside 9 = .ok (.aload_n 0, 1) := by decide +kernel
theorem dX8_layAside_10 : decode cX8_layAside 10 = .ok (.getfield 19, 3) := by decide +kernel
theorem dX8_layAside_13 : decode cX8_layAside 13 = .ok (.iload_n 1, 1) := by decide +kernel
theorem dX8_layAside_14 : decode cX8_layAside 14 = .ok (.aload_n 0, 1) := by decide +kernel
theorem dX8_layAside_15 : decode cX8_layAside 15 = .ok (.getfield 9, 3) := by decide +kernel
theorem dX8_layAside_18 : decode cX8_layAside 18 = .ok (.iload_n 1, 1) := by decide +kernel
theorem dX8_layAside_19 : decode cX8_layAside 19 = .ok (.iaload, 1) := by decide +kernel
theorem dX8_layAside_20 : decode cX8_layAside 20 = .ok (.iastore, 1) := by decide +kernel
theorem dX8_layAside_21 : decode cX8_layAside 21 = .ok (.iinc 1 1, 3) := by decide +kernel
theorem dX8_layAside_24 : decode cX8_layAside 24 = .ok (.goto (-22), 3) := by decide +kernel
theorem dX8_layAside_27 : decode cX8_layAside 27 = .ok (.return_, 1) := by decide +kernel
theorem dX8_takeBack_0 : decode cX8_takeBack 0 = .ok (.iconst 0, 1) := by decide +kernel
theorem dX8_takeBack_1 : decode cX8_takeBack 1 = .ok (.istore_n 1, 1) := by decide +kernel
theorem dX8_takeBack_2 : decode cX8_takeBack 2 = .ok (.iload_n 1, 1) := by decide +kernel
theorem dX8_takeBack_3 : decode cX8_takeBack 3 = .ok (.sipush 372, 3) := by decide +kernel
theorem dX8_takeBack_6 : decode cX8_takeBack 6 = .ok (.if_icmp .ge 21, 3) := by decide +kernel
theorem dX8_takeBack_9 : decode cX8_takeBack 9 = .ok (.aload_n 0, 1) := by decide +kernel
theorem dX8_takeBack_10 : decode cX8_takeBack 10 = .ok (.getfield 9, 3) := by decide +kernel
theorem dX8_takeBack_13 : decode cX8_takeBack 13 = .ok (.iload_n 1, 1) := by decide +kernel
theorem dX8_takeBack_14 : decode cX8_takeBack 14 = .ok (.aload_n 0, 1) := by decide +kernel
theorem dX8_takeBack_15 : decode cX8_takeBack 15 = .ok (.getfield 19, 3) := by decide +kernel
theorem dX8_takeBack_18 : decode cX8_takeBack 18 = .ok (.iload_n 1, 1) := by decide +kernel
theorem dX8_takeBack_19 : decode cX8_takeBack 19 = .ok (.iaload, 1) := by decide +kernel
theorem dX8_takeBack_20 : decode cX8_takeBack 20 = .ok (.iastore, 1) := by decide +kernel
theorem dX8_takeBack_21 : decode cX8_takeBack 21 = .ok (.iinc 1 1, 3) := by decide +kernel
theorem dX8_takeBack_24 : decode cX8_takeBack 24 = .ok (.goto (-22), 3) := by decide +kernel
theorem dX8_takeBack_27 : decode cX8_takeBack 27 = .ok (.return_, 1) := by decide +kernel
theorem dX8_arrival_0 : decode cX8_arrival 0 = .ok (.aload_n 0, 1) := by decide +kernel
theorem dX8_arrival_1 : decode cX8_arrival 1 = .ok (.iconst 0, 1) := by decide +kernel
theorem dX8_arrival_2 : decode cX8_arrival 2 = .ok (.putfield 41, 3) := by decide +kernel
theorem dX8_arrival_5 : decode cX8_arrival 5 = .ok (.aload_n 0, 1) := by decide +kernel
theorem dX8_arrival_6 : decode cX8_arrival 6 = .ok (.iload_n 1, 1) := by decide +kernel
theorem dX8_arrival_7 : decode cX8_arrival 7 = .ok (.invokevirtual 92, 3) := by decide +kernel
theorem dX8_arrival_10 : decode cX8_arrival 10 = .ok (.ifCond .ne 9, 3) := by decide +kernel
theorem dX8_arrival_13 : decode cX8_arrival 13 = .ok (.aload_n 0, 1) := by decide +kernel
theorem dX8_arrival_14 : decode cX8_arrival 14 = .ok (.iconst 1, 1) := by decide +kernel
theorem dX8_arrival_15 : decode cX8_arrival 15 = .ok (.invokevirtual 62, 3) := by decide +kernel
theorem dX8_arrival_18 : decode cX8_arrival 18 = .ok (.ireturn, 1) := by decide +kernel
theorem dX8_arrival_19 : decode cX8_arrival 19 = .ok (.aload_n 0, 1) := by decide +kernel
theorem dX8_arrival_20 : decode cX8_arrival 20 = .ok (.getfield 9, 3) := by decide +kernel
theorem dX8_arrival_23 : decode cX8_arrival 23 = .ok (.iload_n 1, 1) := by decide +kernel
theorem dX8_arrival_24 : decode cX8_arrival 24 = .ok (.invokestatic 71, 3) := by decide +kernel
theorem dX8_arrival_27 : decode cX8_arrival 27 = .ok (.iconst 4, 1) := by decide +kernel
theorem dX8_arrival_28 : decode cX8_arrival 28 = .ok (.iadd, 1) := by decide +kernel
theorem dX8_arrival_29 : decode cX8_arrival 29 = .ok (.iaload, 1) := by decide +kernel
theorem dX8_arrival_30 : decode cX8_arrival 30 = .ok (.iconst 4, 1) := by decide +kernel
theorem dX8_arrival_31 : decode cX8_arrival 31 = .ok (.if_icmp .ne 9, 3) := by decide +kernel
theorem dX8_arrival_34 : decode cX8_arrival 34 = .ok (.aload_n 0, 1) := by decide +kernel
theorem dX8_arrival_35 : decode cX8_arrival 35 = .ok (.iconst 2, 1) := by decide +kernel
theorem dX8_arrival_36 : decode cX8_arrival 36 = .ok (.invokevirtual 62, 3) := by decide +kernel
theorem dX8_arrival_39 : decode cX8_arrival 39 = .ok (.ireturn, 1) := by decide +kernel
theorem dX8_arrival_40 : decode cX8_arrival 40 = .ok (.aload_n 0, 1) := by decide +kernel
theorem dX8_arrival_41 : decode cX8_arrival 41 = .ok (.invokevirtual 149, 3) := by decide +kernel
theorem dX8_arrival_44 : decode cX8_arrival 44 = .ok (.iconst 0, 1) := by decide +kernel
theorem dX8_arrival_45 : decode cX8_arrival 45 = .ok (.istore_n 2, 1) := by decide +kernel
theorem dX8_arrival_46 : decode cX8_arrival 46 = .ok (.iload_n 2, 1) := by decide +kernel
theorem dX8_arrival_47 : decode cX8_arrival 47 = .ok (.bipush 60, 2) := by decide +kernel
theorem dX8_arrival_49 : decode cX8_arrival 49 = .ok (.if_icmp .ge 27, 3) := by decide +kernel
theorem dX8_arrival_52 : decode cX8_arrival 52 = .ok (.aload_n 0, 1) := by decide +kernel
theorem dX8_arrival_53 : decode cX8_arrival 53 = .ok (.getfield 9, 3) := by decide +kernel
theorem dX8_arrival_56 : decode cX8_arrival 56 = .ok (.iload_n 1, 1) := by decide +kernel
theorem dX8_arrival_57 : decode cX8_arrival 57 = .ok (.invokestatic 71, 3) := by decide +kernel
theorem dX8_arrival_60 : decode cX8_arrival 60 = .ok (.iconst 4, 1) := by decide +kernel
theorem dX8_arrival_61 : decode cX8_arrival 61 = .ok (.iadd, 1) := by decide +kernel
theorem dX8_arrival_62 : decode cX8_arrival 62 = .ok (.iaload, 1) := by decide +kernel
theorem dX8_arrival_63 : decode cX8_arrival 63 = .ok (.ifCond .eq 13, 3) := by decide +kernel
theorem dX8_arrival_66 : decode cX8_arrival 66 = .ok (.aload_n 0, 1) := by decide +kernel
theorem dX8_arrival_67 : decode cX8_arrival 67 = .ok (.invokevirtual 143, 3) := by decide +kernel
theorem dX8_arrival_70 : decode cX8_arrival 70 = .ok (.iinc 2 1, 3) := by decide +kernel
theorem dX8_arrival_73 : decode cX8_arrival 73 = .ok (.goto (-27), 3) := by decide +kernel
theorem dX8_arrival_76 : decode cX8_arrival 76 = .ok (.aload_n 0, 1) := by decide +kernel
theorem dX8_arrival_77 : decode cX8_arrival 77 = .ok (.getfield 9, 3) := by decide +kernel
theorem dX8_arrival_80 : decode cX8_arrival 80 = .ok (.iload_n 1, 1) := by decide +kernel
theorem dX8_arrival_81 : decode cX8_arrival 81 = .ok (.invokestatic 71, 3) := by decide +kernel
theorem dX8_arrival_84 : decode cX8_arrival 84 = .ok (.iconst 4, 1) := by decide +kernel
theorem dX8_arrival_85 : decode cX8_arrival 85 = .ok (.iadd, 1) := by decide +kernel
theorem dX8_arrival_86 : decode cX8_arrival 86 = .ok (.iaload, 1) := by decide +kernel
theorem dX8_arrival_87 : decode cX8_arrival 87 = .ok (.ifCond .ne 7, 3) := by decide +kernel
theorem dX8_arrival_90 : decode cX8_arrival 90 = .ok (.iconst 1, 1) := by decide +kernel
theorem dX8_arrival_91 : decode cX8_arrival 91 = .ok (.goto 4, 3) := by decide +kernel
theorem dX8_arrival_94 : decode cX8_arrival 94 = .ok (.iconst 0, 1) := by decide +kernel
theorem dX8_arrival_95 : decode cX8_arrival 95 = .ok (.istore_n 3, 1) := by decide +kernel
theorem dX8_arrival_96 : decode cX8_arrival 96 = .ok (.aload_n 0, 1) := by decide +kernel
theorem dX8_arrival_97 : decode cX8_arrival 97 = .ok (.invokevirtual 152, 3) := by decide +kernel
theorem dX8_arrival_100 : decode cX8_arrival 100 = .ok (.iload_n 3, 1) := by decide +kernel
theorem dX8_arrival_101 : decode cX8_arrival 101 = .ok (.ifCond .eq 7, 3) := by decide +kernel
theorem dX8_arrival_104 : decode cX8_arrival 104 = .ok (.iload_n 2, 1) := by decide +kernel
theorem dX8_arrival_105 : decode cX8_arrival 105 = .ok (.goto 8, 3) := by decide +kernel
theorem dX8_arrival_108 : decode cX8_arrival 108 = .ok (.aload_n 0, 1) := by decide +kernel
theorem dX8_arrival_109 : decode cX8_arrival 109 = .ok (.iconst 2, 1) := by decide +kernel
theorem dX8_arrival_110 : decode cX8_arrival 110 = .ok (.invokevirtual 62, 3) := by decide +kernel
theorem dX8_arrival_113 : decode cX8_arrival 113 = .ok (.ireturn, 1) := by decide +kernel
theorem dX8_nextCabin_0 : decode cX8_nextCabin 0 = .ok (.aload_n 0, 1) := by decide +kernel
theorem dX8_nextCabin_1 : decode cX8_nextCabin 1 = .ok (.aload_n 0, 1) := by decide +kernel
theorem dX8_nextCabin_2 : decode cX8_nextCabin 2 = .ok (.iload_n 1, 1) := by decide +kernel
theorem dX8_nextCabin_3 : decode cX8_nextCabin 3 = .ok (.invokevirtual 74, 3) := by decide +kernel
theorem dX8_nextCabin_6 : decode cX8_nextCabin 6 = .ok (.ifCond .ne 7, 3) := by decide +kernel
theorem dX8_nextCabin_9 : decode cX8_nextCabin 9 = .ok (.iconst 1, 1) := by decide +kernel
theorem dX8_nextCabin_10 : decode cX8_nextCabin 10 = .ok (.goto 17, 3) := by decide +kernel
theorem dX8_nextCabin_13 : decode cX8_nextCabin 13 = .ok (.aload_n 0, 1) := by decide +kernel
theorem dX8_nextCabin_14 : decode cX8_nextCabin 14 = .ok (.iload_n 1, 1) := by decide +kernel
theorem dX8_nextCabin_15 : decode cX8_nextCabin 15 = .ok (.invokevirtual 55, 3) := by decide +kernel
theorem dX8_nextCabin_18 : decode cX8_nextCabin 18 = .ok (.iconst 2, 1) := by decide +kernel
theorem dX8_nextCabin_19 : decode cX8_nextCabin 19 = .ok (.if_icmp .ne 7, 3) := by decide +kernel
theorem dX8_nextCabin_22 : decode cX8_nextCabin 22 = .ok (.iconst 2, 1) := by decide +kernel
theorem dX8_nextCabin_23 : decode cX8_nextCabin 23 = .ok (.goto 4, 3) := by decide +kernel
theorem dX8_nextCabin_26 : decode cX8_nextCabin 26 = .ok (.iconst 0, 1) := by decide +kernel
theorem dX8_nextCabin_27 : decode cX8_nextCabin 27 = .ok (.putfield 41, 3) := by decide +kernel
theorem dX8_nextCabin_30 : decode cX8_nextCabin 30 = .ok (.aload_n 0, 1) := by decide +kernel
theorem dX8_nextCabin_31 : decode cX8_nextCabin 31 = .ok (.getfield 41, 3) := by decide +kernel
theorem dX8_nextCabin_34 : decode cX8_nextCabin 34 = .ok (.ifCond .le 5, 3) := by decide +kernel
theorem dX8_nextCabin_37 : decode cX8_nextCabin 37 = .ok (.iconst 0, 1) := by decide +kernel
theorem dX8_nextCabin_38 : decode cX8_nextCabin 38 = .ok (.ireturn, 1) := by decide +kernel
theorem dX8_nextCabin_39 : decode cX8_nextCabin 39 = .ok (.aload_n 0, 1) := by decide +kernel
theorem dX8_nextCabin_40 : decode cX8_nextCabin 40 = .ok (.iload_n 1, 1) := by decide +kernel
theorem dX8_nextCabin_41 : decode cX8_nextCabin 41 = .ok (.invokevirtual 132, 3) := by decide +kernel
theorem dX8_nextCabin_44 : decode cX8_nextCabin 44 = .ok (.istore_n 2, 1) := by decide +kernel
theorem dX8_nextCabin_45 : decode cX8_nextCabin 45 = .ok (.iconst 2, 1) := by decide +kernel
theorem dX8_nextCabin_46 : decode cX8_nextCabin 46 = .ok (.aload_n 0, 1) := by decide +kernel
theorem dX8_nextCabin_47 : decode cX8_nextCabin 47 = .ok (.getfield 9, 3) := by decide +kernel
theorem dX8_nextCabin_50 : decode cX8_nextCabin 50 = .ok (.iload_n 1, 1) := by decide +kernel
theorem dX8_nextCabin_51 : decode cX8_nextCabin 51 = .ok (.invokestatic 51, 3) := by decide +kernel
theorem dX8_nextCabin_54 : decode cX8_nextCabin 54 = .ok (.iconst 3, 1) := by decide +kernel
theorem dX8_nextCabin_55 : decode cX8_nextCabin 55 = .ok (.iadd, 1) := by decide +kernel
theorem dX8_nextCabin_56 : decode cX8_nextCabin 56 = .ok (.iaload, 1) := by decide +kernel
theorem dX8_nextCabin_57 : decode cX8_nextCabin 57 = .ok (.imul, 1) := by decide +kernel
theorem dX8_nextCabin_58 : decode cX8_nextCabin 58 = .ok (.aload_n 0, 1) := by decide +kernel
theorem dX8_nextCabin_59 : decode cX8_nextCabin 59 = .ok (.getfield 9, 3) := by decide +kernel
theorem dX8_nextCabin_62 : decode cX8_nextCabin 62 = .ok (.iload_n 1, 1) := by decide +kernel
theorem dX8_nextCabin_63 : decode cX8_nextCabin 63 = .ok (.invokestatic 51, 3) := by decide +kernel
theorem dX8_nextCabin_66 : decode cX8_nextCabin 66 = .ok (.bipush 7, 2) := by decide +kernel
theorem dX8_nextCabin_68 : decode cX8_nextCabin 68 = .ok (.iadd, 1) := by decide +kernel
theorem dX8_nextCabin_69 : decode cX8_nextCabin 69 = .ok (.iaload, 1) := by decide +kernel
theorem dX8_nextCabin_70 : decode cX8_nextCabin 70 = .ok (.isub, 1) := by decide +kernel
theorem dX8_nextCabin_71 : decode cX8_nextCabin 71 = .ok (.istore_n 3, 1) := by decide +kernel
theorem dX8_nextCabin_72 : decode cX8_nextCabin 72 = .ok (.iload_n 3, 1) := by decide +kernel
theorem dX8_nextCabin_73 : decode cX8_nextCabin 73 = .ok (.iload_n 2, 1) := by decide +kernel
theorem dX8_nextCabin_74 : decode cX8_nextCabin 74 = .ok (.iadd, 1) := by decide +kernel
theorem dX8_nextCabin_75 : decode cX8_nextCabin 75 = .ok (.iconst 1, 1) := by decide +kernel
theorem dX8_nextCabin_76 : decode cX8_nextCabin 76 = .ok (.isub, 1) := by decide +kernel
theorem dX8_nextCabin_77 : decode cX8_nextCabin 77 = .ok (.iload_n 2, 1) := by decide +kernel
theorem dX8_nextCabin_78 : decode cX8_nextCabin 78 = .ok (.idiv, 1) := by decide +kernel
theorem dX8_nextCabin_79 : decode cX8_nextCabin 79 = .ok (.ireturn, 1) := by decide +kernel
theorem dX8_isWayLift_0 : decode cX8_isWayLift 0 = .ok (.aload_n 0, 1) := by decide +kernel
theorem dX8_isWayLift_1 : decode cX8_isWayLift 1 = .ok (.iload_n 1, 1) := by decide +kernel
theorem dX8_isWayLift_2 : decode cX8_isWayLift 2 = .ok (.iload_n 2, 1) := by decide +kernel
theorem dX8_isWayLift_3 : decode cX8_isWayLift 3 = .ok (.invokevirtual 98, 3) := by decide +kernel
theorem dX8_isWayLift_6 : decode cX8_isWayLift 6 = .ok (.ifCond .eq 16, 3) := by decide +kernel
theorem dX8_isWayLift_9 : decode cX8_isWayLift 9 = .ok (.aload_n 0, 1) := by decide +kernel
theorem dX8_isWayLift_10 : decode cX8_isWayLift 10 = .ok (.iload_n 2, 1) := by decide +kernel
theorem dX8_isWayLift_11 : decode cX8_isWayLift 11 = .ok (.invokevirtual 55, 3) := by decide +kernel
theorem dX8_isWayLift_14 : decode cX8_isWayLift 14 = .ok (.iconst 2, 1) := by decide +kernel
theorem dX8_isWayLift_15 : decode cX8_isWayLift 15 = .ok (.if_icmp .ge 7, 3) := by decide +kernel
theorem dX8_isWayLift_18 : decode cX8_isWayLift 18 = .ok (.iconst 1, 1) := by decide +kernel
theorem dX8_isWayLift_19 : decode cX8_isWayLift 19 = .ok (.goto 4, 3) := by decide +kernel
theorem dX8_isWayLift_22 : decode cX8_isWayLift 22 = .ok (.iconst 0, 1) := by decide +kernel
theorem dX8_isWayLift_23 : decode cX8_isWayLift 23 = .ok (.ireturn, 1) := by decide +kernel
theorem dX8_isWayPiste_0 : decode cX8_isWayPiste 0 = .ok (.aload_n 0, 1) := by decide +kernel
theorem dX8_isWayPiste_1 : decode cX8_isWayPiste 1 = .ok (.getfield 9, 3) := by decide +kernel
theorem dX8_isWayPiste_4 : decode cX8_isWayPiste 4 = .ok (.iload_n 2, 1) := by decide +kernel
theorem dX8_isWayPiste_5 : decode cX8_isWayPiste 5 = .ok (.invokestatic 68, 3) := by decide +kernel
theorem dX8_isWayPiste_8 : decode cX8_isWayPiste 8 = .ok (.iconst 4, 1) := by decide +kernel
theorem dX8_isWayPiste_9 : decode cX8_isWayPiste 9 = .ok (.iadd, 1) := by decide +kernel
theorem dX8_isWayPiste_10 : decode cX8_isWayPiste 10 = .ok (.iaload, 1) := by decide +kernel
theorem dX8_isWayPiste_11 : decode cX8_isWayPiste 11 = .ok (.ifCond .ne 32, 3) := by decide +kernel
theorem dX8_isWayPiste_14 : decode cX8_isWayPiste 14 = .ok (.aload_n 0, 1) := by decide +kernel
theorem dX8_isWayPiste_15 : decode cX8_isWayPiste 15 = .ok (.getfield 9, 3) := by decide +kernel
theorem dX8_isWayPiste_18 : decode cX8_isWayPiste 18 = .ok (.iload_n 2, 1) := by decide +kernel
theorem dX8_isWayPiste_19 : decode cX8_isWayPiste 19 = .ok (.invokestatic 68, 3) := by decide +kernel
theorem dX8_isWayPiste_22 : decode cX8_isWayPiste 22 = .ok (.iconst 2, 1) := by decide +kernel
theorem dX8_isWayPiste_23 : decode cX8_isWayPiste 23 = .ok (.iadd, 1) := by decide +kernel
theorem dX8_isWayPiste_24 : decode cX8_isWayPiste 24 = .ok (.iaload, 1) := by decide +kernel
theorem dX8_isWayPiste_25 : decode cX8_isWayPiste 25 = .ok (.aload_n 0, 1) := by decide +kernel
theorem dX8_isWayPiste_26 : decode cX8_isWayPiste 26 = .ok (.getfield 9, 3) := by decide +kernel
theorem dX8_isWayPiste_29 : decode cX8_isWayPiste 29 = .ok (.iload_n 1, 1) := by decide +kernel
theorem dX8_isWayPiste_30 : decode cX8_isWayPiste 30 = .ok (.invokestatic 71, 3) := by decide +kernel
theorem dX8_isWayPiste_33 : decode cX8_isWayPiste 33 = .ok (.iaload, 1) := by decide +kernel
theorem dX8_isWayPiste_34 : decode cX8_isWayPiste 34 = .ok (.iconst 1, 1) := by decide +kernel
theorem dX8_isWayPiste_35 : decode cX8_isWayPiste 35 = .ok (.iadd, 1) := by decide +kernel
theorem dX8_isWayPiste_36 : decode cX8_isWayPiste 36 = .ok (.if_icmp .gt 7, 3) := by decide +kernel
theorem dX8_isWayPiste_39 : decode cX8_isWayPiste 39 = .ok (.iconst 1, 1) := by decide +kernel
theorem dX8_isWayPiste_40 : decode cX8_isWayPiste 40 = .ok (.goto 4, 3) := by decide +kernel
theorem dX8_isWayPiste_43 : decode cX8_isWayPiste 43 = .ok (.iconst 0, 1) := by decide +kernel
theorem dX8_isWayPiste_44 : decode cX8_isWayPiste 44 = .ok (.ireturn, 1) := by decide +kernel
theorem dX8_layWays_0 : decode cX8_layWays 0 = .ok (.iconst 0, 1) := by decide +kernel
theorem dX8_layWays_1 : decode cX8_layWays 1 = .ok (.istore_n 3, 1) := by decide +kernel
theorem dX8_layWays_2 : decode cX8_layWays 2 = .ok (.iload_n 3, 1) := by decide +kernel
theorem dX8_layWays_3 : decode cX8_layWays 3 = .ok (.bipush 8, 2) := by decide +kernel
theorem dX8_layWays_5 : decode cX8_layWays 5 = .ok (.if_icmp .ge 26, 3) := by decide +kernel
theorem dX8_layWays_8 : decode cX8_layWays 8 = .ok (.aload_n 0, 1) := by decide +kernel
theorem dX8_layWays_9 : decode cX8_layWays 9 = .ok (.getfield 22, 3) := by decide +kernel
theorem dX8_layWays_12 : decode cX8_layWays 12 = .ok (.iload_n 3, 1) := by decide +kernel
theorem dX8_layWays_13 : decode cX8_layWays 13 = .ok (.iload_n 3, 1) := by decide +kernel
theorem dX8_layWays_14 : decode cX8_layWays 14 = .ok (.iload_n 2, 1) := by decide +kernel
theorem dX8_layWays_15 : decode cX8_layWays 15 = .ok (.if_icmp .ne 7, 3) := by decide +kernel
theorem dX8_layWays_18 : decode cX8_layWays 18 = .ok (.iconst 0, 1) := by decide +kernel
theorem dX8_layWays_19 : decode cX8_layWays 19 = .ok (.goto 5, 3) := by decide +kernel
theorem dX8_layWays_22 : decode cX8_layWays 22 = .ok (.ldc 155, 2) := by decide +kernel
theorem dX8_layWays_24 : decode cX8_layWays 24 = .ok (.iastore, 1) := by decide +kernel
theorem dX8_layWays_25 : decode cX8_layWays 25 = .ok (.iinc 3 1, 3) := by decide +kernel
theorem dX8_layWays_28 : decode cX8_layWays 28 = .ok (.goto (-26), 3) := by decide +kernel
theorem dX8_layWays_31 : decode cX8_layWays 31 = .ok (.iconst 0, 1) := by decide +kernel
theorem dX8_layWays_32 : decode cX8_layWays 32 = .ok (.istore_n 3, 1) := by decide +kernel
theorem dX8_layWays_33 : decode cX8_layWays 33 = .ok (.iload_n 3, 1) := by decide +kernel
theorem dX8_layWays_34 : decode cX8_layWays 34 = .ok (.bipush 8, 2) := by decide +kernel
theorem dX8_layWays_36 : decode cX8_layWays 36 = .ok (.if_icmp .ge 183, 3) := by decide +kernel
theorem dX8_layWays_39 : decode cX8_layWays 39 = .ok (.iconst 0, 1) := by decide +kernel
theorem dX8_layWays_40 : decode cX8_layWays 40 = .ok (.istore 4, 2) := by decide +kernel
theorem dX8_layWays_42 : decode cX8_layWays 42 = .ok (.iload 4, 2) := by decide +kernel
theorem dX8_layWays_44 : decode cX8_layWays 44 = .ok (.aload_n 0, 1) := by decide +kernel
theorem dX8_layWays_45 : decode cX8_layWays 45 = .ok (.getfield 9, 3) := by decide +kernel
theorem dX8_layWays_48 : decode cX8_layWays 48 = .ok (.iconst 3, 1) := by decide +kernel
theorem dX8_layWays_49 : decode cX8_layWays 49 = .ok (.iaload, 1) := by decide +kernel
theorem dX8_layWays_50 : decode cX8_layWays 50 = .ok (.if_icmp .ge 77, 3) := by decide +kernel
theorem dX8_layWays_53 : decode cX8_layWays 53 = .ok (.aload_n 0, 1) := by decide +kernel
theorem dX8_layWays_54 : decode cX8_layWays 54 = .ok (.iload_n 1, 1) := by decide +kernel
theorem dX8_layWays_55 : decode cX8_layWays 55 = .ok (.iload 4, 2) := by decide +kernel
theorem dX8_layWays_57 : decode cX8_layWays 57 = .ok (.invokevirtual 156, 3) := by decide +kernel
theorem dX8_layWays_60 : decode cX8_layWays 60 = .ok (.ifCond .eq 61, 3) := by decide +kernel
theorem dX8_layWays_63 : decode cX8_layWays 63 = .ok (.iload 4, 2) := by decide +kernel
theorem dX8_layWays_65 : decode cX8_layWays 65 = .ok (.invokestatic 51, 3) := by decide +kernel
theorem dX8_layWays_68 : decode cX8_layWays 68 = .ok (.istore 5, 2) := by decide +kernel
theorem dX8_layWays_70 : decode cX8_layWays 70 = .ok (.aload_n 0, 1) := by decide +kernel
theorem dX8_layWays_71 : decode cX8_layWays 71 = .ok (.getfield 22, 3) := by decide +kernel
theorem dX8_layWays_74 : decode cX8_layWays 74 = .ok (.aload_n 0, 1) := by decide +kernel
theorem dX8_layWays_75 : decode cX8_layWays 75 = .ok (.getfield 9, 3) := by decide +kernel
theorem dX8_layWays_78 : decode cX8_layWays 78 = .ok (.iload 5, 2) := by decide +kernel
theorem dX8_layWays_80 : decode cX8_layWays 80 = .ok (.iaload, 1) := by decide +kernel
theorem dX8_layWays_81 : decode cX8_layWays 81 = .ok (.aload_n 0, 1) := by decide +kernel
theorem dX8_layWays_82 : decode cX8_layWays 82 = .ok (.getfield 22, 3) := by decide +kernel
theorem dX8_layWays_85 : decode cX8_layWays 85 = .ok (.aload_n 0, 1) := by decide +kernel
theorem dX8_layWays_86 : decode cX8_layWays 86 = .ok (.getfield 9, 3) := by decide +kernel
theorem dX8_layWays_89 : decode cX8_layWays 89 = .ok (.iload 5, 2) := by decide +kernel
theorem dX8_layWays_91 : decode cX8_layWays 91 = .ok (.iaload, 1) := by decide +kernel
theorem dX8_layWays_92 : decode cX8_layWays 92 = .ok (.iaload, 1) := by decide +kernel
theorem dX8_layWays_93 : decode cX8_layWays 93 = .ok (.aload_n 0, 1) := by decide +kernel
theorem dX8_layWays_94 : decode cX8_layWays 94 = .ok (.getfield 22, 3) := by decide +kernel
theorem dX8_layWays_97 : decode cX8_layWays 97 = .ok (.aload_n 0, 1) := by decide +kernel
theorem dX8_layWays_98 : decode cX8_layWays 98 = .ok (.getfield 9, 3) := by decide +kernel
theorem dX8_layWays_101 : decode cX8_layWays 101 = .ok (.iload 5, 2) := by decide +kernel
theorem dX8_layWays_103 : decode cX8_layWays 103 = .ok (.iconst 1, 1) := by decide +kernel
theorem dX8_layWays_104 : decode cX8_layWays 104 = .ok (.iadd, 1) := by decide +kernel
theorem dX8_layWays_105 : decode cX8_layWays 105 = .ok (.iaload, 1) := by decide +kernel
theorem dX8_layWays_106 : decode cX8_layWays 106 = .ok (.iaload, 1) := by decide +kernel
theorem dX8_layWays_107 : decode cX8_layWays 107 = .ok (.aload_n 0, 1) := by decide +kernel
theorem dX8_layWays_108 : decode cX8_layWays 108 = .ok (.getfield 9, 3) := by decide +kernel
theorem dX8_layWays_111 : decode cX8_layWays 111 = .ok (.iload 5, 2) := by decide +kernel
theorem dX8_layWays_113 : decode cX8_layWays 113 = .ok (.iconst 5, 1) := by decide +kernel
theorem dX8_layWays_114 : decode cX8_layWays 114 = .ok (.iadd, 1) := by decide +kernel
theorem dX8_layWays_115 : decode cX8_layWays 115 = .ok (.iaload, 1) := by decide +kernel
theorem dX8_layWays_116 : decode cX8_layWays 116 = .ok (.iadd, 1) := by decide +kernel
theorem dX8_layWays_117 : decode cX8_layWays 117 = .ok (.invokestatic 127, 3) := by decide +kernel
theorem dX8_layWays_120 : decode cX8_layWays 120 = .ok (.iastore, 1) := by decide +kernel
theorem dX8_layWays_121 : decode cX8_layWays 121 = .ok (.iinc 4 1, 3) := by decide +kernel
theorem dX8_layWays_124 : decode cX8_layWays 124 = .ok (.goto (-82), 3) := by decide +kernel
theorem dX8_layWays_127 : decode cX8_layWays 127 = .ok (.iconst 0, 1) := by decide +kernel
theorem dX8_layWays_128 : decode cX8_layWays 128 = .ok (.istore 4, 2) := by decide +kernel
theorem dX8_layWays_130 : decode cX8_layWays 130 = .ok (.iload 4, 2) := by decide +kernel
theorem dX8_layWays_132 : decode cX8_layWays 132 = .ok (.aload_n 0, 1) := by decide +kernel
theorem dX8_layWays_133 : decode cX8_layWays 133 = .ok (.getfield 9, 3) := by decide +kernel
theorem dX8_layWays_136 : decode cX8_layWays 136 = .ok (.iconst 4, 1) := by decide +kernel
theorem dX8_layWays_137 : decode cX8_layWays 137 = .ok (.iaload, 1) := by decide +kernel
theorem dX8_layWays_138 : decode cX8_layWays 138 = .ok (.if_icmp .ge 75, 3) := by decide +kernel
theorem dX8_layWays_141 : decode cX8_layWays 141 = .ok (.aload_n 0, 1) := by decide +kernel
theorem dX8_layWays_142 : decode cX8_layWays 142 = .ok (.iload_n 1, 1) := by decide +kernel
theorem dX8_layWays_143 : decode cX8_layWays 143 = .ok (.iload 4, 2) := by decide +kernel
theorem dX8_layWays_145 : decode cX8_layWays 145 = .ok (.invokevirtual 159, 3) := by decide +kernel
theorem dX8_layWays_148 : decode cX8_layWays 148 = .ok (.ifCond .eq 59, 3) := by decide +kernel
theorem dX8_layWays_151 : decode cX8_layWays 151 = .ok (.iload 4, 2) := by decide +kernel
theorem dX8_layWays_153 : decode cX8_layWays 153 = .ok (.invokestatic 68, 3) := by decide +kernel
theorem dX8_layWays_156 : decode cX8_layWays 156 = .ok (.istore 5, 2) := by decide +kernel
theorem dX8_layWays_158 : decode cX8_layWays 158 = .ok (.aload_n 0, 1) := by decide +kernel
theorem dX8_layWays_159 : decode cX8_layWays 159 = .ok (.getfield 22, 3) := by decide +kernel
theorem dX8_layWays_162 : decode cX8_layWays 162 = .ok (.aload_n 0, 1) := by decide +kernel
theorem dX8_layWays_163 : decode cX8_layWays 163 = .ok (.getfield 9, 3) := by decide +kernel
theorem dX8_layWays_166 : decode cX8_layWays 166 = .ok (.iload 5, 2) := by decide +kernel
theorem dX8_layWays_168 : decode cX8_layWays 168 = .ok (.iaload, 1) := by decide +kernel
theorem dX8_layWays_169 : decode cX8_layWays 169 = .ok (.aload_n 0, 1) := by decide +kernel
theorem dX8_layWays_170 : decode cX8_layWays 170 = .ok (.getfield 22, 3) := by decide +kernel
theorem dX8_layWays_173 : decode cX8_layWays 173 = .ok (.aload_n 0, 1) := by decide +kernel
theorem dX8_layWays_174 : decode cX8_layWays 174 = .ok (.getfield 9, 3) := by decide +kernel
theorem dX8_layWays_177 : decode cX8_layWays 177 = .ok (.iload 5, 2) := by decide +kernel
theorem dX8_layWays_179 : decode cX8_layWays 179 = .ok (.iaload, 1) := by decide +kernel
theorem dX8_layWays_180 : decode cX8_layWays 180 = .ok (.iaload, 1) := by decide +kernel
theorem dX8_layWays_181 : decode cX8_layWays 181 = .ok (.aload_n 0, 1) := by decide +kernel
theorem dX8_layWays_182 : decode cX8_layWays 182 = .ok (.getfield 22, 3) := by decide +kernel
theorem dX8_layWays_185 : decode cX8_layWays 185 = .ok (.aload_n 0, 1) := by decide +kernel
theorem dX8_layWays_186 : decode cX8_layWays 186 = .ok (.getfield 9, 3) := by decide +kernel
theorem dX8_layWays_189 : decode cX8_layWays 189 = .ok (.iload 5, 2) := by decide +kernel
theorem dX8_layWays_191 : decode cX8_layWays 191 = .ok (.iconst 1, 1) := by decide +kernel
theorem dX8_layWays_192 : decode cX8_layWays 192 = .ok (.iadd, 1) := by decide +kernel
theorem dX8_layWays_193 : decode cX8_layWays 193 = .ok (.iaload, 1) := by decide +kernel
theorem dX8_layWays_194 : decode cX8_layWays 194 = .ok (.iaload, 1) := by decide +kernel
theorem dX8_layWays_195 : decode cX8_layWays 195 = .ok (.aload_n 0, 1) := by decide +kernel
theorem dX8_layWays_196 : decode cX8_layWays 196 = .ok (.iload_n 1, 1) := by decide +kernel
theorem dX8_layWays_197 : decode cX8_layWays 197 = .ok (.iload 4, 2) := by decide +kernel
theorem dX8_layWays_199 : decode cX8_layWays 199 = .ok (.invokevirtual 102, 3) := by decide +kernel
theorem dX8_layWays_202 : decode cX8_layWays 202 = .ok (.iadd, 1) := by decide +kernel
theorem dX8_layWays_203 : decode cX8_layWays 203 = .ok (.invokestatic 127, 3) := by decide +kernel
theorem dX8_layWays_206 : decode cX8_layWays 206 = .ok (.iastore, 1) := by decide +kernel
theorem dX8_layWays_207 : decode cX8_layWays 207 = .ok (.iinc 4 1, 3) := by decide +kernel
theorem dX8_layWays_210 : decode cX8_layWays 210 = .ok (.goto (-80), 3) := by decide +kernel
theorem dX8_layWays_213 : decode cX8_layWays 213 = .ok (.iinc 3 1, 3) := by decide +kernel
theorem dX8_layWays_216 : decode cX8_layWays 216 = .ok (.goto (-183), 3) := by decide +kernel
theorem dX8_layWays_219 : decode cX8_layWays 219 = .ok (.return_, 1) := by decide +kernel
theorem dX8_lacks_0 : decode cX8_lacks 0 = .ok (.aload_n 0, 1) := by decide +kernel
theorem dX8_lacks_1 : decode cX8_lacks 1 = .ok (.iload_n 1, 1) := by decide +kernel
theorem dX8_lacks_2 : decode cX8_lacks 2 = .ok (.invokevirtual 92, 3) := by decide +kernel
theorem dX8_lacks_5 : decode cX8_lacks 5 = .ok (.ifCond .eq 21, 3) := by decide +kernel
theorem dX8_lacks_8 : decode cX8_lacks 8 = .ok (.iload_n 2, 1) := by decide +kernel
theorem dX8_lacks_9 : decode cX8_lacks 9 = .ok (.invokestatic 58, 3) := by decide +kernel
theorem dX8_lacks_12 : decode cX8_lacks 12 = .ok (.ifCond .eq 14, 3) := by decide +kernel
theorem dX8_lacks_15 : decode cX8_lacks 15 = .ok (.iload_n 3, 1) := by decide +kernel
theorem dX8_lacks_16 : decode cX8_lacks 16 = .ok (.invokestatic 58, 3) := by decide +kernel
theorem dX8_lacks_19 : decode cX8_lacks 19 = .ok (.ifCond .eq 7, 3) := by decide +kernel
theorem dX8_lacks_22 : decode cX8_lacks 22 = .ok (.iconst 0, 1) := by decide +kernel
theorem dX8_lacks_23 : decode cX8_lacks 23 = .ok (.goto 4, 3) := by decide +kernel
theorem dX8_lacks_26 : decode cX8_lacks 26 = .ok (.iconst 1, 1) := by decide +kernel
theorem dX8_lacks_27 : decode cX8_lacks 27 = .ok (.ireturn, 1) := by decide +kernel
theorem dX8_duration_0 : decode cX8_duration 0 = .ok (.aload_n 0, 1) := by decide +kernel
theorem dX8_duration_1 : decode cX8_duration 1 = .ok (.aload_n 0, 1) := by decide +kernel
theorem dX8_duration_2 : decode cX8_duration 2 = .ok (.iload_n 1, 1) := by decide +kernel
theorem dX8_duration_3 : decode cX8_duration 3 = .ok (.iload_n 2, 1) := by decide +kernel
theorem dX8_duration_4 : decode cX8_duration 4 = .ok (.iload_n 3, 1) := by decide +kernel
theorem dX8_duration_5 : decode cX8_duration 5 = .ok (.invokevirtual 162, 3) := by decide +kernel
theorem dX8_duration_8 : decode cX8_duration 8 = .ok (.putfield 41, 3) := by decide +kernel
theorem dX8_duration_11 : decode cX8_duration 11 = .ok (.aload_n 0, 1) := by decide +kernel
theorem dX8_duration_12 : decode cX8_duration 12 = .ok (.getfield 41, 3) := by decide +kernel
theorem dX8_duration_15 : decode cX8_duration 15 = .ok (.ifCond .le 5, 3) := by decide +kernel
theorem dX8_duration_18 : decode cX8_duration 18 = .ok (.iconst 0, 1) := by decide +kernel
theorem dX8_duration_19 : decode cX8_duration 19 = .ok (.ireturn, 1) := by decide +kernel
theorem dX8_duration_20 : decode cX8_duration 20 = .ok (.aload_n 0, 1) := by decide +kernel
theorem dX8_duration_21 : decode cX8_duration 21 = .ok (.iload_n 1, 1) := by decide +kernel
theorem dX8_duration_22 : decode cX8_duration 22 = .ok (.iload_n 3, 1) := by decide +kernel
theorem dX8_duration_23 : decode cX8_duration 23 = .ok (.invokevirtual 166, 3) := by decide +kernel
theorem dX8_duration_26 : decode cX8_duration 26 = .ok (.aload_n 0, 1) := by decide +kernel
theorem dX8_duration_27 : decode cX8_duration 27 = .ok (.getfield 22, 3) := by decide +kernel
theorem dX8_duration_30 : decode cX8_duration 30 = .ok (.iload_n 2, 1) := by decide +kernel
theorem dX8_duration_31 : decode cX8_duration 31 = .ok (.iaload, 1) := by decide +kernel
theorem dX8_duration_32 : decode cX8_duration 32 = .ok (.ldc 155, 2) := by decide +kernel
theorem dX8_duration_34 : decode cX8_duration 34 = .ok (.if_icmp .ge 12, 3) := by decide +kernel
theorem dX8_duration_37 : decode cX8_duration 37 = .ok (.aload_n 0, 1) := by decide +kernel
theorem dX8_duration_38 : decode cX8_duration 38 = .ok (.getfield 22, 3) := by decide +kernel
theorem dX8_duration_41 : decode cX8_duration 41 = .ok (.iload_n 2, 1) := by decide +kernel
theorem dX8_duration_42 : decode cX8_duration 42 = .ok (.iaload, 1) := by decide +kernel
theorem dX8_duration_43 : decode cX8_duration 43 = .ok (.goto 8, 3) := by decide +kernel
theorem dX8_duration_46 : decode cX8_duration 46 = .ok (.aload_n 0, 1) := by decide +kernel
theorem dX8_duration_47 : decode cX8_duration 47 = .ok (.iconst 2, 1) := by decide +kernel
theorem dX8_duration_48 : decode cX8_duration 48 = .ok (.invokevirtual 62, 3) := by decide +kernel
theorem dX8_duration_51 : decode cX8_duration 51 = .ok (.ireturn, 1) := by decide +kernel
theorem dX8_firstPart_0 : decode cX8_firstPart 0 = .ok (.aload_n 0, 1) := by decide +kernel
theorem dX8_firstPart_1 : decode cX8_firstPart 1 = .ok (.aload_n 0, 1) := by decide +kernel
theorem dX8_firstPart_2 : decode cX8_firstPart 2 = .ok (.iload_n 1, 1) := by decide +kernel
theorem dX8_firstPart_3 : decode cX8_firstPart 3 = .ok (.iload_n 2, 1) := by decide +kernel
theorem dX8_firstPart_4 : decode cX8_firstPart 4 = .ok (.iload_n 3, 1) := by decide +kernel
theorem dX8_firstPart_5 : decode cX8_firstPart 5 = .ok (.invokevirtual 162, 3) := by decide +kernel
theorem dX8_firstPart_8 : decode cX8_firstPart 8 = .ok (.putfield 41, 3) := by decide +kernel
theorem dX8_firstPart_11 : decode cX8_firstPart 11 = .ok (.aload_n 0, 1) := by decide +kernel
theorem dX8_firstPart_12 : decode cX8_firstPart 12 = .ok (.getfield 41, 3) := by decide +kernel
theorem dX8_firstPart_15 : decode cX8_firstPart 15 = .ok (.ifCond .le 5, 3) := by decide +kernel
theorem dX8_firstPart_18 : decode cX8_firstPart 18 = .ok (.iconst 0, 1) := by decide +kernel
theorem dX8_firstPart_19 : decode cX8_firstPart 19 = .ok (.ireturn, 1) := by decide +kernel
theorem dX8_firstPart_20 : decode cX8_firstPart 20 = .ok (.aload_n 0, 1) := by decide +kernel
theorem dX8_firstPart_21 : decode cX8_firstPart 21 = .ok (.iload_n 1, 1) := by decide +kernel
theorem dX8_firstPart_22 : decode cX8_firstPart 22 = .ok (.iload_n 3, 1) := by decide +kernel
theorem dX8_firstPart_23 : decode cX8_firstPart 23 = .ok (.invokevirtual 166, 3) := by decide +kernel
theorem dX8_firstPart_26 : decode cX8_firstPart 26 = .ok (.iload_n 2, 1) := by decide +kernel
theorem dX8_firstPart_27 : decode cX8_firstPart 27 = .ok (.iload_n 3, 1) := by decide +kernel
theorem dX8_firstPart_28 : decode cX8_firstPart 28 = .ok (.if_icmp .eq 14, 3) := by decide +kernel
theorem dX8_firstPart_31 : decode cX8_firstPart 31 = .ok (.aload_n 0, 1) := by decide +kernel
theorem dX8_firstPart_32 : decode cX8_firstPart 32 = .ok (.getfield 22, 3) := by decide +kernel
theorem dX8_firstPart_35 : decode cX8_firstPart 35 = .ok (.iload_n 2, 1) := by decide +kernel
theorem dX8_firstPart_36 : decode cX8_firstPart 36 = .ok (.iaload, 1) := by decide +kernel
theorem dX8_firstPart_37 : decode cX8_firstPart 37 = .ok (.ldc 155, 2) := by decide +kernel
theorem dX8_firstPart_39 : decode cX8_firstPart 39 = .ok (.if_icmp .lt 9, 3) := by decide +kernel
theorem dX8_firstPart_42 : decode cX8_firstPart 42 = .ok (.aload_n 0, 1) := by decide +kernel
theorem dX8_firstPart_43 : decode cX8_firstPart 43 = .ok (.iconst 2, 1) := by decide +kernel
theorem dX8_firstPart_44 : decode cX8_firstPart 44 = .ok (.invokevirtual 62, 3) := by decide +kernel
theorem dX8_firstPart_47 : decode cX8_firstPart 47 = .ok (.ireturn, 1) := by decide +kernel
theorem dX8_firstPart_48 : decode cX8_firstPart 48 = .ok (.iconst 0, 1) := by decide +kernel
theorem dX8_firstPart_49 : decode cX8_firstPart 49 = .ok (.istore 4, 2) := by decide +kernel
theorem dX8_firstPart_51 : decode cX8_firstPart 51 = .ok (.iload 4, 2) := by decide +kernel
theorem dX8_firstPart_53 : decode cX8_firstPart 53 = .ok (.aload_n 0, 1) := by decide +kernel
theorem dX8_firstPart_54 : decode cX8_firstPart 54 = .ok (.getfield 9, 3) := by decide +kernel
theorem dX8_firstPart_57 : decode cX8_firstPart 57 = .ok (.iconst 3, 1) := by decide +kernel
theorem dX8_firstPart_58 : decode cX8_firstPart 58 = .ok (.iaload, 1) := by decide +kernel
theorem dX8_firstPart_59 : decode cX8_firstPart 59 = .ok (.if_icmp .ge 73, 3) := by decide +kernel
theorem dX8_firstPart_62 : decode cX8_firstPart 62 = .ok (.iload 4, 2) := by decide +kernel
theorem dX8_firstPart_64 : decode cX8_firstPart 64 = .ok (.invokestatic 51, 3) := by decide +kernel
theorem dX8_firstPart_67 : decode cX8_firstPart 67 = .ok (.istore 5, 2) := by decide +kernel
theorem dX8_firstPart_69 : decode cX8_firstPart 69 = .ok (.aload_n 0, 1) := by decide +kernel
theorem dX8_firstPart_70 : decode cX8_firstPart 70 = .ok (.getfield 9, 3) := by decide +kernel
theorem dX8_firstPart_73 : decode cX8_firstPart 73 = .ok (.iload 5, 2) := by decide +kernel
theorem dX8_firstPart_75 : decode cX8_firstPart 75 = .ok (.iaload, 1) := by decide +kernel
theorem dX8_firstPart_76 : decode cX8_firstPart 76 = .ok (.iload_n 2, 1) := by decide +kernel
theorem dX8_firstPart_77 : decode cX8_firstPart 77 = .ok (.if_icmp .ne 49, 3) := by decide +kernel
theorem dX8_firstPart_80 : decode cX8_firstPart 80 = .ok (.aload_n 0, 1) := by decide +kernel
theorem dX8_firstPart_81 : decode cX8_firstPart 81 = .ok (.iload_n 1, 1) := by decide +kernel
theorem dX8_firstPart_82 : decode cX8_firstPart 82 = .ok (.iload 4, 2) := by decide +kernel
theorem dX8_firstPart_84 : decode cX8_firstPart 84 = .ok (.invokevirtual 156, 3) := by decide +kernel
theorem dX8_firstPart_87 : decode cX8_firstPart 87 = .ok (.ifCond .eq 39, 3) := by decide +kernel
theorem dX8_firstPart_90 : decode cX8_firstPart 90 = .ok (.aload_n 0, 1) := by decide +kernel
theorem dX8_firstPart_91 : decode cX8_firstPart 91 = .ok (.getfield 22, 3) := by decide +kernel
theorem dX8_firstPart_94 : decode cX8_firstPart 94 = .ok (.aload_n 0, 1) := by decide +kernel
theorem dX8_firstPart_95 : decode cX8_firstPart 95 = .ok (.getfield 9, 3) := by decide +kernel
theorem dX8_firstPart_98 : decode cX8_firstPart 98 = .ok (.iload 5, 2) := by decide +kernel
theorem dX8_firstPart_100 : decode cX8_firstPart 100 = .ok (.iconst 1, 1) := by decide +kernel
theorem dX8_firstPart_101 : decode cX8_firstPart 101 = .ok (.iadd, 1) := by decide +kernel
theorem dX8_firstPart_102 : decode cX8_firstPart 102 = .ok (.iaload, 1) := by decide +kernel
theorem dX8_firstPart_103 : decode cX8_firstPart 103 = .ok (.iaload, 1) := by decide +kernel
theorem dX8_firstPart_104 : decode cX8_firstPart 104 = .ok (.aload_n 0, 1) := by decide +kernel
theorem dX8_firstPart_105 : decode cX8_firstPart 105 = .ok (.getfield 9, 3) := by decide +kernel
theorem dX8_firstPart_108 : decode cX8_firstPart 108 = .ok (.iload 5, 2) := by decide +kernel
theorem dX8_firstPart_110 : decode cX8_firstPart 110 = .ok (.iconst 5, 1) := by decide +kernel
theorem dX8_firstPart_111 : decode cX8_firstPart 111 = .ok (.iadd, 1) := by decide +kernel
theorem dX8_firstPart_112 : decode cX8_firstPart 112 = .ok (.iaload, 1) := by decide +kernel
theorem dX8_firstPart_113 : decode cX8_firstPart 113 = .ok (.iadd, 1) := by decide +kernel
theorem dX8_firstPart_114 : decode cX8_firstPart 114 = .ok (.aload_n 0, 1) := by decide +kernel
theorem dX8_firstPart_115 : decode cX8_firstPart 115 = .ok (.getfield 22, 3) := by decide +kernel
theorem dX8_firstPart_118 : decode cX8_firstPart 118 = .ok (.iload_n 2, 1) := by decide +kernel
theorem dX8_firstPart_119 : decode cX8_firstPart 119 = .ok (.iaload, 1) := by decide +kernel
theorem dX8_firstPart_120 : decode cX8_firstPart 120 = .ok (.if_icmp .ne 6, 3) := by decide +kernel
theorem dX8_firstPart_123 : decode cX8_firstPart 123 = .ok (.iload 4, 2) := by decide +kernel
theorem dX8_firstPart_125 : decode cX8_firstPart 125 = .ok (.ireturn, 1) := by decide +kernel
theorem dX8_firstPart_126 : decode cX8_firstPart 126 = .ok (.iinc 4 1, 3) := by decide +kernel
theorem dX8_firstPart_129 : decode cX8_firstPart 129 = .ok (.goto (-78), 3) := by decide +kernel
theorem dX8_firstPart_132 : decode cX8_firstPart 132 = .ok (.iconst 0, 1) := by decide +kernel
theorem dX8_firstPart_133 : decode cX8_firstPart 133 = .ok (.istore 4, 2) := by decide +kernel
theorem dX8_firstPart_135 : decode cX8_firstPart 135 = .ok (.aload_n 0, 1) := by decide +kernel
theorem dX8_firstPart_136 : decode cX8_firstPart 136 = .ok (.getfield 9, 3) := by decide +kernel
theorem dX8_firstPart_139 : decode cX8_firstPart 139 = .ok (.iload 4, 2) := by decide +kernel
theorem dX8_firstPart_141 : decode cX8_firstPart 141 = .ok (.invokestatic 68, 3) := by decide +kernel
theorem dX8_firstPart_144 : decode cX8_firstPart 144 = .ok (.iaload, 1) := by decide +kernel
theorem dX8_firstPart_145 : decode cX8_firstPart 145 = .ok (.iload_n 2, 1) := by decide +kernel
theorem dX8_firstPart_146 : decode cX8_firstPart 146 = .ok (.if_icmp .ne 47, 3) := by decide +kernel
theorem dX8_firstPart_149 : decode cX8_firstPart 149 = .ok (.aload_n 0, 1) := by decide +kernel
theorem dX8_firstPart_150 : decode cX8_firstPart 150 = .ok (.iload_n 1, 1) := by decide +kernel
theorem dX8_firstPart_151 : decode cX8_firstPart 151 = .ok (.iload 4, 2) := by decide +kernel
theorem dX8_firstPart_153 : decode cX8_firstPart 153 = .ok (.invokevirtual 159, 3) := by decide +kernel
theorem dX8_firstPart_156 : decode cX8_firstPart 156 = .ok (.ifCond .eq 37, 3) := by decide +kernel
theorem dX8_firstPart_159 : decode cX8_firstPart 159 = .ok (.aload_n 0, 1) := by decide +kernel
theorem dX8_firstPart_160 : decode cX8_firstPart 160 = .ok (.getfield 22, 3) := by decide +kernel
theorem dX8_firstPart_163 : decode cX8_firstPart 163 = .ok (.aload_n 0, 1) := by decide +kernel
theorem dX8_firstPart_164 : decode cX8_firstPart 164 = .ok (.getfield 9, 3) := by decide +kernel
theorem dX8_firstPart_167 : decode cX8_firstPart 167 = .ok (.iload 4, 2) := by decide +kernel
theorem dX8_firstPart_169 : decode cX8_firstPart 169 = .ok (.invokestatic 68, 3) := by decide +kernel
theorem dX8_firstPart_172 : decode cX8_firstPart 172 = .ok (.iconst 1, 1) := by decide +kernel
theorem dX8_firstPart_173 : decode cX8_firstPart 173 = .ok (.iadd, 1) := by decide +kernel
theorem dX8_firstPart_174 : decode cX8_firstPart 174 = .ok (.iaload, 1) := by decide +kernel
theorem dX8_firstPart_175 : decode cX8_firstPart 175 = .ok (.iaload, 1) := by decide +kernel
theorem dX8_firstPart_176 : decode cX8_firstPart 176 = .ok (.aload_n 0, 1) := by decide +kernel
theorem dX8_firstPart_177 : decode cX8_firstPart 177 = .ok (.iload_n 1, 1) := by decide +kernel
theorem dX8_firstPart_178 : decode cX8_firstPart 178 = .ok (.iload 4, 2) := by decide +kernel
theorem dX8_firstPart_180 : decode cX8_firstPart 180 = .ok (.invokevirtual 102, 3) := by decide +kernel
theorem dX8_firstPart_183 : decode cX8_firstPart 183 = .ok (.iadd, 1) := by decide +kernel
theorem dX8_firstPart_184 : decode cX8_firstPart 184 = .ok (.aload_n 0, 1) := by decide +kernel
theorem dX8_firstPart_185 : decode cX8_firstPart 185 = .ok (.getfield 22, 3) := by decide +kernel
theorem dX8_firstPart_188 : decode cX8_firstPart 188 = .ok (.iload_n 2, 1) := by decide +kernel
theorem dX8_firstPart_189 : decode cX8_firstPart 189 = .ok (.iaload, 1) := by decide +kernel
theorem dX8_firstPart_190 : decode cX8_firstPart 190 = .ok (.if_icmp .eq 9, 3) := by decide +kernel
theorem dX8_firstPart_193 : decode cX8_firstPart 193 = .ok (.iinc 4 1, 3) := by decide +kernel
theorem dX8_firstPart_196 : decode cX8_firstPart 196 = .ok (.goto (-61), 3) := by decide +kernel
theorem dX8_firstPart_199 : decode cX8_firstPart 199 = .ok (.bipush 100, 2) := by decide +kernel
theorem dX8_firstPart_201 : decode cX8_firstPart 201 = .ok (.iload 4, 2) := by decide +kernel
theorem dX8_firstPart_203 : decode cX8_firstPart 203 = .ok (.iadd, 1) := by decide +kernel
theorem dX8_firstPart_204 : decode cX8_firstPart 204 = .ok (.ireturn, 1) := by decide +kernel
theorem dX8_reachable_0 : decode cX8_reachable 0 = .ok (.aload_n 0, 1) := by decide +kernel
theorem dX8_reachable_1 : decode cX8_reachable 1 = .ok (.aload_n 0, 1) := by decide +kernel
theorem dX8_reachable_2 : decode cX8_reachable 2 = .ok (.iload_n 1, 1) := by decide +kernel
theorem dX8_reachable_3 : decode cX8_reachable 3 = .ok (.iload_n 2, 1) := by decide +kernel
theorem dX8_reachable_4 : decode cX8_reachable 4 = .ok (.iload_n 2, 1) := by decide +kernel
theorem dX8_reachable_5 : decode cX8_reachable 5 = .ok (.invokevirtual 162, 3) := by decide +kernel
theorem dX8_reachable_8 : decode cX8_reachable 8 = .ok (.putfield 41, 3) := by decide +kernel
theorem dX8_reachable_11 : decode cX8_reachable 11 = .ok (.iconst 0, 1) := by decide +kernel
theorem dX8_reachable_12 : decode cX8_reachable 12 = .ok (.istore_n 3, 1) := by decide +kernel
theorem dX8_reachable_13 : decode cX8_reachable 13 = .ok (.iconst 0, 1) := by decide +kernel
theorem dX8_reachable_14 : decode cX8_reachable 14 = .ok (.istore 4, 2) := by decide +kernel
theorem dX8_reachable_16 : decode cX8_reachable 16 = .ok (.iload 4, 2) := by decide +kernel
theorem dX8_reachable_18 : decode cX8_reachable 18 = .ok (.bipush 8, 2) := by decide +kernel
theorem dX8_reachable_20 : decode cX8_reachable 20 = .ok (.if_icmp .ge 45, 3) := by decide +kernel
theorem dX8_reachable_23 : decode cX8_reachable 23 = .ok (.aload_n 0, 1) := by decide +kernel
theorem dX8_reachable_24 : decode cX8_reachable 24 = .ok (.getfield 41, 3) := by decide +kernel
theorem dX8_reachable_27 : decode cX8_reachable 27 = .ok (.ifCond .ne 38, 3) := by decide +kernel
theorem dX8_reachable_30 : decode cX8_reachable 30 = .ok (.aload_n 0, 1) := by decide +kernel
theorem dX8_reachable_31 : decode cX8_reachable 31 = .ok (.iload_n 1, 1) := by decide +kernel
theorem dX8_reachable_32 : decode cX8_reachable 32 = .ok (.iload 4, 2) := by decide +kernel
theorem dX8_reachable_34 : decode cX8_reachable 34 = .ok (.invokevirtual 166, 3) := by decide +kernel
theorem dX8_reachable_37 : decode cX8_reachable 37 = .ok (.iload_n 3, 1) := by decide +kernel
theorem dX8_reachable_38 : decode cX8_reachable 38 = .ok (.aload_n 0, 1) := by decide +kernel
theorem dX8_reachable_39 : decode cX8_reachable 39 = .ok (.getfield 22, 3) := by decide +kernel
theorem dX8_reachable_42 : decode cX8_reachable 42 = .ok (.iload_n 2, 1) := by decide +kernel
theorem dX8_reachable_43 : decode cX8_reachable 43 = .ok (.iaload, 1) := by decide +kernel
theorem dX8_reachable_44 : decode cX8_reachable 44 = .ok (.ldc 155, 2) := by decide +kernel
theorem dX8_reachable_46 : decode cX8_reachable 46 = .ok (.if_icmp .ge 10, 3) := by decide +kernel
theorem dX8_reachable_49 : decode cX8_reachable 49 = .ok (.iconst 1, 1) := by decide +kernel
theorem dX8_reachable_50 : decode cX8_reachable 50 = .ok (.iload 4, 2) := by decide +kernel
theorem dX8_reachable_52 : decode cX8_reachable 52 = .ok (.ishl, 1) := by decide +kernel
theorem dX8_reachable_53 : decode cX8_reachable 53 = .ok (.goto 4, 3) := by decide +kernel
theorem dX8_reachable_56 : decode cX8_reachable 56 = .ok (.iconst 0, 1) := by decide +kernel
theorem dX8_reachable_57 : decode cX8_reachable 57 = .ok (.ior, 1) := by decide +kernel
theorem dX8_reachable_58 : decode cX8_reachable 58 = .ok (.istore_n 3, 1) := by decide +kernel
theorem dX8_reachable_59 : decode cX8_reachable 59 = .ok (.iinc 4 1, 3) := by decide +kernel
theorem dX8_reachable_62 : decode cX8_reachable 62 = .ok (.goto (-46), 3) := by decide +kernel
theorem dX8_reachable_65 : decode cX8_reachable 65 = .ok (.iload_n 3, 1) := by decide +kernel
theorem dX8_reachable_66 : decode cX8_reachable 66 = .ok (.ireturn, 1) := by decide +kernel
theorem dX8_stranded_0 : decode cX8_stranded 0 = .ok (.aload_n 0, 1) := by decide +kernel
theorem dX8_stranded_1 : decode cX8_stranded 1 = .ok (.aload_n 0, 1) := by decide +kernel
theorem dX8_stranded_2 : decode cX8_stranded 2 = .ok (.iload_n 1, 1) := by decide +kernel
theorem dX8_stranded_3 : decode cX8_stranded 3 = .ok (.iload_n 2, 1) := by decide +kernel
theorem dX8_stranded_4 : decode cX8_stranded 4 = .ok (.iload_n 2, 1) := by decide +kernel
theorem dX8_stranded_5 : decode cX8_stranded 5 = .ok (.invokevirtual 162, 3) := by decide +kernel
theorem dX8_stranded_8 : decode cX8_stranded 8 = .ok (.putfield 41, 3) := by decide +kernel
theorem dX8_stranded_11 : decode cX8_stranded 11 = .ok (.aload_n 0, 1) := by decide +kernel
theorem dX8_stranded_12 : decode cX8_stranded 12 = .ok (.getfield 41, 3) := by decide +kernel
theorem dX8_stranded_15 : decode cX8_stranded 15 = .ok (.ifCond .le 5, 3) := by decide +kernel
theorem dX8_stranded_18 : decode cX8_stranded 18 = .ok (.iconst 0, 1) := by decide +kernel
theorem dX8_stranded_19 : decode cX8_stranded 19 = .ok (.ireturn, 1) := by decide +kernel
theorem dX8_stranded_20 : decode cX8_stranded 20 = .ok (.aload_n 0, 1) := by decide +kernel
theorem dX8_stranded_21 : decode cX8_stranded 21 = .ok (.iload_n 1, 1) := by decide +kernel
theorem dX8_stranded_22 : decode cX8_stranded 22 = .ok (.iload_n 2, 1) := by decide +kernel
theorem dX8_stranded_23 : decode cX8_stranded 23 = .ok (.invokevirtual 166, 3) := by decide +kernel
theorem dX8_stranded_26 : decode cX8_stranded 26 = .ok (.iconst 0, 1) := by decide +kernel
theorem dX8_stranded_27 : decode cX8_stranded 27 = .ok (.istore_n 3, 1) := by decide +kernel
theorem dX8_stranded_28 : decode cX8_stranded 28 = .ok (.iconst 0, 1) := by decide +kernel
theorem dX8_stranded_29 : decode cX8_stranded 29 = .ok (.istore 4, 2) := by decide +kernel
theorem dX8_stranded_31 : decode cX8_stranded 31 = .ok (.iload 4, 2) := by decide +kernel
theorem dX8_stranded_33 : decode cX8_stranded 33 = .ok (.bipush 8, 2) := by decide +kernel
theorem dX8_stranded_35 : decode cX8_stranded 35 = .ok (.if_icmp .ge 32, 3) := by decide +kernel
theorem dX8_stranded_38 : decode cX8_stranded 38 = .ok (.iload_n 3, 1) := by decide +kernel
theorem dX8_stranded_39 : decode cX8_stranded 39 = .ok (.aload_n 0, 1) := by decide +kernel
theorem dX8_stranded_40 : decode cX8_stranded 40 = .ok (.getfield 22, 3) := by decide +kernel
theorem dX8_stranded_43 : decode cX8_stranded 43 = .ok (.iload 4, 2) := by decide +kernel
theorem dX8_stranded_45 : decode cX8_stranded 45 = .ok (.iaload, 1) := by decide +kernel
theorem dX8_stranded_46 : decode cX8_stranded 46 = .ok (.ldc 155, 2) := by decide +kernel
theorem dX8_stranded_48 : decode cX8_stranded 48 = .ok (.if_icmp .lt 10, 3) := by decide +kernel
theorem dX8_stranded_51 : decode cX8_stranded 51 = .ok (.iconst 1, 1) := by decide +kernel
theorem dX8_stranded_52 : decode cX8_stranded 52 = .ok (.iload 4, 2) := by decide +kernel
theorem dX8_stranded_54 : decode cX8_stranded 54 = .ok (.ishl, 1) := by decide +kernel
theorem dX8_stranded_55 : decode cX8_stranded 55 = .ok (.goto 4, 3) := by decide +kernel
theorem dX8_stranded_58 : decode cX8_stranded 58 = .ok (.iconst 0, 1) := by decide +kernel
theorem dX8_stranded_59 : decode cX8_stranded 59 = .ok (.ior, 1) := by decide +kernel
theorem dX8_stranded_60 : decode cX8_stranded 60 = .ok (.istore_n 3, 1) := by decide +kernel
theorem dX8_stranded_61 : decode cX8_stranded 61 = .ok (.iinc 4 1, 3) := by decide +kernel
theorem dX8_stranded_64 : decode cX8_stranded 64 = .ok (.goto (-33), 3) := by decide +kernel
theorem dX8_stranded_67 : decode cX8_stranded 67 = .ok (.iload_n 3, 1) := by decide +kernel
theorem dX8_stranded_68 : decode cX8_stranded 68 = .ok (.ireturn, 1) := by decide +kernel
theorem dX8_liftAccount_0 : decode cX8_liftAccount 0 = .ok (.aload_n 0, 1) := by decide +kernel
theorem dX8_liftAccount_1 : decode cX8_liftAccount 1 = .ok (.aload_n 0, 1) := by decide +kernel
theorem dX8_liftAccount_2 : decode cX8_liftAccount 2 = .ok (.iload_n 1, 1) := by decide +kernel
theorem dX8_liftAccount_3 : decode cX8_liftAccount 3 = .ok (.invokevirtual 74, 3) := by decide +kernel
theorem dX8_liftAccount_6 : decode cX8_liftAccount 6 = .ok (.ifCond .ne 7, 3) := by decide +kernel
theorem dX8_liftAccount_9 : decode cX8_liftAccount 9 = .ok (.iconst 1, 1) := by decide +kernel
theorem dX8_liftAccount_10 : decode cX8_liftAccount 10 = .ok (.goto 17, 3) := by decide +kernel
theorem dX8_liftAccount_13 : decode cX8_liftAccount 13 = .ok (.iload_n 2, 1) := by decide +kernel
theorem dX8_liftAccount_14 : decode cX8_liftAccount 14 = .ok (.iconst 0, 1) := by decide +kernel
theorem dX8_liftAccount_15 : decode cX8_liftAccount 15 = .ok (.iconst 1, 1) := by decide +kernel
theorem dX8_liftAccount_16 : decode cX8_liftAccount 16 = .ok (.invokestatic 47, 3) := by decide +kernel
theorem dX8_liftAccount_19 : decode cX8_liftAccount 19 = .ok (.ifCond .ne 7, 3) := by decide +kernel
theorem dX8_liftAccount_22 : decode cX8_liftAccount 22 = .ok (.iconst 2, 1) := by decide +kernel
theorem dX8_liftAccount_23 : decode cX8_liftAccount 23 = .ok (.goto 4, 3) := by decide +kernel
theorem dX8_liftAccount_26 : decode cX8_liftAccount 26 = .ok (.iconst 0, 1) := by decide +kernel
theorem dX8_liftAccount_27 : decode cX8_liftAccount 27 = .ok (.putfield 41, 3) := by decide +kernel
theorem dX8_liftAccount_30 : decode cX8_liftAccount 30 = .ok (.aload_n 0, 1) := by decide +kernel
theorem dX8_liftAccount_31 : decode cX8_liftAccount 31 = .ok (.getfield 41, 3) := by decide +kernel
theorem dX8_liftAccount_34 : decode cX8_liftAccount 34 = .ok (.ifCond .le 7, 3) := by decide +kernel
theorem dX8_liftAccount_37 : decode cX8_liftAccount 37 = .ok (.iconst 0, 1) := by decide +kernel
theorem dX8_liftAccount_38 : decode cX8_liftAccount 38 = .ok (.goto 17, 3) := by decide +kernel
theorem dX8_liftAccount_41 : decode cX8_liftAccount 41 = .ok (.aload_n 0, 1) := by decide +kernel
theorem dX8_liftAccount_42 : decode cX8_liftAccount 42 = .ok (.getfield 9, 3) := by decide +kernel
theorem dX8_liftAccount_45 : decode cX8_liftAccount 45 = .ok (.iload_n 1, 1) := by decide +kernel
theorem dX8_liftAccount_46 : decode cX8_liftAccount 46 = .ok (.invokestatic 51, 3) := by decide +kernel
theorem dX8_liftAccount_49 : decode cX8_liftAccount 49 = .ok (.bipush 8, 2) := by decide +kernel
theorem dX8_liftAccount_51 : decode cX8_liftAccount 51 = .ok (.iadd, 1) := by decide +kernel
theorem dX8_liftAccount_52 : decode cX8_liftAccount 52 = .ok (.iload_n 2, 1) := by decide +kernel
theorem dX8_liftAccount_53 : decode cX8_liftAccount 53 = .ok (.iadd, 1) := by decide +kernel
theorem dX8_liftAccount_54 : decode cX8_liftAccount 54 = .ok (.iaload, 1) := by decide +kernel
theorem dX8_liftAccount_55 : decode cX8_liftAccount 55 = .ok (.ireturn, 1) := by decide +kernel
theorem dX8_guestAccount_0 : decode cX8_guestAccount 0 = .ok (.aload_n 0, 1) := by decide +kernel
theorem dX8_guestAccount_1 : decode cX8_guestAccount 1 = .ok (.aload_n 0, 1) := by decide +kernel
theorem dX8_guestAccount_2 : decode cX8_guestAccount 2 = .ok (.iload_n 1, 1) := by decide +kernel
theorem dX8_guestAccount_3 : decode cX8_guestAccount 3 = .ok (.invokevirtual 92, 3) := by decide +kernel
theorem dX8_guestAccount_6 : decode cX8_guestAccount 6 = .ok (.ifCond .ne 7, 3) := by decide +kernel
theorem dX8_guestAccount_9 : decode cX8_guestAccount 9 = .ok (.iconst 1, 1) := by decide +kernel
theorem dX8_guestAccount_10 : decode cX8_guestAccount 10 = .ok (.goto 17, 3) := by decide +kernel
theorem dX8_guestAccount_13 : decode cX8_guestAccount 13 = .ok (.iload_n 2, 1) := by decide +kernel
theorem dX8_guestAccount_14 : decode cX8_guestAccount 14 = .ok (.iconst 0, 1) := by decide +kernel
theorem dX8_guestAccount_15 : decode cX8_guestAccount 15 = .ok (.iconst 2, 1) := by decide +kernel
theorem dX8_guestAccount_16 : decode cX8_guestAccount 16 = .ok (.invokestatic 47, 3) := by decide +kernel
theorem dX8_guestAccount_19 : decode cX8_guestAccount 19 = .ok (.ifCond .ne 7, 3) := by decide +kernel
theorem dX8_guestAccount_22 : decode cX8_guestAccount 22 = .ok (.iconst 2, 1) := by decide +kernel
theorem dX8_guestAccount_23 : decode cX8_guestAccount 23 = .ok (.goto 4, 3) := by decide +kernel
theorem dX8_guestAccount_26 : decode cX8_guestAccount 26 = .ok (.iconst 0, 1) := by decide +kernel
theorem dX8_guestAccount_27 : decode cX8_guestAccount 27 = .ok (.putfield 41, 3) := by decide +kernel
theorem dX8_guestAccount_30 : decode cX8_guestAccount 30 = .ok (.aload_n 0, 1) := by decide +kernel
theorem dX8_guestAccount_31 : decode cX8_guestAccount 31 = .ok (.getfield 41, 3) := by decide +kernel
theorem dX8_guestAccount_34 : decode cX8_guestAccount 34 = .ok (.ifCond .le 7, 3) := by decide +kernel
theorem dX8_guestAccount_37 : decode cX8_guestAccount 37 = .ok (.iconst 0, 1) := by decide +kernel
theorem dX8_guestAccount_38 : decode cX8_guestAccount 38 = .ok (.goto 17, 3) := by decide +kernel
theorem dX8_guestAccount_41 : decode cX8_guestAccount 41 = .ok (.aload_n 0, 1) := by decide +kernel
theorem dX8_guestAccount_42 : decode cX8_guestAccount 42 = .ok (.getfield 9, 3) := by decide +kernel
theorem dX8_guestAccount_45 : decode cX8_guestAccount 45 = .ok (.iload_n 1, 1) := by decide +kernel
theorem dX8_guestAccount_46 : decode cX8_guestAccount 46 = .ok (.invokestatic 71, 3) := by decide +kernel
theorem dX8_guestAccount_49 : decode cX8_guestAccount 49 = .ok (.bipush 7, 2) := by decide +kernel
theorem dX8_guestAccount_51 : decode cX8_guestAccount 51 = .ok (.iadd, 1) := by decide +kernel
theorem dX8_guestAccount_52 : decode cX8_guestAccount 52 = .ok (.iload_n 2, 1) := by decide +kernel
theorem dX8_guestAccount_53 : decode cX8_guestAccount 53 = .ok (.iadd, 1) := by decide +kernel
theorem dX8_guestAccount_54 : decode cX8_guestAccount 54 = .ok (.iaload, 1) := by decide +kernel
theorem dX8_guestAccount_55 : decode cX8_guestAccount 55 = .ok (.ireturn, 1) := by decide +kernel
theorem dX8_pisteAccount_0 : decode cX8_pisteAccount 0 = .ok (.aload_n 0, 1) := by decide +kernel
theorem dX8_pisteAccount_1 : decode cX8_pisteAccount 1 = .ok (.iconst 0, 1) := by decide +kernel
theorem dX8_pisteAccount_2 : decode cX8_pisteAccount 2 = .ok (.putfield 41, 3) := by decide +kernel
theorem dX8_pisteAccount_5 : decode cX8_pisteAccount 5 = .ok (.aload_n 0, 1) := by decide +kernel
theorem dX8_pisteAccount_6 : decode cX8_pisteAccount 6 = .ok (.iload_n 1, 1) := by decide +kernel
theorem dX8_pisteAccount_7 : decode cX8_pisteAccount 7 = .ok (.invokevirtual 81, 3) := by decide +kernel
theorem dX8_pisteAccount_10 : decode cX8_pisteAccount 10 = .ok (.ifCond .eq 18, 3) := by decide +kernel
theorem dX8_pisteAccount_13 : decode cX8_pisteAccount 13 = .ok (.aload_n 0, 1) := by decide +kernel
theorem dX8_pisteAccount_14 : decode cX8_pisteAccount 14 = .ok (.getfield 9, 3) := by decide +kernel
theorem dX8_pisteAccount_17 : decode cX8_pisteAccount 17 = .ok (.iload_n 1, 1) := by decide +kernel
theorem dX8_pisteAccount_18 : decode cX8_pisteAccount 18 = .ok (.invokestatic 68, 3) := by decide +kernel
theorem dX8_pisteAccount_21 : decode cX8_pisteAccount 21 = .ok (.bipush 7, 2) := by decide +kernel
theorem dX8_pisteAccount_23 : decode cX8_pisteAccount 23 = .ok (.iadd, 1) := by decide +kernel
theorem dX8_pisteAccount_24 : decode cX8_pisteAccount 24 = .ok (.iaload, 1) := by decide +kernel
theorem dX8_pisteAccount_25 : decode cX8_pisteAccount 25 = .ok (.goto 8, 3) := by decide +kernel
theorem dX8_pisteAccount_28 : decode cX8_pisteAccount 28 = .ok (.aload_n 0, 1) := by decide +kernel
theorem dX8_pisteAccount_29 : decode cX8_pisteAccount 29 = .ok (.iconst 1, 1) := by decide +kernel
theorem dX8_pisteAccount_30 : decode cX8_pisteAccount 30 = .ok (.invokevirtual 62, 3) := by decide +kernel
theorem dX8_pisteAccount_33 : decode cX8_pisteAccount 33 = .ok (.ireturn, 1) := by decide +kernel
theorem dX8_audit_0 : decode cX8_audit 0 = .ok (.aload_n 0, 1) := by decide +kernel
theorem dX8_audit_1 : decode cX8_audit 1 = .ok (.iconst 0, 1) := by decide +kernel
theorem dX8_audit_2 : decode cX8_audit 2 = .ok (.putfield 41, 3) := by decide +kernel
theorem dX8_audit_5 : decode cX8_audit 5 = .ok (.iconst 0, 1) := by decide +kernel
theorem dX8_audit_6 : decode cX8_audit 6 = .ok (.istore_n 1, 1) := by decide +kernel
theorem dX8_audit_7 : decode cX8_audit 7 = .ok (.iconst 0, 1) := by decide +kernel
theorem dX8_audit_8 : decode cX8_audit 8 = .ok (.istore_n 2, 1) := by decide +kernel
theorem dX8_audit_9 : decode cX8_audit 9 = .ok (.iconst 0, 1) := by decide +kernel
theorem dX8_audit_10 : decode cX8_audit 10 = .ok (.istore_n 3, 1) := by decide +kernel
theorem dX8_audit_11 : decode cX8_audit 11 = .ok (.iload_n 3, 1) := by decide +kernel
theorem dX8_audit_12 : decode cX8_audit 12 = .ok (.aload_n 0, 1) := by decide +kernel
theorem dX8_audit_13 : decode cX8_audit 13 = .ok (.getfield 9, 3) := by decide +kernel
theorem dX8_audit_16 : decode cX8_audit 16 = .ok (.iconst 3, 1) := by decide +kernel
theorem dX8_audit_17 : decode cX8_audit 17 = .ok (.iaload, 1) := by decide +kernel
theorem dX8_audit_18 : decode cX8_audit 18 = .ok (.if_icmp .ge 24, 3) := by decide +kernel
theorem dX8_audit_21 : decode cX8_audit 21 = .ok (.iload_n 1, 1) := by decide +kernel
theorem dX8_audit_22 : decode cX8_audit 22 = .ok (.aload_n 0, 1) := by decide +kernel
theorem dX8_audit_23 : decode cX8_audit 23 = .ok (.getfield 9, 3) := by decide +kernel
theorem dX8_audit_26 : decode cX8_audit 26 = .ok (.iload_n 3, 1) := by decide +kernel
theorem dX8_audit_27 : decode cX8_audit 27 = .ok (.invokestatic 51, 3) := by decide +kernel
theorem dX8_audit_30 : decode cX8_audit 30 = .ok (.bipush 8, 2) := by decide +kernel
theorem dX8_audit_32 : decode cX8_audit 32 = .ok (.iadd, 1) := by decide +kernel
theorem dX8_audit_33 : decode cX8_audit 33 = .ok (.iaload, 1) := by decide +kernel
theorem dX8_audit_34 : decode cX8_audit 34 = .ok (.iadd, 1) := by decide +kernel
theorem dX8_audit_35 : decode cX8_audit 35 = .ok (.istore_n 1, 1) := by decide +kernel
theorem dX8_audit_36 : decode cX8_audit 36 = .ok (.iinc 3 1, 3) := by decide +kernel
theorem dX8_audit_39 : decode cX8_audit 39 = .ok (.goto (-28), 3) := by decide +kernel
theorem dX8_audit_42 : decode cX8_audit 42 = .ok (.iconst 0, 1) := by decide +kernel
theorem dX8_audit_43 : decode cX8_audit 43 = .ok (.istore_n 3, 1) := by decide +kernel
theorem dX8_audit_44 : decode cX8_audit 44 = .ok (.iload_n 3, 1) := by decide +kernel
theorem dX8_audit_45 : decode cX8_audit 45 = .ok (.aload_n 0, 1) := by decide +kernel
theorem dX8_audit_46 : decode cX8_audit 46 = .ok (.getfield 9, 3) := by decide +kernel
theorem dX8_audit_49 : decode cX8_audit 49 = .ok (.iconst 4, 1) := by decide +kernel
theorem dX8_audit_50 : decode cX8_audit 50 = .ok (.iaload, 1) := by decide +kernel
theorem dX8_audit_51 : decode cX8_audit 51 = .ok (.if_icmp .ge 24, 3) := by decide +kernel
theorem dX8_audit_54 : decode cX8_audit 54 = .ok (.iload_n 2, 1) := by decide +kernel
theorem dX8_audit_55 : decode cX8_audit 55 = .ok (.aload_n 0, 1) := by decide +kernel
theorem dX8_audit_56 : decode cX8_audit 56 = .ok (.getfield 9, 3) := by decide +kernel
theorem dX8_audit_59 : decode cX8_audit 59 = .ok (.iload_n 3, 1) := by decide +kernel
theorem dX8_audit_60 : decode cX8_audit 60 = .ok (.invokestatic 68, 3) := by decide +kernel
theorem dX8_audit_63 : decode cX8_audit 63 = .ok (.bipush 7, 2) := by decide +kernel
theorem dX8_audit_65 : decode cX8_audit 65 = .ok (.iadd, 1) := by decide +kernel
theorem dX8_audit_66 : decode cX8_audit 66 = .ok (.iaload, 1) := by decide +kernel
theorem dX8_audit_67 : decode cX8_audit 67 = .ok (.iadd, 1) := by decide +kernel
theorem dX8_audit_68 : decode cX8_audit 68 = .ok (.istore_n 2, 1) := by decide +kernel
theorem dX8_audit_69 : decode cX8_audit 69 = .ok (.iinc 3 1, 3) := by decide +kernel
theorem dX8_audit_72 : decode cX8_audit 72 = .ok (.goto (-28), 3) := by decide +kernel
theorem dX8_audit_75 : decode cX8_audit 75 = .ok (.iconst 0, 1) := by decide +kernel
theorem dX8_audit_76 : decode cX8_audit 76 = .ok (.istore_n 3, 1) := by decide +kernel
theorem dX8_audit_77 : decode cX8_audit 77 = .ok (.iload_n 3, 1) := by decide +kernel
theorem dX8_audit_78 : decode cX8_audit 78 = .ok (.aload_n 0, 1) := by decide +kernel
theorem dX8_audit_79 : decode cX8_audit 79 = .ok (.getfield 9, 3) := by decide +kernel
theorem dX8_audit_82 : decode cX8_audit 82 = .ok (.iconst 5, 1) := by decide +kernel
theorem dX8_audit_83 : decode cX8_audit 83 = .ok (.iaload, 1) := by decide +kernel
theorem dX8_audit_84 : decode cX8_audit 84 = .ok (.if_icmp .ge 39, 3) := by decide +kernel
theorem dX8_audit_87 : decode cX8_audit 87 = .ok (.iload_n 1, 1) := by decide +kernel
theorem dX8_audit_88 : decode cX8_audit 88 = .ok (.aload_n 0, 1) := by decide +kernel
theorem dX8_audit_89 : decode cX8_audit 89 = .ok (.getfield 9, 3) := by decide +kernel
theorem dX8_audit_92 : decode cX8_audit 92 = .ok (.iload_n 3, 1) := by decide +kernel
theorem dX8_audit_93 : decode cX8_audit 93 = .ok (.invokestatic 71, 3) := by decide +kernel
theorem dX8_audit_96 : decode cX8_audit 96 = .ok (.bipush 7, 2) := by decide +kernel
theorem dX8_audit_98 : decode cX8_audit 98 = .ok (.iadd, 1) := by decide +kernel
theorem dX8_audit_99 : decode cX8_audit 99 = .ok (.iaload, 1) := by decide +kernel
theorem dX8_audit_100 : decode cX8_audit 100 = .ok (.isub, 1) := by decide +kernel
theorem dX8_audit_101 : decode cX8_audit 101 = .ok (.istore_n 1, 1) := by decide +kernel
theorem dX8_audit_102 : decode cX8_audit 102 = .ok (.iload_n 2, 1) := by decide +kernel
theorem dX8_audit_103 : decode cX8_audit 103 = .ok (.aload_n 0, 1) := by decide +kernel
theorem dX8_audit_104 : decode cX8_audit 104 = .ok (.getfield 9, 3) := by decide +kernel
theorem dX8_audit_107 : decode cX8_audit 107 = .ok (.iload_n 3, 1) := by decide +kernel
theorem dX8_audit_108 : decode cX8_audit 108 = .ok (.invokestatic 71, 3) := by decide +kernel
theorem dX8_audit_111 : decode cX8_audit 111 = .ok (.bipush 8, 2) := by decide +kernel
theorem dX8_audit_113 : decode cX8_audit 113 = .ok (.iadd, 1) := by decide +kernel
theorem dX8_audit_114 : decode cX8_audit 114 = .ok (.iaload, 1) := by decide +kernel
theorem dX8_audit_115 : decode cX8_audit 115 = .ok (.isub, 1) := by decide +kernel
theorem dX8_audit_116 : decode cX8_audit 116 = .ok (.istore_n 2, 1) := by decide +kernel
theorem dX8_audit_117 : decode cX8_audit 117 = .ok (.iinc 3 1, 3) := by decide +kernel
theorem dX8_audit_120 : decode cX8_audit 120 = .ok (.goto (-43), 3) := by decide +kernel
theorem dX8_audit_123 : decode cX8_audit 123 = .ok (.iload_n 1, 1) := by decide +kernel
theorem dX8_audit_124 : decode cX8_audit 124 = .ok (.invokestatic 169, 3) := by decide +kernel
theorem dX8_audit_127 : decode cX8_audit 127 = .ok (.iload_n 2, 1) := by decide +kernel
theorem dX8_audit_128 : decode cX8_audit 128 = .ok (.invokestatic 169, 3) := by decide +kernel
theorem dX8_audit_131 : decode cX8_audit 131 = .ok (.iadd, 1) := by decide +kernel
theorem dX8_audit_132 : decode cX8_audit 132 = .ok (.ireturn, 1) := by decide +kernel
theorem dX8_busiest_0 : decode cX8_busiest 0 = .ok (.iconst 0, 1) := by decide +kernel
theorem dX8_busiest_1 : decode cX8_busiest 1 = .ok (.istore_n 1, 1) := by decide +kernel
theorem dX8_busiest_2 : decode cX8_busiest 2 = .ok (.iconst 0, 1) := by decide +kernel
theorem dX8_busiest_3 : decode cX8_busiest 3 = .ok (.istore_n 2, 1) := by decide +kernel
theorem dX8_busiest_4 : decode cX8_busiest 4 = .ok (.iconst 0, 1) := by decide +kernel
theorem dX8_busiest_5 : decode cX8_busiest 5 = .ok (.istore_n 3, 1) := by decide +kernel
theorem dX8_busiest_6 : decode cX8_busiest 6 = .ok (.iload_n 3, 1) := by decide +kernel
theorem dX8_busiest_7 : decode cX8_busiest 7 = .ok (.aload_n 0, 1) := by decide +kernel
theorem dX8_busiest_8 : decode cX8_busiest 8 = .ok (.getfield 9, 3) := by decide +kernel
theorem dX8_busiest_11 : decode cX8_busiest 11 = .ok (.iconst 3, 1) := by decide +kernel
theorem dX8_busiest_12 : decode cX8_busiest 12 = .ok (.iaload, 1) := by decide +kernel
theorem dX8_busiest_13 : decode cX8_busiest 13 = .ok (.if_icmp .ge 40, 3) := by decide +kernel
theorem dX8_busiest_16 : decode cX8_busiest 16 = .ok (.aload_n 0, 1) := by decide +kernel
theorem dX8_busiest_17 : decode cX8_busiest 17 = .ok (.getfield 9, 3) := by decide +kernel
theorem dX8_busiest_20 : decode cX8_busiest 20 = .ok (.iload_n 3, 1) := by decide +kernel
theorem dX8_busiest_21 : decode cX8_busiest 21 = .ok (.invokestatic 51, 3) := by decide +kernel
theorem dX8_busiest_24 : decode cX8_busiest 24 = .ok (.bipush 8, 2) := by decide +kernel
theorem dX8_busiest_26 : decode cX8_busiest 26 = .ok (.iadd, 1) := by decide +kernel
theorem dX8_busiest_27 : decode cX8_busiest 27 = .ok (.iaload, 1) := by decide +kernel
theorem dX8_busiest_28 : decode cX8_busiest 28 = .ok (.iload_n 1, 1) := by decide +kernel
theorem dX8_busiest_29 : decode cX8_busiest 29 = .ok (.if_icmp .le 18, 3) := by decide +kernel
theorem dX8_busiest_32 : decode cX8_busiest 32 = .ok (.aload_n 0, 1) := by decide +kernel
theorem dX8_busiest_33 : decode cX8_busiest 33 = .ok (.getfield 9, 3) := by decide +kernel
theorem dX8_busiest_36 : decode cX8_busiest 36 = .ok (.iload_n 3, 1) := by decide +kernel
theorem dX8_busiest_37 : decode cX8_busiest 37 = .ok (.invokestatic 51, 3) := by decide +kernel
theorem dX8_busiest_40 : decode cX8_busiest 40 = .ok (.bipush 8, 2) := by decide +kernel
theorem dX8_busiest_42 : decode cX8_busiest 42 = .ok (.iadd, 1) := by decide +kernel
theorem dX8_busiest_43 : decode cX8_busiest 43 = .ok (.iaload, 1) := by decide +kernel
theorem dX8_busiest_44 : decode cX8_busiest 44 = .ok (.istore_n 1, 1) := by decide +kernel
theorem dX8_busiest_45 : decode cX8_busiest 45 = .ok (.iload_n 3, 1) := by decide +kernel
theorem dX8_busiest_46 : decode cX8_busiest 46 = .ok (.istore_n 2, 1) := by decide +kernel
theorem dX8_busiest_47 : decode cX8_busiest 47 = .ok (.iinc 3 1, 3) := by decide +kernel
theorem dX8_busiest_50 : decode cX8_busiest 50 = .ok (.goto (-44), 3) := by decide +kernel
theorem dX8_busiest_53 : decode cX8_busiest 53 = .ok (.aload_n 0, 1) := by decide +kernel
theorem dX8_busiest_54 : decode cX8_busiest 54 = .ok (.iload_n 1, 1) := by decide +kernel
theorem dX8_busiest_55 : decode cX8_busiest 55 = .ok (.ifCond .ne 7, 3) := by decide +kernel
theorem dX8_busiest_58 : decode cX8_busiest 58 = .ok (.iconst 1, 1) := by decide +kernel
theorem dX8_busiest_59 : decode cX8_busiest 59 = .ok (.goto 4, 3) := by decide +kernel
theorem dX8_busiest_62 : decode cX8_busiest 62 = .ok (.iconst 0, 1) := by decide +kernel
theorem dX8_busiest_63 : decode cX8_busiest 63 = .ok (.putfield 41, 3) := by decide +kernel
theorem dX8_busiest_66 : decode cX8_busiest 66 = .ok (.iload_n 2, 1) := by decide +kernel
theorem dX8_busiest_67 : decode cX8_busiest 67 = .ok (.ireturn, 1) := by decide +kernel
theorem dX8_load_0 : decode cX8_load 0 = .ok (.aload_n 0, 1) := by decide +kernel
theorem dX8_load_1 : decode cX8_load 1 = .ok (.aload_n 0, 1) := by decide +kernel
theorem dX8_load_2 : decode cX8_load 2 = .ok (.iload_n 1, 1) := by decide +kernel
theorem dX8_load_3 : decode cX8_load 3 = .ok (.invokevirtual 74, 3) := by decide +kernel
theorem dX8_load_6 : decode cX8_load 6 = .ok (.ifCond .ne 7, 3) := by decide +kernel
theorem dX8_load_9 : decode cX8_load 9 = .ok (.iconst 1, 1) := by decide +kernel
theorem dX8_load_10 : decode cX8_load 10 = .ok (.goto 23, 3) := by decide +kernel
theorem dX8_load_13 : decode cX8_load 13 = .ok (.aload_n 0, 1) := by decide +kernel
theorem dX8_load_14 : decode cX8_load 14 = .ok (.getfield 9, 3) := by decide +kernel
theorem dX8_load_17 : decode cX8_load 17 = .ok (.iload_n 1, 1) := by decide +kernel
theorem dX8_load_18 : decode cX8_load 18 = .ok (.invokestatic 51, 3) := by decide +kernel
theorem dX8_load_21 : decode cX8_load 21 = .ok (.bipush 9, 2) := by decide +kernel
theorem dX8_load_23 : decode cX8_load 23 = .ok (.iadd, 1) := by decide +kernel
theorem dX8_load_24 : decode cX8_load 24 = .ok (.iaload, 1) := by decide +kernel
theorem dX8_load_25 : decode cX8_load 25 = .ok (.ifCond .ne 7, 3) := by decide +kernel
theorem dX8_load_28 : decode cX8_load 28 = .ok (.iconst 2, 1) := by decide +kernel
theorem dX8_load_29 : decode cX8_load 29 = .ok (.goto 4, 3) := by decide +kernel
theorem dX8_load_32 : decode cX8_load 32 = .ok (.iconst 0, 1) := by decide +kernel
theorem dX8_load_33 : decode cX8_load 33 = .ok (.putfield 41, 3) := by decide +kernel
theorem dX8_load_36 : decode cX8_load 36 = .ok (.aload_n 0, 1) := by decide +kernel
theorem dX8_load_37 : decode cX8_load 37 = .ok (.getfield 41, 3) := by decide +kernel
theorem dX8_load_40 : decode cX8_load 40 = .ok (.ifCond .le 7, 3) := by decide +kernel
theorem dX8_load_43 : decode cX8_load 43 = .ok (.dconst 0, 1) := by decide +kernel
theorem dX8_load_44 : decode cX8_load 44 = .ok (.goto 30, 3) := by decide +kernel
theorem dX8_load_47 : decode cX8_load 47 = .ok (.aload_n 0, 1) := by decide +kernel
theorem dX8_load_48 : decode cX8_load 48 = .ok (.getfield 9, 3) := by decide +kernel
theorem dX8_load_51 : decode cX8_load 51 = .ok (.iload_n 1, 1) := by decide +kernel
theorem dX8_load_52 : decode cX8_load 52 = .ok (.invokestatic 51, 3) := by decide +kernel
theorem dX8_load_55 : decode cX8_load 55 = .ok (.bipush 8, 2) := by decide +kernel
theorem dX8_load_57 : decode cX8_load 57 = .ok (.iadd, 1) := by decide +kernel
theorem dX8_load_58 : decode cX8_load 58 = .ok (.iaload, 1) := by decide +kernel
theorem dX8_load_59 : decode cX8_load 59 = .ok (.i2d, 1) := by decide +kernel
theorem dX8_load_60 : decode cX8_load 60 = .ok (.aload_n 0, 1) := by decide +kernel
theorem dX8_load_61 : decode cX8_load 61 = .ok (.getfield 9, 3) := by decide +kernel
theorem dX8_load_64 : decode cX8_load 64 = .ok (.iload_n 1, 1) := by decide +kernel
theorem dX8_load_65 : decode cX8_load 65 = .ok (.invokestatic 51, 3) := by decide +kernel
theorem dX8_load_68 : decode cX8_load 68 = .ok (.bipush 9, 2) := by decide +kernel
theorem dX8_load_70 : decode cX8_load 70 = .ok (.iadd, 1) := by decide +kernel
theorem dX8_load_71 : decode cX8_load 71 = .ok (.iaload, 1) := by decide +kernel
theorem dX8_load_72 : decode cX8_load 72 = .ok (.i2d, 1) := by decide +kernel
theorem dX8_load_73 : decode cX8_load 73 = .ok (.ddiv, 1) := by decide +kernel
theorem dX8_load_74 : decode cX8_load 74 = .ok (.dreturn, 1) := by decide +kernel
theorem dX8_append_0 : decode cX8_append 0 = .ok (.aload_n 0, 1) := by decide +kernel
theorem dX8_append_1 : decode cX8_append 1 = .ok (.iload_n 1, 1) := by decide +kernel
theorem dX8_append_2 : decode cX8_append 2 = .ok (.bipush 32, 2) := by decide +kernel
theorem dX8_append_4 : decode cX8_append 4 = .ok (.bipush 126, 2) := by decide +kernel
theorem dX8_append_6 : decode cX8_append 6 = .ok (.invokestatic 47, 3) := by decide +kernel
theorem dX8_append_9 : decode cX8_append 9 = .ok (.ifCond .ne 7, 3) := by decide +kernel
theorem dX8_append_12 : decode cX8_append 12 = .ok (.iconst 1, 1) := by decide +kernel
theorem dX8_append_13 : decode cX8_append 13 = .ok (.goto 17, 3) := by decide +kernel
theorem dX8_append_16 : decode cX8_append 16 = .ok (.aload_n 0, 1) := by decide +kernel
theorem dX8_append_17 : decode cX8_append 17 = .ok (.getfield 172, 3) := by decide +kernel
theorem dX8_append_20 : decode cX8_append 20 = .ok (.bipush 60, 2) := by decide +kernel
theorem dX8_append_22 : decode cX8_append 22 = .ok (.if_icmp .ne 7, 3) := by decide +kernel
theorem dX8_append_25 : decode cX8_append 25 = .ok (.iconst 2, 1) := by decide +kernel
theorem dX8_append_26 : decode cX8_append 26 = .ok (.goto 4, 3) := by decide +kernel
theorem dX8_append_29 : decode cX8_append 29 = .ok (.iconst 0, 1) := by decide +kernel
theorem dX8_append_30 : decode cX8_append 30 = .ok (.putfield 41, 3) := by decide +kernel
theorem dX8_append_33 : decode cX8_append 33 = .ok (.aload_n 0, 1) := by decide +kernel
theorem dX8_append_34 : decode cX8_append 34 = .ok (.getfield 41, 3) := by decide +kernel
theorem dX8_append_37 : decode cX8_append 37 = .ok (.ifCond .le 5, 3) := by decide +kernel
theorem dX8_append_40 : decode cX8_append 40 = .ok (.iconst 0, 1) := by decide +kernel
theorem dX8_append_41 : decode cX8_append 41 = .ok (.ireturn, 1) := by decide +kernel
theorem dX8_append_42 : decode cX8_append 42 = .ok (.aload_n 0, 1) := by decide +kernel
theorem dX8_append_43 : decode cX8_append 43 = .ok (.getfield 25, 3) := by decide +kernel
theorem dX8_append_46 : decode cX8_append 46 = .ok (.aload_n 0, 1) := by decide +kernel
theorem dX8_append_47 : decode cX8_append 47 = .ok (.getfield 172, 3) := by decide +kernel
theorem dX8_append_50 : decode cX8_append 50 = .ok (.iload_n 1, 1) := by decide +kernel
theorem dX8_append_51 : decode cX8_append 51 = .ok (.iastore, 1) := by decide +kernel
theorem dX8_append_52 : decode cX8_append 52 = .ok (.aload_n 0, 1) := by decide +kernel
theorem dX8_append_53 : decode cX8_append 53 = .ok (.dup, 1) := by decide +kernel
theorem dX8_append_54 : decode cX8_append 54 = .ok (.getfield 172, 3) := by decide +kernel
theorem dX8_append_57 : decode cX8_append 57 = .ok (.iconst 1, 1) := by decide +kernel
theorem dX8_append_58 : decode cX8_append 58 = .ok (.iadd, 1) := by decide +kernel
theorem dX8_append_59 : decode cX8_append 59 = .ok (.putfield 172, 3) := by decide +kernel
theorem dX8_append_62 : decode cX8_append 62 = .ok (.aload_n 0, 1) := by decide +kernel
theorem dX8_append_63 : decode cX8_append 63 = .ok (.getfield 172, 3) := by decide +kernel
theorem dX8_append_66 : decode cX8_append 66 = .ok (.ireturn, 1) := by decide +kernel
theorem dX8_here_0 : decode cX8_here 0 = .ok (.aload_n 0, 1) := by decide +kernel
theorem dX8_here_1 : decode cX8_here 1 = .ok (.getfield 175, 3) := by decide +kernel
theorem dX8_here_4 : decode cX8_here 4 = .ok (.aload_n 0, 1) := by decide +kernel
theorem dX8_here_5 : decode cX8_here 5 = .ok (.getfield 172, 3) := by decide +kernel
theorem dX8_here_8 : decode cX8_here 8 = .ok (.if_icmp .ge 15, 3) := by decide +kernel
theorem dX8_here_11 : decode cX8_here 11 = .ok (.aload_n 0, 1) := by decide +kernel
theorem dX8_here_12 : decode cX8_here 12 = .ok (.getfield 25, 3) := by decide +kernel
theorem dX8_here_15 : decode cX8_here 15 = .ok (.aload_n 0, 1) := by decide +kernel
theorem dX8_here_16 : decode cX8_here 16 = .ok (.getfield 175, 3) := by decide +kernel
theorem dX8_here_19 : decode cX8_here 19 = .ok (.iaload, 1) := by decide +kernel
theorem dX8_here_20 : decode cX8_here 20 = .ok (.goto 4, 3) := by decide +kernel
theorem dX8_here_23 : decode cX8_here 23 = .ok (.iconst (-1), 1) := by decide +kernel
theorem dX8_here_24 : decode cX8_here 24 = .ok (.ireturn, 1) := by decide +kernel
theorem dX8_digit_0 : decode cX8_digit 0 = .ok (.aload_n 0, 1) := by decide +kernel
theorem dX8_digit_1 : decode cX8_digit 1 = .ok (.aload_n 0, 1) := by decide +kernel
theorem dX8_digit_2 : decode cX8_digit 2 = .ok (.getfield 178, 3) := by decide +kernel
theorem dX8_digit_5 : decode cX8_digit 5 = .ok (.ifCond .ne 21, 3) := by decide +kernel
theorem dX8_digit_8 : decode cX8_digit 8 = .ok (.aload_n 0, 1) := by decide +kernel
theorem dX8_digit_9 : decode cX8_digit 9 = .ok (.invokevirtual 182, 3) := by decide +kernel
theorem dX8_digit_12 : decode cX8_digit 12 = .ok (.bipush 48, 2) := by decide +kernel
theorem dX8_digit_14 : decode cX8_digit 14 = .ok (.iload_n 1, 1) := by decide +kernel
theorem dX8_digit_15 : decode cX8_digit 15 = .ok (.iadd, 1) := by decide +kernel
theorem dX8_digit_16 : decode cX8_digit 16 = .ok (.bipush 48, 2) := by decide +kernel
theorem dX8_digit_18 : decode cX8_digit 18 = .ok (.iload_n 2, 1) := by decide +kernel
theorem dX8_digit_19 : decode cX8_digit 19 = .ok (.iadd, 1) := by decide +kernel
theorem dX8_digit_20 : decode cX8_digit 20 = .ok (.invokestatic 47, 3) := by decide +kernel
theorem dX8_digit_23 : decode cX8_digit 23 = .ok (.ifCond .ne 7, 3) := by decide +kernel
theorem dX8_digit_26 : decode cX8_digit 26 = .ok (.iconst 1, 1) := by decide +kernel
theorem dX8_digit_27 : decode cX8_digit 27 = .ok (.goto 4, 3) := by decide +kernel
theorem dX8_digit_30 : decode cX8_digit 30 = .ok (.iconst 0, 1) := by decide +kernel
theorem dX8_digit_31 : decode cX8_digit 31 = .ok (.putfield 178, 3) := by decide +kernel
theorem dX8_digit_34 : decode cX8_digit 34 = .ok (.aload_n 0, 1) := by decide +kernel
theorem dX8_digit_35 : decode cX8_digit 35 = .ok (.dup, 1) := by decide +kernel
theorem dX8_digit_36 : decode cX8_digit 36 = .ok (.getfield 175, 3) := by decide +kernel
theorem dX8_digit_39 : decode cX8_digit 39 = .ok (.aload_n 0, 1) := by decide +kernel
theorem dX8_digit_40 : decode cX8_digit 40 = .ok (.getfield 178, 3) := by decide +kernel
theorem dX8_digit_43 : decode cX8_digit 43 = .ok (.ifCond .eq 7, 3) := by decide +kernel
theorem dX8_digit_46 : decode cX8_digit 46 = .ok (.iconst 0, 1) := by decide +kernel
theorem dX8_digit_47 : decode cX8_digit 47 = .ok (.goto 4, 3) := by decide +kernel
theorem dX8_digit_50 : decode cX8_digit 50 = .ok (.iconst 1, 1) := by decide +kernel
theorem dX8_digit_51 : decode cX8_digit 51 = .ok (.iadd, 1) := by decide +kernel
theorem dX8_digit_52 : decode cX8_digit 52 = .ok (.putfield 175, 3) := by decide +kernel
theorem dX8_digit_55 : decode cX8_digit 55 = .ok (.aload_n 0, 1) := by decide +kernel
theorem dX8_digit_56 : decode cX8_digit 56 = .ok (.getfield 178, 3) := by decide +kernel
theorem dX8_digit_59 : decode cX8_digit 59 = .ok (.ifCond .eq 7, 3) := by decide +kernel
theorem dX8_digit_62 : decode cX8_digit 62 = .ok (.iconst 0, 1) := by decide +kernel
theorem dX8_digit_63 : decode cX8_digit 63 = .ok (.goto 17, 3) := by decide +kernel
theorem dX8_digit_66 : decode cX8_digit 66 = .ok (.aload_n 0, 1) := by decide +kernel
theorem dX8_digit_67 : decode cX8_digit 67 = .ok (.getfield 25, 3) := by decide +kernel
theorem dX8_digit_70 : decode cX8_digit 70 = .ok (.aload_n 0, 1) := by decide +kernel
theorem dX8_digit_71 : decode cX8_digit 71 = .ok (.getfield 175, 3) := by decide +kernel
theorem dX8_digit_74 : decode cX8_digit 74 = .ok (.iconst 1, 1) := by decide +kernel
theorem dX8_digit_75 : decode cX8_digit 75 = .ok (.isub, 1) := by decide +kernel
theorem dX8_digit_76 : decode cX8_digit 76 = .ok (.iaload, 1) := by decide +kernel
theorem dX8_digit_77 : decode cX8_digit 77 = .ok (.bipush 48, 2) := by decide +kernel
theorem dX8_digit_79 : decode cX8_digit 79 = .ok (.isub, 1) := by decide +kernel
theorem dX8_digit_80 : decode cX8_digit 80 = .ok (.ireturn, 1) := by decide +kernel
theorem dX8_take_0 : decode cX8_take 0 = .ok (.aload_n 0, 1) := by decide +kernel
theorem dX8_take_1 : decode cX8_take 1 = .ok (.aload_n 0, 1) := by decide +kernel
theorem dX8_take_2 : decode cX8_take 2 = .ok (.getfield 178, 3) := by decide +kernel
theorem dX8_take_5 : decode cX8_take 5 = .ok (.ifCond .ne 11, 3) := by decide +kernel
theorem dX8_take_8 : decode cX8_take 8 = .ok (.aload_n 0, 1) := by decide +kernel
theorem dX8_take_9 : decode cX8_take 9 = .ok (.invokevirtual 182, 3) := by decide +kernel
theorem dX8_take_12 : decode cX8_take 12 = .ok (.iload_n 1, 1) := by decide +kernel
theorem dX8_take_13 : decode cX8_take 13 = .ok (.if_icmp .eq 7, 3) := by decide +kernel
theorem dX8_take_16 : decode cX8_take 16 = .ok (.iconst 1, 1) := by decide +kernel
theorem dX8_take_17 : decode cX8_take 17 = .ok (.goto 4, 3) := by decide +kernel
theorem dX8_take_20 : decode cX8_take 20 = .ok (.iconst 0, 1) := by decide +kernel
theorem dX8_take_21 : decode cX8_take 21 = .ok (.putfield 178, 3) := by decide +kernel
theorem dX8_take_24 : decode cX8_take 24 = .ok (.aload_n 0, 1) := by decide +kernel
theorem dX8_take_25 : decode cX8_take 25 = .ok (.dup, 1) := by decide +kernel
theorem dX8_take_26 : decode cX8_take 26 = .ok (.getfield 175, 3) := by decide +kernel
theorem dX8_take_29 : decode cX8_take 29 = .ok (.aload_n 0, 1) := by decide +kernel
theorem dX8_take_30 : decode cX8_take 30 = .ok (.getfield 178, 3) := by decide +kernel
theorem dX8_take_33 : decode cX8_take 33 = .ok (.ifCond .eq 7, 3) := by decide +kernel
theorem dX8_take_36 : decode cX8_take 36 = .ok (.iconst 0, 1) := by decide +kernel
theorem dX8_take_37 : decode cX8_take 37 = .ok (.goto 4, 3) := by decide +kernel
theorem dX8_take_40 : decode cX8_take 40 = .ok (.iconst 1, 1) := by decide +kernel
theorem dX8_take_41 : decode cX8_take 41 = .ok (.iadd, 1) := by decide +kernel
theorem dX8_take_42 : decode cX8_take 42 = .ok (.putfield 175, 3) := by decide +kernel
theorem dX8_take_45 : decode cX8_take 45 = .ok (.return_, 1) := by decide +kernel
theorem dX8_guestNumber_0 : decode cX8_guestNumber 0 = .ok (.aload_n 0, 1) := by decide +kernel
theorem dX8_guestNumber_1 : decode cX8_guestNumber 1 = .ok (.iconst 0, 1) := by decide +kernel
theorem dX8_guestNumber_2 : decode cX8_guestNumber 2 = .ok (.bipush 9, 2) := by decide +kernel
theorem dX8_guestNumber_4 : decode cX8_guestNumber 4 = .ok (.invokevirtual 185, 3) := by decide +kernel
theorem dX8_guestNumber_7 : decode cX8_guestNumber 7 = .ok (.istore_n 1, 1) := by decide +kernel
theorem dX8_guestNumber_8 : decode cX8_guestNumber 8 = .ok (.aload_n 0, 1) := by decide +kernel
theorem dX8_guestNumber_9 : decode cX8_guestNumber 9 = .ok (.getfield 178, 3) := by decide +kernel
theorem dX8_guestNumber_12 : decode cX8_guestNumber 12 = .ok (.ifCond .ne 34, 3) := by decide +kernel
theorem dX8_guestNumber_15 : decode cX8_guestNumber 15 = .ok (.iload_n 1, 1) := by decide +kernel
theorem dX8_guestNumber_16 : decode cX8_guestNumber 16 = .ok (.iconst 1, 1) := by decide +kernel
theorem dX8_guestNumber_17 : decode cX8_guestNumber 17 = .ok (.if_icmp .ne 29, 3) := by decide +kernel
theorem dX8_guestNumber_20 : decode cX8_guestNumber 20 = .ok (.aload_n 0, 1) := by decide +kernel
theorem dX8_guestNumber_21 : decode cX8_guestNumber 21 = .ok (.invokevirtual 182, 3) := by decide +kernel
theorem dX8_guestNumber_24 : decode cX8_guestNumber 24 = .ok (.bipush 48, 2) := by decide +kernel
theorem dX8_guestNumber_26 : decode cX8_guestNumber 26 = .ok (.bipush 53, 2) := by decide +kernel
theorem dX8_guestNumber_28 : decode cX8_guestNumber 28 = .ok (.invokestatic 47, 3) := by decide +kernel
theorem dX8_guestNumber_31 : decode cX8_guestNumber 31 = .ok (.ifCond .eq 15, 3) := by decide +kernel
theorem dX8_guestNumber_34 : decode cX8_guestNumber 34 = .ok (.bipush 10, 2) := by decide +kernel
theorem dX8_guestNumber_36 : decode cX8_guestNumber 36 = .ok (.aload_n 0, 1) := by decide +kernel
theorem dX8_guestNumber_37 : decode cX8_guestNumber 37 = .ok (.iconst 0, 1) := by decide +kernel
theorem dX8_guestNumber_38 : decode cX8_guestNumber 38 = .ok (.iconst 5, 1) := by decide +kernel
theorem dX8_guestNumber_39 : decode cX8_guestNumber 39 = .ok (.invokevirtual 185, 3) := by decide +kernel
theorem dX8_guestNumber_42 : decode cX8_guestNumber 42 = .ok (.iadd, 1) := by decide +kernel
theorem dX8_guestNumber_43 : decode cX8_guestNumber 43 = .ok (.goto 4, 3) := by decide +kernel
theorem dX8_guestNumber_46 : decode cX8_guestNumber 46 = .ok (.iload_n 1, 1) := by decide +kernel
theorem dX8_guestNumber_47 : decode cX8_guestNumber 47 = .ok (.ireturn, 1) := by decide +kernel
theorem dX8_entry_0 : decode cX8_entry 0 = .ok (.aload_n 0, 1) := by decide +kernel
theorem dX8_entry_1 : decode cX8_entry 1 = .ok (.invokevirtual 182, 3) := by decide +kernel
theorem dX8_entry_4 : decode cX8_entry 4 = .ok (.istore_n 1, 1) := by decide +kernel
theorem dX8_entry_5 : decode cX8_entry 5 = .ok (.aload_n 0, 1) := by decide +kernel
theorem dX8_entry_6 : decode cX8_entry 6 = .ok (.iload_n 1, 1) := by decide +kernel
theorem dX8_entry_7 : decode cX8_entry 7 = .ok (.bipush 103, 2) := by decide +kernel
theorem dX8_entry_9 : decode cX8_entry 9 = .ok (.if_icmp .eq 31, 3) := by decide +kernel
theorem dX8_entry_12 : decode cX8_entry 12 = .ok (.iload_n 1, 1) := by decide +kernel
theorem dX8_entry_13 : decode cX8_entry 13 = .ok (.bipush 113, 2) := by decide +kernel
theorem dX8_entry_15 : decode cX8_entry 15 = .ok (.if_icmp .eq 25, 3) := by decide +kernel
theorem dX8_entry_18 : decode cX8_entry 18 = .ok (.iload_n 1, 1) := by decide +kernel
theorem dX8_entry_19 : decode cX8_entry 19 = .ok (.bipush 115, 2) := by decide +kernel
theorem dX8_entry_21 : decode cX8_entry 21 = .ok (.if_icmp .eq 19, 3) := by decide +kernel
theorem dX8_entry_24 : decode cX8_entry 24 = .ok (.iload_n 1, 1) := by decide +kernel
theorem dX8_entry_25 : decode cX8_entry 25 = .ok (.bipush 119, 2) := by decide +kernel
theorem dX8_entry_27 : decode cX8_entry 27 = .ok (.if_icmp .eq 13, 3) := by decide +kernel
theorem dX8_entry_30 : decode cX8_entry 30 = .ok (.iload_n 1, 1) := by decide +kernel
theorem dX8_entry_31 : decode cX8_entry 31 = .ok (.bipush 116, 2) := by decide +kernel
theorem dX8_entry_33 : decode cX8_entry 33 = .ok (.if_icmp .eq 7, 3) := by decide +kernel
theorem dX8_entry_36 : decode cX8_entry 36 = .ok (.iconst 1, 1) := by decide +kernel
theorem dX8_entry_37 : decode cX8_entry 37 = .ok (.goto 4, 3) := by decide +kernel
theorem dX8_entry_40 : decode cX8_entry 40 = .ok (.iconst 0, 1) := by decide +kernel
theorem dX8_entry_41 : decode cX8_entry 41 = .ok (.putfield 178, 3) := by decide +kernel
theorem dX8_entry_44 : decode cX8_entry 44 = .ok (.aload_n 0, 1) := by decide +kernel
theorem dX8_entry_45 : decode cX8_entry 45 = .ok (.dup, 1) := by decide +kernel
theorem dX8_entry_46 : decode cX8_entry 46 = .ok (.getfield 175, 3) := by decide +kernel
theorem dX8_entry_49 : decode cX8_entry 49 = .ok (.aload_n 0, 1) := by decide +kernel
theorem dX8_entry_50 : decode cX8_entry 50 = .ok (.getfield 178, 3) := by decide +kernel
theorem dX8_entry_53 : decode cX8_entry 53 = .ok (.ifCond .eq 7, 3) := by decide +kernel
theorem dX8_entry_56 : decode cX8_entry 56 = .ok (.iconst 0, 1) := by decide +kernel
theorem dX8_entry_57 : decode cX8_entry 57 = .ok (.goto 4, 3) := by decide +kernel
theorem dX8_entry_60 : decode cX8_entry 60 = .ok (.iconst 1, 1) := by decide +kernel
theorem dX8_entry_61 : decode cX8_entry 61 = .ok (.iadd, 1) := by decide +kernel
theorem dX8_entry_62 : decode cX8_entry 62 = .ok (.putfield 175, 3) := by decide +kernel
theorem dX8_entry_65 : decode cX8_entry 65 = .ok (.aload_n 0, 1) := by decide +kernel
theorem dX8_entry_66 : decode cX8_entry 66 = .ok (.getfield 28, 3) := by decide +kernel
theorem dX8_entry_69 : decode cX8_entry 69 = .ok (.aload_n 0, 1) := by decide +kernel
theorem dX8_entry_70 : decode cX8_entry 70 = .ok (.getfield 188, 3) := by decide +kernel
theorem dX8_entry_73 : decode cX8_entry 73 = .ok (.iload_n 1, 1) := by decide +kernel
theorem dX8_entry_74 : decode cX8_entry 74 = .ok (.iastore, 1) := by decide +kernel
theorem dX8_entry_75 : decode cX8_entry 75 = .ok (.aload_n 0, 1) := by decide +kernel
theorem dX8_entry_76 : decode cX8_entry 76 = .ok (.getfield 34, 3) := by decide +kernel
theorem dX8_entry_79 : decode cX8_entry 79 = .ok (.aload_n 0, 1) := by decide +kernel
theorem dX8_entry_80 : decode cX8_entry 80 = .ok (.getfield 188, 3) := by decide +kernel
theorem dX8_entry_83 : decode cX8_entry 83 = .ok (.iconst 0, 1) := by decide +kernel
theorem dX8_entry_84 : decode cX8_entry 84 = .ok (.iastore, 1) := by decide +kernel
theorem dX8_entry_85 : decode cX8_entry 85 = .ok (.iload_n 1, 1) := by decide +kernel
theorem dX8_entry_86 : decode cX8_entry 86 = .ok (.bipush 113, 2) := by decide +kernel
theorem dX8_entry_88 : decode cX8_entry 88 = .ok (.if_icmp .eq 9, 3) := by decide +kernel
theorem dX8_entry_91 : decode cX8_entry 91 = .ok (.iload_n 1, 1) := by decide +kernel
theorem dX8_entry_92 : decode cX8_entry 92 = .ok (.bipush 115, 2) := by decide +kernel
theorem dX8_entry_94 : decode cX8_entry 94 = .ok (.if_icmp .ne 51, 3) := by decide +kernel
theorem dX8_entry_97 : decode cX8_entry 97 = .ok (.aload_n 0, 1) := by decide +kernel
theorem dX8_entry_98 : decode cX8_entry 98 = .ok (.getfield 31, 3) := by decide +kernel
theorem dX8_entry_101 : decode cX8_entry 101 = .ok (.aload_n 0, 1) := by decide +kernel
theorem dX8_entry_102 : decode cX8_entry 102 = .ok (.getfield 188, 3) := by decide +kernel
theorem dX8_entry_105 : decode cX8_entry 105 = .ok (.aload_n 0, 1) := by decide +kernel
theorem dX8_entry_106 : decode cX8_entry 106 = .ok (.invokevirtual 191, 3) := by decide +kernel
theorem dX8_entry_109 : decode cX8_entry 109 = .ok (.iastore, 1) := by decide +kernel
theorem dX8_entry_110 : decode cX8_entry 110 = .ok (.aload_n 0, 1) := by decide +kernel
theorem dX8_entry_111 : decode cX8_entry 111 = .ok (.bipush 45, 2) := by decide +kernel
theorem dX8_entry_113 : decode cX8_entry 113 = .ok (.invokevirtual 194, 3) := by decide +kernel
theorem dX8_entry_116 : decode cX8_entry 116 = .ok (.aload_n 0, 1) := by decide +kernel
theorem dX8_entry_117 : decode cX8_entry 117 = .ok (.getfield 34, 3) := by decide +kernel
theorem dX8_entry_120 : decode cX8_entry 120 = .ok (.aload_n 0, 1) := by decide +kernel
theorem dX8_entry_121 : decode cX8_entry 121 = .ok (.getfield 188, 3) := by decide +kernel
theorem dX8_entry_124 : decode cX8_entry 124 = .ok (.aload_n 0, 1) := by decide +kernel
theorem dX8_entry_125 : decode cX8_entry 125 = .ok (.iconst 0, 1) := by decide +kernel
theorem dX8_entry_126 : decode cX8_entry 126 = .ok (.iload_n 1, 1) := by decide +kernel
theorem dX8_entry_127 : decode cX8_entry 127 = .ok (.bipush 113, 2) := by decide +kernel
theorem dX8_entry_129 : decode cX8_entry 129 = .ok (.if_icmp .ne 7, 3) := by decide +kernel
theorem dX8_entry_132 : decode cX8_entry 132 = .ok (.iconst 5, 1) := by decide +kernel
theorem dX8_entry_133 : decode cX8_entry 133 = .ok (.goto 5, 3) := by decide +kernel
theorem dX8_entry_136 : decode cX8_entry 136 = .ok (.bipush 9, 2) := by decide +kernel
theorem dX8_entry_138 : decode cX8_entry 138 = .ok (.invokevirtual 185, 3) := by decide +kernel
theorem dX8_entry_141 : decode cX8_entry 141 = .ok (.iastore, 1) := by decide +kernel
theorem dX8_entry_142 : decode cX8_entry 142 = .ok (.goto 69, 3) := by decide +kernel
theorem dX8_entry_145 : decode cX8_entry 145 = .ok (.iload_n 1, 1) := by decide +kernel
theorem dX8_entry_146 : decode cX8_entry 146 = .ok (.bipush 103, 2) := by decide +kernel
theorem dX8_entry_148 : decode cX8_entry 148 = .ok (.if_icmp .ne 37, 3) := by decide +kernel
theorem dX8_entry_151 : decode cX8_entry 151 = .ok (.aload_n 0, 1) := by decide +kernel
theorem dX8_entry_152 : decode cX8_entry 152 = .ok (.getfield 31, 3) := by decide +kernel
theorem dX8_entry_155 : decode cX8_entry 155 = .ok (.aload_n 0, 1) := by decide +kernel
theorem dX8_entry_156 : decode cX8_entry 156 = .ok (.getfield 188, 3) := by decide +kernel
theorem dX8_entry_159 : decode cX8_entry 159 = .ok (.aload_n 0, 1) := by decide +kernel
theorem dX8_entry_160 : decode cX8_entry 160 = .ok (.iconst 0, 1) := by decide +kernel
theorem dX8_entry_161 : decode cX8_entry 161 = .ok (.bipush 7, 2) := by decide +kernel
theorem dX8_entry_163 : decode cX8_entry 163 = .ok (.invokevirtual 185, 3) := by decide +kernel
theorem dX8_entry_166 : decode cX8_entry 166 = .ok (.iastore, 1) := by decide +kernel
theorem dX8_entry_167 : decode cX8_entry 167 = .ok (.aload_n 0, 1) := by decide +kernel
theorem dX8_entry_168 : decode cX8_entry 168 = .ok (.getfield 34, 3) := by decide +kernel
theorem dX8_entry_171 : decode cX8_entry 171 = .ok (.aload_n 0, 1) := by decide +kernel
theorem dX8_entry_172 : decode cX8_entry 172 = .ok (.getfield 188, 3) := by decide +kernel
theorem dX8_entry_175 : decode cX8_entry 175 = .ok (.aload_n 0, 1) := by decide +kernel
theorem dX8_entry_176 : decode cX8_entry 176 = .ok (.iconst 1, 1) := by decide +kernel
theorem dX8_entry_177 : decode cX8_entry 177 = .ok (.iconst 3, 1) := by decide +kernel
theorem dX8_entry_178 : decode cX8_entry 178 = .ok (.invokevirtual 185, 3) := by decide +kernel
theorem dX8_entry_181 : decode cX8_entry 181 = .ok (.iastore, 1) := by decide +kernel
theorem dX8_entry_182 : decode cX8_entry 182 = .ok (.goto 29, 3) := by decide +kernel
theorem dX8_entry_185 : decode cX8_entry 185 = .ok (.aload_n 0, 1) := by decide +kernel
theorem dX8_entry_186 : decode cX8_entry 186 = .ok (.getfield 31, 3) := by decide +kernel
theorem dX8_entry_189 : decode cX8_entry 189 = .ok (.aload_n 0, 1) := by decide +kernel
theorem dX8_entry_190 : decode cX8_entry 190 = .ok (.getfield 188, 3) := by decide +kernel
theorem dX8_entry_193 : decode cX8_entry 193 = .ok (.aload_n 0, 1) := by decide +kernel
theorem dX8_entry_194 : decode cX8_entry 194 = .ok (.iload_n 1, 1) := by decide +kernel
theorem dX8_entry_195 : decode cX8_entry 195 = .ok (.bipush 116, 2) := by decide +kernel
theorem dX8_entry_197 : decode cX8_entry 197 = .ok (.if_icmp .ne 7, 3) := by decide +kernel
theorem dX8_entry_200 : decode cX8_entry 200 = .ok (.iconst 1, 1) := by decide +kernel
theorem dX8_entry_201 : decode cX8_entry 201 = .ok (.goto 4, 3) := by decide +kernel
theorem dX8_entry_204 : decode cX8_entry 204 = .ok (.iconst 0, 1) := by decide +kernel
theorem dX8_entry_205 : decode cX8_entry 205 = .ok (.bipush 9, 2) := by decide +kernel
theorem dX8_entry_207 : decode cX8_entry 207 = .ok (.invokevirtual 185, 3) := by decide +kernel
theorem dX8_entry_210 : decode cX8_entry 210 = .ok (.iastore, 1) := by decide +kernel
theorem dX8_entry_211 : decode cX8_entry 211 = .ok (.aload_n 0, 1) := by decide +kernel
theorem dX8_entry_212 : decode cX8_entry 212 = .ok (.bipush 59, 2) := by decide +kernel
theorem dX8_entry_214 : decode cX8_entry 214 = .ok (.invokevirtual 194, 3) := by decide +kernel
theorem dX8_entry_217 : decode cX8_entry 217 = .ok (.aload_n 0, 1) := by decide +kernel
theorem dX8_entry_218 : decode cX8_entry 218 = .ok (.dup, 1) := by decide +kernel
theorem dX8_entry_219 : decode cX8_entry 219 = .ok (.getfield 188, 3) := by decide +kernel
theorem dX8_entry_222 : decode cX8_entry 222 = .ok (.iconst 1, 1) := by decide +kernel
theorem dX8_entry_223 : decode cX8_entry 223 = .ok (.iadd, 1) := by decide +kernel
theorem dX8_entry_224 : decode cX8_entry 224 = .ok (.putfield 188, 3) := by decide +kernel
theorem dX8_entry_227 : decode cX8_entry 227 = .ok (.return_, 1) := by decide +kernel
theorem dX8_isText_0 : decode cX8_isText 0 = .ok (.aload_n 0, 1) := by decide +kernel
theorem dX8_isText_1 : decode cX8_isText 1 = .ok (.iconst 0, 1) := by decide +kernel
theorem dX8_isText_2 : decode cX8_isText 2 = .ok (.putfield 175, 3) := by decide +kernel
theorem dX8_isText_5 : decode cX8_isText 5 = .ok (.aload_n 0, 1) := by decide +kernel
theorem dX8_isText_6 : decode cX8_isText 6 = .ok (.iconst 0, 1) := by decide +kernel
theorem dX8_isText_7 : decode cX8_isText 7 = .ok (.putfield 178, 3) := by decide +kernel
theorem dX8_isText_10 : decode cX8_isText 10 = .ok (.aload_n 0, 1) := by decide +kernel
theorem dX8_isText_11 : decode cX8_isText 11 = .ok (.iconst 0, 1) := by decide +kernel
theorem dX8_isText_12 : decode cX8_isText 12 = .ok (.putfield 188, 3) := by decide +kernel
theorem dX8_isText_15 : decode cX8_isText 15 = .ok (.aload_n 0, 1) := by decide +kernel
theorem dX8_isText_16 : decode cX8_isText 16 = .ok (.invokevirtual 197, 3) := by decide +kernel
theorem dX8_isText_19 : decode cX8_isText 19 = .ok (.aload_n 0, 1) := by decide +kernel
theorem dX8_isText_20 : decode cX8_isText 20 = .ok (.getfield 178, 3) := by decide +kernel
theorem dX8_isText_23 : decode cX8_isText 23 = .ok (.ifCond .ne 14, 3) := by decide +kernel
theorem dX8_isText_26 : decode cX8_isText 26 = .ok (.aload_n 0, 1) := by decide +kernel
theorem dX8_isText_27 : decode cX8_isText 27 = .ok (.getfield 175, 3) := by decide +kernel
theorem dX8_isText_30 : decode cX8_isText 30 = .ok (.aload_n 0, 1) := by decide +kernel
theorem dX8_isText_31 : decode cX8_isText 31 = .ok (.getfield 172, 3) := by decide +kernel
theorem dX8_isText_34 : decode cX8_isText 34 = .ok (.if_icmp .lt (-19), 3) := by decide +kernel
theorem dX8_isText_37 : decode cX8_isText 37 = .ok (.aload_n 0, 1) := by decide +kernel
theorem dX8_isText_38 : decode cX8_isText 38 = .ok (.getfield 178, 3) := by decide +kernel
theorem dX8_isText_41 : decode cX8_isText 41 = .ok (.ifCond .ne 7, 3) := by decide +kernel
theorem dX8_isText_44 : decode cX8_isText 44 = .ok (.iconst 1, 1) := by decide +kernel
theorem dX8_isText_45 : decode cX8_isText 45 = .ok (.goto 4, 3) := by decide +kernel
theorem dX8_isText_48 : decode cX8_isText 48 = .ok (.iconst 0, 1) := by decide +kernel
theorem dX8_isText_49 : decode cX8_isText 49 = .ok (.ireturn, 1) := by decide +kernel
theorem dX8_does_0 : decode cX8_does 0 = .ok (.aload_n 0, 1) := by decide +kernel
theorem dX8_does_1 : decode cX8_does 1 = .ok (.getfield 31, 3) := by decide +kernel
theorem dX8_does_4 : decode cX8_does 4 = .ok (.iload_n 1, 1) := by decide +kernel
theorem dX8_does_5 : decode cX8_does 5 = .ok (.iaload, 1) := by decide +kernel
theorem dX8_does_6 : decode cX8_does 6 = .ok (.istore_n 2, 1) := by decide +kernel
theorem dX8_does_7 : decode cX8_does 7 = .ok (.aload_n 0, 1) := by decide +kernel
theorem dX8_does_8 : decode cX8_does 8 = .ok (.getfield 34, 3) := by decide +kernel
theorem dX8_does_11 : decode cX8_does 11 = .ok (.iload_n 1, 1) := by decide +kernel
theorem dX8_does_12 : decode cX8_does 12 = .ok (.iaload, 1) := by decide +kernel
theorem dX8_does_13 : decode cX8_does 13 = .ok (.istore_n 3, 1) := by decide +kernel
theorem dX8_does_14 : decode cX8_does 14 = .ok (.aload_n 0, 1) := by decide +kernel
theorem dX8_does_15 : decode cX8_does 15 = .ok (.getfield 28, 3) := by decide +kernel
theorem dX8_does_18 : decode cX8_does 18 = .ok (.iload_n 1, 1) := by decide +kernel
theorem dX8_does_19 : decode cX8_does 19 = .ok (.iaload, 1) := by decide +kernel
theorem dX8_does_20 : decode cX8_does 20 = .ok (.bipush 119, 2) := by decide +kernel
theorem dX8_does_22 : decode cX8_does 22 = .ok (.if_icmp .ne 12, 3) := by decide +kernel
theorem dX8_does_25 : decode cX8_does 25 = .ok (.aload_n 0, 1) := by decide +kernel
theorem dX8_does_26 : decode cX8_does 26 = .ok (.getfield 9, 3) := by decide +kernel
theorem dX8_does_29 : decode cX8_does 29 = .ok (.iconst 0, 1) := by decide +kernel
theorem dX8_does_30 : decode cX8_does 30 = .ok (.iload_n 2, 1) := by decide +kernel
theorem dX8_does_31 : decode cX8_does 31 = .ok (.iastore, 1) := by decide +kernel
theorem dX8_does_32 : decode cX8_does 32 = .ok (.iconst 1, 1) := by decide +kernel
theorem dX8_does_33 : decode cX8_does 33 = .ok (.ireturn, 1) := by decide +kernel
theorem dX8_does_34 : decode cX8_does 34 = .ok (.aload_n 0, 1) := by decide +kernel
theorem dX8_does_35 : decode cX8_does 35 = .ok (.getfield 28, 3) := by decide +kernel
theorem dX8_does_38 : decode cX8_does 38 = .ok (.iload_n 1, 1) := by decide +kernel
theorem dX8_does_39 : decode cX8_does 39 = .ok (.iaload, 1) := by decide +kernel
theorem dX8_does_40 : decode cX8_does 40 = .ok (.bipush 116, 2) := by decide +kernel
theorem dX8_does_42 : decode cX8_does 42 = .ok (.if_icmp .ne 56, 3) := by decide +kernel
theorem dX8_does_45 : decode cX8_does 45 = .ok (.aload_n 0, 1) := by decide +kernel
theorem dX8_does_46 : decode cX8_does 46 = .ok (.getfield 9, 3) := by decide +kernel
theorem dX8_does_49 : decode cX8_does 49 = .ok (.iconst 1, 1) := by decide +kernel
theorem dX8_does_50 : decode cX8_does 50 = .ok (.iaload, 1) := by decide +kernel
theorem dX8_does_51 : decode cX8_does 51 = .ok (.iload_n 2, 1) := by decide +kernel
theorem dX8_does_52 : decode cX8_does 52 = .ok (.iadd, 1) := by decide +kernel
theorem dX8_does_53 : decode cX8_does 53 = .ok (.sipush 1000, 3) := by decide +kernel
theorem dX8_does_56 : decode cX8_does 56 = .ok (.if_icmp .gt 7, 3) := by decide +kernel
theorem dX8_does_59 : decode cX8_does 59 = .ok (.iconst 1, 1) := by decide +kernel
theorem dX8_does_60 : decode cX8_does 60 = .ok (.goto 4, 3) := by decide +kernel
theorem dX8_does_63 : decode cX8_does 63 = .ok (.iconst 0, 1) := by decide +kernel
theorem dX8_does_64 : decode cX8_does 64 = .ok (.istore 4, 2) := by decide +kernel
theorem dX8_does_66 : decode cX8_does 66 = .ok (.iload 4, 2) := by decide +kernel
theorem dX8_does_68 : decode cX8_does 68 = .ok (.ifCond .eq 11, 3) := by decide +kernel
theorem dX8_does_71 : decode cX8_does 71 = .ok (.aload_n 0, 1) := by decide +kernel
theorem dX8_does_72 : decode cX8_does 72 = .ok (.iload_n 2, 1) := by decide +kernel
theorem dX8_does_73 : decode cX8_does 73 = .ok (.invokevirtual 146, 3) := by decide +kernel
theorem dX8_does_76 : decode cX8_does 76 = .ok (.goto 4, 3) := by decide +kernel
theorem dX8_does_79 : decode cX8_does 79 = .ok (.iconst 0, 1) := by decide +kernel
theorem dX8_does_80 : decode cX8_does 80 = .ok (.istore 5, 2) := by decide +kernel
theorem dX8_does_82 : decode cX8_does 82 = .ok (.iload 4, 2) := by decide +kernel
theorem dX8_does_84 : decode cX8_does 84 = .ok (.ifCond .eq 12, 3) := by decide +kernel
theorem dX8_does_87 : decode cX8_does 87 = .ok (.iload 5, 2) := by decide +kernel
theorem dX8_does_89 : decode cX8_does 89 = .ok (.ifCond .lt 7, 3) := by decide +kernel
theorem dX8_does_92 : decode cX8_does 92 = .ok (.iconst 1, 1) := by decide +kernel
theorem dX8_does_93 : decode cX8_does 93 = .ok (.goto 4, 3) := by decide +kernel
theorem dX8_does_96 : decode cX8_does 96 = .ok (.iconst 0, 1) := by decide +kernel
theorem dX8_does_97 : decode cX8_does 97 = .ok (.ireturn, 1) := by decide +kernel
theorem dX8_does_98 : decode cX8_does 98 = .ok (.aload_n 0, 1) := by decide +kernel
theorem dX8_does_99 : decode cX8_does 99 = .ok (.getfield 28, 3) := by decide +kernel
theorem dX8_does_102 : decode cX8_does 102 = .ok (.iload_n 1, 1) := by decide +kernel
theorem dX8_does_103 : decode cX8_does 103 = .ok (.iaload, 1) := by decide +kernel
theorem dX8_does_104 : decode cX8_does 104 = .ok (.bipush 103, 2) := by decide +kernel
theorem dX8_does_106 : decode cX8_does 106 = .ok (.if_icmp .ne 49, 3) := by decide +kernel
theorem dX8_does_109 : decode cX8_does 109 = .ok (.aload_n 0, 1) := by decide +kernel
theorem dX8_does_110 : decode cX8_does 110 = .ok (.getfield 9, 3) := by decide +kernel
theorem dX8_does_113 : decode cX8_does 113 = .ok (.iconst 5, 1) := by decide +kernel
theorem dX8_does_114 : decode cX8_does 114 = .ok (.iaload, 1) := by decide +kernel
theorem dX8_does_115 : decode cX8_does 115 = .ok (.bipush 16, 2) := by decide +kernel
theorem dX8_does_117 : decode cX8_does 117 = .ok (.if_icmp .ge 7, 3) := by decide +kernel
theorem dX8_does_120 : decode cX8_does 120 = .ok (.iconst 1, 1) := by decide +kernel
theorem dX8_does_121 : decode cX8_does 121 = .ok (.goto 4, 3) := by decide +kernel
theorem dX8_does_124 : decode cX8_does 124 = .ok (.iconst 0, 1) := by decide +kernel
theorem dX8_does_125 : decode cX8_does 125 = .ok (.istore 4, 2) := by decide +kernel
theorem dX8_does_127 : decode cX8_does 127 = .ok (.iload 4, 2) := by decide +kernel
theorem dX8_does_129 : decode cX8_does 129 = .ok (.ifCond .eq 23, 3) := by decide +kernel
theorem dX8_does_132 : decode cX8_does 132 = .ok (.aload_n 0, 1) := by decide +kernel
theorem dX8_does_133 : decode cX8_does 133 = .ok (.iload_n 2, 1) := by decide +kernel
theorem dX8_does_134 : decode cX8_does 134 = .ok (.iload_n 3, 1) := by decide +kernel
theorem dX8_does_135 : decode cX8_does 135 = .ok (.bipush 15, 2) := by decide +kernel
theorem dX8_does_137 : decode cX8_does 137 = .ok (.aload_n 0, 1) := by decide +kernel
theorem dX8_does_138 : decode cX8_does 138 = .ok (.getfield 9, 3) := by decide +kernel
theorem dX8_does_141 : decode cX8_does 141 = .ok (.iconst 2, 1) := by decide +kernel
theorem dX8_does_142 : decode cX8_does 142 = .ok (.iaload, 1) := by decide +kernel
theorem dX8_does_143 : decode cX8_does 143 = .ok (.aload_n 0, 1) := by decide +kernel
theorem dX8_does_144 : decode cX8_does 144 = .ok (.getfield 9, 3) := by decide +kernel
theorem dX8_does_147 : decode cX8_does 147 = .ok (.iconst 2, 1) := by decide +kernel
theorem dX8_does_148 : decode cX8_does 148 = .ok (.iaload, 1) := by decide +kernel
theorem dX8_does_149 : decode cX8_does 149 = .ok (.invokevirtual 88, 3) := by decide +kernel
theorem dX8_does_152 : decode cX8_does 152 = .ok (.iload 4, 2) := by decide +kernel
theorem dX8_does_154 : decode cX8_does 154 = .ok (.ireturn, 1) := by decide +kernel
theorem dX8_does_155 : decode cX8_does 155 = .ok (.aload_n 0, 1) := by decide +kernel
theorem dX8_does_156 : decode cX8_does 156 = .ok (.getfield 28, 3) := by decide +kernel
theorem dX8_does_159 : decode cX8_does 159 = .ok (.iload_n 1, 1) := by decide +kernel
theorem dX8_does_160 : decode cX8_does 160 = .ok (.iaload, 1) := by decide +kernel
theorem dX8_does_161 : decode cX8_does 161 = .ok (.bipush 113, 2) := by decide +kernel
theorem dX8_does_163 : decode cX8_does 163 = .ok (.if_icmp .ne 7, 3) := by decide +kernel
theorem dX8_does_166 : decode cX8_does 166 = .ok (.iconst 1, 1) := by decide +kernel
theorem dX8_does_167 : decode cX8_does 167 = .ok (.goto 4, 3) := by decide +kernel
theorem dX8_does_170 : decode cX8_does 170 = .ok (.iconst 0, 1) := by decide +kernel
theorem dX8_does_171 : decode cX8_does 171 = .ok (.istore 4, 2) := by decide +kernel
theorem dX8_does_173 : decode cX8_does 173 = .ok (.aload_n 0, 1) := by decide +kernel
theorem dX8_does_174 : decode cX8_does 174 = .ok (.iload_n 2, 1) := by decide +kernel
theorem dX8_does_175 : decode cX8_does 175 = .ok (.invokevirtual 92, 3) := by decide +kernel
theorem dX8_does_178 : decode cX8_does 178 = .ok (.ifCond .eq 27, 3) := by decide +kernel
theorem dX8_does_181 : decode cX8_does 181 = .ok (.iload 4, 2) := by decide +kernel
theorem dX8_does_183 : decode cX8_does 183 = .ok (.ifCond .eq 14, 3) := by decide +kernel
theorem dX8_does_186 : decode cX8_does 186 = .ok (.aload_n 0, 1) := by decide +kernel
theorem dX8_does_187 : decode cX8_does 187 = .ok (.iload_n 3, 1) := by decide +kernel
theorem dX8_does_188 : decode cX8_does 188 = .ok (.invokevirtual 74, 3) := by decide +kernel
theorem dX8_does_191 : decode cX8_does 191 = .ok (.ifCond .eq 14, 3) := by decide +kernel
theorem dX8_does_194 : decode cX8_does 194 = .ok (.goto 13, 3) := by decide +kernel
theorem dX8_does_197 : decode cX8_does 197 = .ok (.aload_n 0, 1) := by decide +kernel
theorem dX8_does_198 : decode cX8_does 198 = .ok (.iload_n 3, 1) := by decide +kernel
theorem dX8_does_199 : decode cX8_does 199 = .ok (.invokevirtual 81, 3) := by decide +kernel
theorem dX8_does_202 : decode cX8_does 202 = .ok (.ifCond .ne 5, 3) := by decide +kernel
theorem dX8_does_205 : decode cX8_does 205 = .ok (.iconst 0, 1) := by decide +kernel
theorem dX8_does_206 : decode cX8_does 206 = .ok (.ireturn, 1) := by decide +kernel
theorem dX8_does_207 : decode cX8_does 207 = .ok (.iload 4, 2) := by decide +kernel
theorem dX8_does_209 : decode cX8_does 209 = .ok (.ifCond .eq 12, 3) := by decide +kernel
theorem dX8_does_212 : decode cX8_does 212 = .ok (.aload_n 0, 1) := by decide +kernel
theorem dX8_does_213 : decode cX8_does 213 = .ok (.iload_n 2, 1) := by decide +kernel
theorem dX8_does_214 : decode cX8_does 214 = .ok (.iload_n 3, 1) := by decide +kernel
theorem dX8_does_215 : decode cX8_does 215 = .ok (.invokevirtual 105, 3) := by decide +kernel
theorem dX8_does_218 : decode cX8_does 218 = .ok (.goto 9, 3) := by decide +kernel
theorem dX8_does_221 : decode cX8_does 221 = .ok (.aload_n 0, 1) := by decide +kernel
theorem dX8_does_222 : decode cX8_does 222 = .ok (.iload_n 2, 1) := by decide +kernel
theorem dX8_does_223 : decode cX8_does 223 = .ok (.iload_n 3, 1) := by decide +kernel
theorem dX8_does_224 : decode cX8_does 224 = .ok (.invokevirtual 114, 3) := by decide +kernel
theorem dX8_does_227 : decode cX8_does 227 = .ok (.istore 5, 2) := by decide +kernel
theorem dX8_does_229 : decode cX8_does 229 = .ok (.aload_n 0, 1) := by decide +kernel
theorem dX8_does_230 : decode cX8_does 230 = .ok (.iload 5, 2) := by decide +kernel
theorem dX8_does_232 : decode cX8_does 232 = .ok (.ifCond .le 8, 3) := by decide +kernel
theorem dX8_does_235 : decode cX8_does 235 = .ok (.iload 5, 2) := by decide +kernel
theorem dX8_does_237 : decode cX8_does 237 = .ok (.goto 7, 3) := by decide +kernel
theorem dX8_does_240 : decode cX8_does 240 = .ok (.aload_n 0, 1) := by decide +kernel
theorem dX8_does_241 : decode cX8_does 241 = .ok (.getfield 37, 3) := by decide +kernel
theorem dX8_does_244 : decode cX8_does 244 = .ok (.putfield 37, 3) := by decide +kernel
theorem dX8_does_247 : decode cX8_does 247 = .ok (.iload 5, 2) := by decide +kernel
theorem dX8_does_249 : decode cX8_does 249 = .ok (.ifCond .ne 36, 3) := by decide +kernel
theorem dX8_does_252 : decode cX8_does 252 = .ok (.iload 4, 2) := by decide +kernel
theorem dX8_does_254 : decode cX8_does 254 = .ok (.ifCond .eq 12, 3) := by decide +kernel
theorem dX8_does_257 : decode cX8_does 257 = .ok (.aload_n 0, 1) := by decide +kernel
theorem dX8_does_258 : decode cX8_does 258 = .ok (.iload_n 2, 1) := by decide +kernel
theorem dX8_does_259 : decode cX8_does 259 = .ok (.iload_n 3, 1) := by decide +kernel
theorem dX8_does_260 : decode cX8_does 260 = .ok (.invokevirtual 111, 3) := by decide +kernel
theorem dX8_does_263 : decode cX8_does 263 = .ok (.goto 9, 3) := by decide +kernel
theorem dX8_does_266 : decode cX8_does 266 = .ok (.aload_n 0, 1) := by decide +kernel
theorem dX8_does_267 : decode cX8_does 267 = .ok (.iload_n 2, 1) := by decide +kernel
theorem dX8_does_268 : decode cX8_does 268 = .ok (.iload_n 3, 1) := by decide +kernel
theorem dX8_does_269 : decode cX8_does 269 = .ok (.invokevirtual 117, 3) := by decide +kernel
theorem dX8_does_272 : decode cX8_does 272 = .ok (.istore 6, 2) := by decide +kernel
theorem dX8_does_274 : decode cX8_does 274 = .ok (.iload 6, 2) := by decide +kernel
theorem dX8_does_276 : decode cX8_does 276 = .ok (.ifCond .lt 7, 3) := by decide +kernel
theorem dX8_does_279 : decode cX8_does 279 = .ok (.iconst 1, 1) := by decide +kernel
theorem dX8_does_280 : decode cX8_does 280 = .ok (.goto 4, 3) := by decide +kernel
theorem dX8_does_283 : decode cX8_does 283 = .ok (.iconst 0, 1) := by decide +kernel
theorem dX8_does_284 : decode cX8_does 284 = .ok (.ireturn, 1) := by decide +kernel
theorem dX8_does_285 : decode cX8_does 285 = .ok (.iconst 0, 1) := by decide +kernel
theorem dX8_does_286 : decode cX8_does 286 = .ok (.ireturn, 1) := by decide +kernel
theorem dX8_read_0 : decode cX8_read 0 = .ok (.aload_n 0, 1) := by decide +kernel
theorem dX8_read_1 : decode cX8_read 1 = .ok (.iconst 0, 1) := by decide +kernel
theorem dX8_read_2 : decode cX8_read 2 = .ok (.putfield 41, 3) := by decide +kernel
theorem dX8_read_5 : decode cX8_read 5 = .ok (.aload_n 0, 1) := by decide +kernel
theorem dX8_read_6 : decode cX8_read 6 = .ok (.invokevirtual 200, 3) := by decide +kernel
theorem dX8_read_9 : decode cX8_read 9 = .ok (.istore_n 1, 1) := by decide +kernel
theorem dX8_read_10 : decode cX8_read 10 = .ok (.aload_n 0, 1) := by decide +kernel
theorem dX8_read_11 : decode cX8_read 11 = .ok (.iconst 0, 1) := by decide +kernel
theorem dX8_read_12 : decode cX8_read 12 = .ok (.putfield 172, 3) := by decide +kernel
theorem dX8_read_15 : decode cX8_read 15 = .ok (.iload_n 1, 1) := by decide +kernel
theorem dX8_read_16 : decode cX8_read 16 = .ok (.ifCond .ne 22, 3) := by decide +kernel
theorem dX8_read_19 : decode cX8_read 19 = .ok (.aload_n 0, 1) := by decide +kernel
theorem dX8_read_20 : decode cX8_read 20 = .ok (.iconst 1, 1) := by decide +kernel
theorem dX8_read_21 : decode cX8_read 21 = .ok (.putfield 204, 3) := by decide +kernel
theorem dX8_read_24 : decode cX8_read 24 = .ok (.aload_n 0, 1) := by decide +kernel
theorem dX8_read_25 : decode cX8_read 25 = .ok (.aload_n 0, 1) := by decide +kernel
theorem dX8_read_26 : decode cX8_read 26 = .ok (.getfield 175, 3) := by decide +kernel
theorem dX8_read_29 : decode cX8_read 29 = .ok (.putfield 207, 3) := by decide +kernel
theorem dX8_read_32 : decode cX8_read 32 = .ok (.aload_n 0, 1) := by decide +kernel
theorem dX8_read_33 : decode cX8_read 33 = .ok (.iconst 1, 1) := by decide +kernel
theorem dX8_read_34 : decode cX8_read 34 = .ok (.invokevirtual 62, 3) := by decide +kernel
theorem dX8_read_37 : decode cX8_read 37 = .ok (.ireturn, 1) := by decide +kernel
theorem dX8_read_38 : decode cX8_read 38 = .ok (.aload_n 0, 1) := by decide +kernel
theorem dX8_read_39 : decode cX8_read 39 = .ok (.invokevirtual 149, 3) := by decide +kernel
theorem dX8_read_42 : decode cX8_read 42 = .ok (.iconst 0, 1) := by decide +kernel
theorem dX8_read_43 : decode cX8_read 43 = .ok (.istore_n 2, 1) := by decide +kernel
theorem dX8_read_44 : decode cX8_read 44 = .ok (.iload_n 2, 1) := by decide +kernel
theorem dX8_read_45 : decode cX8_read 45 = .ok (.aload_n 0, 1) := by decide +kernel
theorem dX8_read_46 : decode cX8_read 46 = .ok (.getfield 188, 3) := by decide +kernel
theorem dX8_read_49 : decode cX8_read 49 = .ok (.if_icmp .ge 27, 3) := by decide +kernel
theorem dX8_read_52 : decode cX8_read 52 = .ok (.aload_n 0, 1) := by decide +kernel
theorem dX8_read_53 : decode cX8_read 53 = .ok (.iload_n 2, 1) := by decide +kernel
theorem dX8_read_54 : decode cX8_read 54 = .ok (.invokevirtual 210, 3) := by decide +kernel
theorem dX8_read_57 : decode cX8_read 57 = .ok (.ifCond .ne 13, 3) := by decide +kernel
theorem dX8_read_60 : decode cX8_read 60 = .ok (.aload_n 0, 1) := by decide +kernel
theorem dX8_read_61 : decode cX8_read 61 = .ok (.invokevirtual 152, 3) := by decide +kernel
theorem dX8_read_64 : decode cX8_read 64 = .ok (.aload_n 0, 1) := by decide +kernel
theorem dX8_read_65 : decode cX8_read 65 = .ok (.iconst 2, 1) := by decide +kernel
theorem dX8_read_66 : decode cX8_read 66 = .ok (.invokevirtual 62, 3) := by decide +kernel
theorem dX8_read_69 : decode cX8_read 69 = .ok (.ireturn, 1) := by decide +kernel
theorem dX8_read_70 : decode cX8_read 70 = .ok (.iinc 2 1, 3) := by decide +kernel
theorem dX8_read_73 : decode cX8_read 73 = .ok (.goto (-29), 3) := by decide +kernel
theorem dX8_read_76 : decode cX8_read 76 = .ok (.aload_n 0, 1) := by decide +kernel
theorem dX8_read_77 : decode cX8_read 77 = .ok (.getfield 44, 3) := by decide +kernel
theorem dX8_read_80 : decode cX8_read 80 = .ok (.bipush 8, 2) := by decide +kernel
theorem dX8_read_82 : decode cX8_read 82 = .ok (.if_icmp .ne 44, 3) := by decide +kernel
theorem dX8_read_85 : decode cX8_read 85 = .ok (.iconst 0, 1) := by decide +kernel
theorem dX8_read_86 : decode cX8_read 86 = .ok (.istore_n 2, 1) := by decide +kernel
theorem dX8_read_87 : decode cX8_read 87 = .ok (.iload_n 2, 1) := by decide +kernel
theorem dX8_read_88 : decode cX8_read 88 = .ok (.sipush 2604, 3) := by decide +kernel
theorem dX8_read_91 : decode cX8_read 91 = .ok (.if_icmp .ge 25, 3) := by decide +kernel
theorem dX8_read_94 : decode cX8_read 94 = .ok (.aload_n 0, 1) := by decide +kernel
theorem dX8_read_95 : decode cX8_read 95 = .ok (.getfield 16, 3) := by decide +kernel
theorem dX8_read_98 : decode cX8_read 98 = .ok (.iload_n 2, 1) := by decide +kernel
theorem dX8_read_99 : decode cX8_read 99 = .ok (.aload_n 0, 1) := by decide +kernel
theorem dX8_read_100 : decode cX8_read 100 = .ok (.getfield 16, 3) := by decide +kernel
theorem dX8_read_103 : decode cX8_read 103 = .ok (.iload_n 2, 1) := by decide +kernel
theorem dX8_read_104 : decode cX8_read 104 = .ok (.sipush 372, 3) := by decide +kernel
theorem dX8_read_107 : decode cX8_read 107 = .ok (.iadd, 1) := by decide +kernel
theorem dX8_read_108 : decode cX8_read 108 = .ok (.iaload, 1) := by decide +kernel
theorem dX8_read_109 : decode cX8_read 109 = .ok (.iastore, 1) := by decide +kernel
theorem dX8_read_110 : decode cX8_read 110 = .ok (.iinc 2 1, 3) := by decide +kernel
theorem dX8_read_113 : decode cX8_read 113 = .ok (.goto (-26), 3) := by decide +kernel
theorem dX8_read_116 : decode cX8_read 116 = .ok (.aload_n 0, 1) := by decide +kernel
theorem dX8_read_117 : decode cX8_read 117 = .ok (.dup, 1) := by decide +kernel
theorem dX8_read_118 : decode cX8_read 118 = .ok (.getfield 44, 3) := by decide +kernel
theorem dX8_read_121 : decode cX8_read 121 = .ok (.iconst 1, 1) := by decide +kernel
theorem dX8_read_122 : decode cX8_read 122 = .ok (.isub, 1) := by decide +kernel
theorem dX8_read_123 : decode cX8_read 123 = .ok (.putfield 44, 3) := by decide +kernel
theorem dX8_read_126 : decode cX8_read 126 = .ok (.iconst 0, 1) := by decide +kernel
theorem dX8_read_127 : decode cX8_read 127 = .ok (.istore_n 2, 1) := by decide +kernel
theorem dX8_read_128 : decode cX8_read 128 = .ok (.iload_n 2, 1) := by decide +kernel
theorem dX8_read_129 : decode cX8_read 129 = .ok (.sipush 372, 3) := by decide +kernel
theorem dX8_read_132 : decode cX8_read 132 = .ok (.if_icmp .ge 30, 3) := by decide +kernel
theorem dX8_read_135 : decode cX8_read 135 = .ok (.aload_n 0, 1) := by decide +kernel
theorem dX8_read_136 : decode cX8_read 136 = .ok (.getfield 16, 3) := by decide +kernel
theorem dX8_read_139 : decode cX8_read 139 = .ok (.sipush 372, 3) := by decide +kernel
theorem dX8_read_142 : decode cX8_read 142 = .ok (.aload_n 0, 1) := by decide +kernel
theorem dX8_read_143 : decode cX8_read 143 = .ok (.getfield 44, 3) := by decide +kernel
theorem dX8_read_146 : decode cX8_read 146 = .ok (.imul, 1) := by decide +kernel
theorem dX8_read_147 : decode cX8_read 147 = .ok (.iload_n 2, 1) := by decide +kernel
theorem dX8_read_148 : decode cX8_read 148 = .ok (.iadd, 1) := by decide +kernel
theorem dX8_read_149 : decode cX8_read 149 = .ok (.aload_n 0, 1) := by decide +kernel
theorem dX8_read_150 : decode cX8_read 150 = .ok (.getfield 19, 3) := by decide +kernel
theorem dX8_read_153 : decode cX8_read 153 = .ok (.iload_n 2, 1) := by decide +kernel
theorem dX8_read_154 : decode cX8_read 154 = .ok (.iaload, 1) := by decide +kernel
theorem dX8_read_155 : decode cX8_read 155 = .ok (.iastore, 1) := by decide +kernel
theorem dX8_read_156 : decode cX8_read 156 = .ok (.iinc 2 1, 3) := by decide +kernel
theorem dX8_read_159 : decode cX8_read 159 = .ok (.goto (-31), 3) := by decide +kernel
theorem dX8_read_162 : decode cX8_read 162 = .ok (.aload_n 0, 1) := by decide +kernel
theorem dX8_read_163 : decode cX8_read 163 = .ok (.dup, 1) := by decide +kernel
theorem dX8_read_164 : decode cX8_read 164 = .ok (.getfield 44, 3) := by decide +kernel
theorem dX8_read_167 : decode cX8_read 167 = .ok (.iconst 1, 1) := by decide +kernel
theorem dX8_read_168 : decode cX8_read 168 = .ok (.iadd, 1) := by decide +kernel
theorem dX8_read_169 : decode cX8_read 169 = .ok (.putfield 44, 3) := by decide +kernel
theorem dX8_read_172 : decode cX8_read 172 = .ok (.aload_n 0, 1) := by decide +kernel
theorem dX8_read_173 : decode cX8_read 173 = .ok (.getfield 188, 3) := by decide +kernel
theorem dX8_read_176 : decode cX8_read 176 = .ok (.ireturn, 1) := by decide +kernel
theorem dX8_errorPosition_0 : decode cX8_errorPosition 0 = .ok (.aload_n 0, 1) := by decide +kernel
theorem dX8_errorPosition_1 : decode cX8_errorPosition 1 = .ok (.aload_n 0, 1) := by decide +kernel
theorem dX8_errorPosition_2 : decode cX8_errorPosition 2 = .ok (.getfield 204, 3) := by decide +kernel
theorem dX8_errorPosition_5 : decode cX8_errorPosition 5 = .ok (.ifCond .eq 7, 3) := by decide +kernel
theorem dX8_errorPosition_8 : decode cX8_errorPosition 8 = .ok (.iconst 0, 1) := by decide +kernel
theorem dX8_errorPosition_9 : decode cX8_errorPosition 9 = .ok (.goto 4, 3) := by decide +kernel
theorem dX8_errorPosition_12 : decode cX8_errorPosition 12 = .ok (.iconst 1, 1) := by decide +kernel
theorem dX8_errorPosition_13 : decode cX8_errorPosition 13 = .ok (.putfield 41, 3) := by decide +kernel
theorem dX8_errorPosition_16 : decode cX8_errorPosition 16 = .ok (.aload_n 0, 1) := by decide +kernel
theorem dX8_errorPosition_17 : decode cX8_errorPosition 17 = .ok (.getfield 204, 3) := by decide +kernel
theorem dX8_errorPosition_20 : decode cX8_errorPosition 20 = .ok (.ifCond .eq 10, 3) := by decide +kernel
theorem dX8_errorPosition_23 : decode cX8_errorPosition 23 = .ok (.aload_n 0, 1) := by decide +kernel
theorem dX8_errorPosition_24 : decode cX8_errorPosition 24 = .ok (.getfield 207, 3) := by decide +kernel
theorem dX8_errorPosition_27 : decode cX8_errorPosition 27 = .ok (.goto 4, 3) := by decide +kernel
theorem dX8_errorPosition_30 : decode cX8_errorPosition 30 = .ok (.iconst 0, 1) := by decide +kernel
theorem dX8_errorPosition_31 : decode cX8_errorPosition 31 = .ok (.ireturn, 1) := by decide +kernel
theorem dX8_undo_0 : decode cX8_undo 0 = .ok (.aload_n 0, 1) := by decide +kernel
theorem dX8_undo_1 : decode cX8_undo 1 = .ok (.iconst 0, 1) := by decide +kernel
theorem dX8_undo_2 : decode cX8_undo 2 = .ok (.putfield 41, 3) := by decide +kernel
theorem dX8_undo_5 : decode cX8_undo 5 = .ok (.aload_n 0, 1) := by decide +kernel
theorem dX8_undo_6 : decode cX8_undo 6 = .ok (.getfield 44, 3) := by decide +kernel
theorem dX8_undo_9 : decode cX8_undo 9 = .ok (.ifCond .ne 9, 3) := by decide +kernel
theorem dX8_undo_12 : decode cX8_undo 12 = .ok (.aload_n 0, 1) := by decide +kernel
theorem dX8_undo_13 : decode cX8_undo 13 = .ok (.iconst 1, 1) := by decide +kernel
theorem dX8_undo_14 : decode cX8_undo 14 = .ok (.invokevirtual 62, 3) := by decide +kernel
theorem dX8_undo_17 : decode cX8_undo 17 = .ok (.ireturn, 1) := by decide +kernel
theorem dX8_undo_18 : decode cX8_undo 18 = .ok (.aload_n 0, 1) := by decide +kernel
theorem dX8_undo_19 : decode cX8_undo 19 = .ok (.dup, 1) := by decide +kernel
theorem dX8_undo_20 : decode cX8_undo 20 = .ok (.getfield 44, 3) := by decide +kernel
theorem dX8_undo_23 : decode cX8_undo 23 = .ok (.iconst 1, 1) := by decide +kernel
theorem dX8_undo_24 : decode cX8_undo 24 = .ok (.isub, 1) := by decide +kernel
theorem dX8_undo_25 : decode cX8_undo 25 = .ok (.putfield 44, 3) := by decide +kernel
theorem dX8_undo_28 : decode cX8_undo 28 = .ok (.iconst 0, 1) := by decide +kernel
theorem dX8_undo_29 : decode cX8_undo 29 = .ok (.istore_n 1, 1) := by decide +kernel
theorem dX8_undo_30 : decode cX8_undo 30 = .ok (.iload_n 1, 1) := by decide +kernel
theorem dX8_undo_31 : decode cX8_undo 31 = .ok (.sipush 372, 3) := by decide +kernel
theorem dX8_undo_34 : decode cX8_undo 34 = .ok (.if_icmp .ge 30, 3) := by decide +kernel
theorem dX8_undo_37 : decode cX8_undo 37 = .ok (.aload_n 0, 1) := by decide +kernel
theorem dX8_undo_38 : decode cX8_undo 38 = .ok (.getfield 9, 3) := by decide +kernel
theorem dX8_undo_41 : decode cX8_undo 41 = .ok (.iload_n 1, 1) := by decide +kernel
theorem dX8_undo_42 : decode cX8_undo 42 = .ok (.aload_n 0, 1) := by decide +kernel
theorem dX8_undo_43 : decode cX8_undo 43 = .ok (.getfield 16, 3) := by decide +kernel
theorem dX8_undo_46 : decode cX8_undo 46 = .ok (.sipush 372, 3) := by decide +kernel
theorem dX8_undo_49 : decode cX8_undo 49 = .ok (.aload_n 0, 1) := by decide +kernel
theorem dX8_undo_50 : decode cX8_undo 50 = .ok (.getfield 44, 3) := by decide +kernel
theorem dX8_undo_53 : decode cX8_undo 53 = .ok (.imul, 1) := by decide +kernel
theorem dX8_undo_54 : decode cX8_undo 54 = .ok (.iload_n 1, 1) := by decide +kernel
theorem dX8_undo_55 : decode cX8_undo 55 = .ok (.iadd, 1) := by decide +kernel
theorem dX8_undo_56 : decode cX8_undo 56 = .ok (.iaload, 1) := by decide +kernel
theorem dX8_undo_57 : decode cX8_undo 57 = .ok (.iastore, 1) := by decide +kernel
theorem dX8_undo_58 : decode cX8_undo 58 = .ok (.iinc 1 1, 3) := by decide +kernel
theorem dX8_undo_61 : decode cX8_undo 61 = .ok (.goto (-31), 3) := by decide +kernel
theorem dX8_undo_64 : decode cX8_undo 64 = .ok (.aload_n 0, 1) := by decide +kernel
theorem dX8_undo_65 : decode cX8_undo 65 = .ok (.getfield 44, 3) := by decide +kernel
theorem dX8_undo_68 : decode cX8_undo 68 = .ok (.ireturn, 1) := by decide +kernel
theorem dX8_save_0 : decode cX8_save 0 = .ok (.aload_n 0, 1) := by decide +kernel
theorem dX8_save_1 : decode cX8_save 1 = .ok (.iconst 0, 1) := by decide +kernel
theorem dX8_save_2 : decode cX8_save 2 = .ok (.putfield 41, 3) := by decide +kernel
theorem dX8_save_5 : decode cX8_save 5 = .ok (.iconst 0, 1) := by decide +kernel
theorem dX8_save_6 : decode cX8_save 6 = .ok (.istore_n 1, 1) := by decide +kernel
theorem dX8_save_7 : decode cX8_save 7 = .ok (.iload_n 1, 1) := by decide +kernel
theorem dX8_save_8 : decode cX8_save 8 = .ok (.sipush 372, 3) := by decide +kernel
theorem dX8_save_11 : decode cX8_save 11 = .ok (.if_icmp .ge 21, 3) := by decide +kernel
theorem dX8_save_14 : decode cX8_save 14 = .ok (.aload_n 0, 1) := by decide +kernel
theorem dX8_save_15 : decode cX8_save 15 = .ok (.getfield 13, 3) := by decide +kernel
theorem dX8_save_18 : decode cX8_save 18 = .ok (.iload_n 1, 1) := by decide +kernel
theorem dX8_save_19 : decode cX8_save 19 = .ok (.aload_n 0, 1) := by decide +kernel
theorem dX8_save_20 : decode cX8_save 20 = .ok (.getfield 9, 3) := by decide +kernel
theorem dX8_save_23 : decode cX8_save 23 = .ok (.iload_n 1, 1) := by decide +kernel
theorem dX8_save_24 : decode cX8_save 24 = .ok (.iaload, 1) := by decide +kernel
theorem dX8_save_25 : decode cX8_save 25 = .ok (.iastore, 1) := by decide +kernel
theorem dX8_save_26 : decode cX8_save 26 = .ok (.iinc 1 1, 3) := by decide +kernel
theorem dX8_save_29 : decode cX8_save 29 = .ok (.goto (-22), 3) := by decide +kernel
theorem dX8_save_32 : decode cX8_save 32 = .ok (.aload_n 0, 1) := by decide +kernel
theorem dX8_save_33 : decode cX8_save 33 = .ok (.iconst 1, 1) := by decide +kernel
theorem dX8_save_34 : decode cX8_save 34 = .ok (.putfield 213, 3) := by decide +kernel
theorem dX8_save_37 : decode cX8_save 37 = .ok (.aload_n 0, 1) := by decide +kernel
theorem dX8_save_38 : decode cX8_save 38 = .ok (.getfield 9, 3) := by decide +kernel
theorem dX8_save_41 : decode cX8_save 41 = .ok (.iconst 5, 1) := by decide +kernel
theorem dX8_save_42 : decode cX8_save 42 = .ok (.iaload, 1) := by decide +kernel
theorem dX8_save_43 : decode cX8_save 43 = .ok (.ireturn, 1) := by decide +kernel
theorem dX8_restore_0 : decode cX8_restore 0 = .ok (.aload_n 0, 1) := by decide +kernel
theorem dX8_restore_1 : decode cX8_restore 1 = .ok (.iconst 0, 1) := by decide +kernel
theorem dX8_restore_2 : decode cX8_restore 2 = .ok (.putfield 41, 3) := by decide +kernel
theorem dX8_restore_5 : decode cX8_restore 5 = .ok (.aload_n 0, 1) := by decide +kernel
theorem dX8_restore_6 : decode cX8_restore 6 = .ok (.getfield 213, 3) := by decide +kernel
theorem dX8_restore_9 : decode cX8_restore 9 = .ok (.ifCond .ne 9, 3) := by decide +kernel
theorem dX8_restore_12 : decode cX8_restore 12 = .ok (.aload_n 0, 1) := by decide +kernel
theorem dX8_restore_13 : decode cX8_restore 13 = .ok (.iconst 1, 1) := by decide +kernel
theorem dX8_restore_14 : decode cX8_restore 14 = .ok (.invokevirtual 62, 3) := by decide +kernel
theorem dX8_restore_17 : decode cX8_restore 17 = .ok (.ireturn, 1) := by decide +kernel
theorem dX8_restore_18 : decode cX8_restore 18 = .ok (.iconst 0, 1) := by decide +kernel
theorem dX8_restore_19 : decode cX8_restore 19 = .ok (.istore_n 1, 1) := by decide +kernel
theorem dX8_restore_20 : decode cX8_restore 20 = .ok (.iload_n 1, 1) := by decide +kernel
theorem dX8_restore_21 : decode cX8_restore 21 = .ok (.sipush 372, 3) := by decide +kernel
theorem dX8_restore_24 : decode cX8_restore 24 = .ok (.if_icmp .ge 21, 3) := by decide +kernel
theorem dX8_restore_27 : decode cX8_restore 27 = .ok (.aload_n 0, 1) := by decide +kernel
theorem dX8_restore_28 : decode cX8_restore 28 = .ok (.getfield 9, 3) := by decide +kernel
theorem dX8_restore_31 : decode cX8_restore 31 = .ok (.iload_n 1, 1) := by decide +kernel
theorem dX8_restore_32 : decode cX8_restore 32 = .ok (.aload_n 0, 1) := by decide +kernel
theorem dX8_restore_33 : decode cX8_restore 33 = .ok (.getfield 13, 3) := by decide +kernel
theorem dX8_restore_36 : decode cX8_restore 36 = .ok (.iload_n 1, 1) := by decide +kernel
theorem dX8_restore_37 : decode cX8_restore 37 = .ok (.iaload, 1) := by decide +kernel
theorem dX8_restore_38 : decode cX8_restore 38 = .ok (.iastore, 1) := by decide +kernel
theorem dX8_restore_39 : decode cX8_restore 39 = .ok (.iinc 1 1, 3) := by decide +kernel
theorem dX8_restore_42 : decode cX8_restore 42 = .ok (.goto (-22), 3) := by decide +kernel
theorem dX8_restore_45 : decode cX8_restore 45 = .ok (.aload_n 0, 1) := by decide +kernel
theorem dX8_restore_46 : decode cX8_restore 46 = .ok (.iconst 0, 1) := by decide +kernel
theorem dX8_restore_47 : decode cX8_restore 47 = .ok (.putfield 44, 3) := by decide +kernel
theorem dX8_restore_50 : decode cX8_restore 50 = .ok (.aload_n 0, 1) := by decide +kernel
theorem dX8_restore_51 : decode cX8_restore 51 = .ok (.getfield 9, 3) := by decide +kernel
theorem dX8_restore_54 : decode cX8_restore 54 = .ok (.iconst 5, 1) := by decide +kernel
theorem dX8_restore_55 : decode cX8_restore 55 = .ok (.iaload, 1) := by decide +kernel
theorem dX8_restore_56 : decode cX8_restore 56 = .ok (.ireturn, 1) := by decide +kernel
theorem dJx00060_init_a7421_0 : decode cJx00060_init_a7421 0 = .ok (.aload_n 0, 1) := by decide +kernel
theorem dJx00060_init_a7421_1 : decode cJx00060_init_a7421 1 = .ok (.aload_n 1, 1) := by decide +kernel
theorem dJx00060_init_a7421_2 : decode cJx00060_init_a7421 2 = .ok (.invokespecial 7, 3) := by decide +kernel
theorem dJx00060_init_a7421_5 : decode cJx00060_init_a7421 5 = .ok (.return_, 1) := by decide +kernel
theorem dJ9_floorMod_7cf53_0 : decode cJ9_floorMod_7cf53 0 = .ok (.iload_n 0, 1) := by decide +kernel
theorem dJ9_floorMod_7cf53_1 : decode cJ9_floorMod_7cf53 1 = .ok (.iload_n 1, 1) := by decide +kernel
theorem dJ9_floorMod_7cf53_2 : decode cJ9_floorMod_7cf53 2 = .ok (.irem, 1) := by decide +kernel
theorem dJ9_floorMod_7cf53_3 : decode cJ9_floorMod_7cf53 3 = .ok (.istore_n 2, 1) := by decide +kernel
theorem dJ9_floorMod_7cf53_4 : decode cJ9_floorMod_7cf53 4 = .ok (.iload_n 0, 1) := by decide +kernel
theorem dJ9_floorMod_7cf53_5 : decode cJ9_floorMod_7cf53 5 = .ok (.iload_n 1, 1) := by decide +kernel
theorem dJ9_floorMod_7cf53_6 : decode cJ9_floorMod_7cf53 6 = .ok (.ixor, 1) := by decide +kernel
theorem dJ9_floorMod_7cf53_7 : decode cJ9_floorMod_7cf53 7 = .ok (.ifCond .ge 11, 3) := by decide +kernel
theorem dJ9_floorMod_7cf53_10 : decode cJ9_floorMod_7cf53 10 = .ok (.iload_n 2, 1) := by decide +kernel
theorem dJ9_floorMod_7cf53_11 : decode cJ9_floorMod_7cf53 11 = .ok (.ifCond .eq 7, 3) := by decide +kernel
theorem dJ9_floorMod_7cf53_14 : decode cJ9_floorMod_7cf53 14 = .ok (.iload_n 2, 1) := by decide +kernel
theorem dJ9_floorMod_7cf53_15 : decode cJ9_floorMod_7cf53 15 = .ok (.iload_n 1, 1) := by decide +kernel
theorem dJ9_floorMod_7cf53_16 : decode cJ9_floorMod_7cf53 16 = .ok (.iadd, 1) := by decide +kernel
theorem dJ9_floorMod_7cf53_17 : decode cJ9_floorMod_7cf53 17 = .ok (.ireturn, 1) := by decide +kernel
theorem dJ9_floorMod_7cf53_18 : decode cJ9_floorMod_7cf53 18 = .ok (.iload_n 2, 1) := by decide +kernel
theorem dJ9_floorMod_7cf53_19 : decode cJ9_floorMod_7cf53 19 = .ok (.ireturn, 1) := by decide +kernel
theorem dJ9_abs_0f7a4_0 : decode cJ9_abs_0f7a4 0 = .ok (.iload_n 0, 1) := by decide +kernel
theorem dJ9_abs_0f7a4_1 : decode cJ9_abs_0f7a4 1 = .ok (.ifCond .ge 8, 3) := by decide +kernel
theorem dJ9_abs_0f7a4_4 : decode cJ9_abs_0f7a4 4 = .ok (.iload_n 0, 1) := by decide +kernel
theorem dJ9_abs_0f7a4_5 : decode cJ9_abs_0f7a4 5 = .ok (.ineg, 1) := by decide +kernel
theorem dJ9_abs_0f7a4_6 : decode cJ9_abs_0f7a4 6 = .ok (.goto 4, 3) := by decide +kernel
theorem dJ9_abs_0f7a4_9 : decode cJ9_abs_0f7a4 9 = .ok (.iload_n 0, 1) := by decide +kernel
theorem dJ9_abs_0f7a4_10 : decode cJ9_abs_0f7a4 10 = .ok (.ireturn, 1) := by decide +kernel
theorem dJ9_min_7cf53_0 : decode cJ9_min_7cf53 0 = .ok (.iload_n 0, 1) := by decide +kernel
theorem dJ9_min_7cf53_1 : decode cJ9_min_7cf53 1 = .ok (.iload_n 1, 1) := by decide +kernel
theorem dJ9_min_7cf53_2 : decode cJ9_min_7cf53 2 = .ok (.if_icmp .gt 7, 3) := by decide +kernel
theorem dJ9_min_7cf53_5 : decode cJ9_min_7cf53 5 = .ok (.iload_n 0, 1) := by decide +kernel
theorem dJ9_min_7cf53_6 : decode cJ9_min_7cf53 6 = .ok (.goto 4, 3) := by decide +kernel
theorem dJ9_min_7cf53_9 : decode cJ9_min_7cf53 9 = .ok (.iload_n 1, 1) := by decide +kernel
theorem dJ9_min_7cf53_10 : decode cJ9_min_7cf53 10 = .ok (.ireturn, 1) := by decide +kernel
