theorem dL_addLift_0 : decode cL_addLift 0 = .ok (.aload 7, 2) := by decide +kernel
theorem dL_addLift_2 : decode cL_addLift 2 = .ok (.iconst 0, 1) := by decide +kernel
theorem dL_addLift_3 : decode cL_addLift 3 = .ok (.aload_n 0, 1) := by decide +kernel
theorem dL_addLift_4 : decode cL_addLift 4 = .ok (.iload_n 1, 1) := by decide +kernel
theorem dL_addLift_5 : decode cL_addLift 5 = .ok (.iload_n 2, 1) := by decide +kernel
theorem dL_addLift_6 : decode cL_addLift 6 = .ok (.iload_n 3, 1) := by decide +kernel
theorem dL_addLift_7 : decode cL_addLift 7 = .ok (.iload 4, 2) := by decide +kernel
theorem dL_addLift_9 : decode cL_addLift 9 = .ok (.iload 5, 2) := by decide +kernel
theorem dL_addLift_11 : decode cL_addLift 11 = .ok (.iload 6, 2) := by decide +kernel
theorem dL_addLift_13 : decode cL_addLift 13 = .ok (.invokevirtual 7, 3) := by decide +kernel
theorem dL_addLift_16 : decode cL_addLift 16 = .ok (.i2l, 1) := by decide +kernel
theorem dL_addLift_17 : decode cL_addLift 17 = .ok (.lastore, 1) := by decide +kernel
theorem dL_addLift_18 : decode cL_addLift 18 = .ok (.goto 15, 3) := by decide +kernel
theorem dL_addLift_21 : decode cL_addLift 21 = .ok (.astore 8, 2) := by decide +kernel
theorem dL_addLift_23 : decode cL_addLift 23 = .ok (.iconst 1, 1) := by decide +kernel
theorem dL_addLift_24 : decode cL_addLift 24 = .ok (.ireturn, 1) := by decide +kernel
theorem dL_addLift_25 : decode cL_addLift 25 = .ok (.astore 8, 2) := by decide +kernel
theorem dL_addLift_27 : decode cL_addLift 27 = .ok (.iconst 2, 1) := by decide +kernel
theorem dL_addLift_28 : decode cL_addLift 28 = .ok (.ireturn, 1) := by decide +kernel
theorem dL_addLift_29 : decode cL_addLift 29 = .ok (.astore 8, 2) := by decide +kernel
theorem dL_addLift_31 : decode cL_addLift 31 = .ok (.iconst 3, 1) := by decide +kernel
theorem dL_addLift_32 : decode cL_addLift 32 = .ok (.ireturn, 1) := by decide +kernel
theorem dL_addLift_33 : decode cL_addLift 33 = .ok (.iconst 0, 1) := by decide +kernel
theorem dL_addLift_34 : decode cL_addLift 34 = .ok (.ireturn, 1) := by decide +kernel
theorem dL_addPiste_0 : decode cL_addPiste 0 = .ok (.aload 5, 2) := by decide +kernel
theorem dL_addPiste_2 : decode cL_addPiste 2 = .ok (.iconst 0, 1) := by decide +kernel
theorem dL_addPiste_3 : decode cL_addPiste 3 = .ok (.aload_n 0, 1) := by decide +kernel
theorem dL_addPiste_4 : decode cL_addPiste 4 = .ok (.iload_n 1, 1) := by decide +kernel
theorem dL_addPiste_5 : decode cL_addPiste 5 = .ok (.iload_n 2, 1) := by decide +kernel
theorem dL_addPiste_6 : decode cL_addPiste 6 = .ok (.iload_n 3, 1) := by decide +kernel
theorem dL_addPiste_7 : decode cL_addPiste 7 = .ok (.iload 4, 2) := by decide +kernel
theorem dL_addPiste_9 : decode cL_addPiste 9 = .ok (.invokevirtual 19, 3) := by decide +kernel
theorem dL_addPiste_12 : decode cL_addPiste 12 = .ok (.i2l, 1) := by decide +kernel
theorem dL_addPiste_13 : decode cL_addPiste 13 = .ok (.lastore, 1) := by decide +kernel
theorem dL_addPiste_14 : decode cL_addPiste 14 = .ok (.goto 15, 3) := by decide +kernel
theorem dL_addPiste_17 : decode cL_addPiste 17 = .ok (.astore 6, 2) := by decide +kernel
theorem dL_addPiste_19 : decode cL_addPiste 19 = .ok (.iconst 1, 1) := by decide +kernel
theorem dL_addPiste_20 : decode cL_addPiste 20 = .ok (.ireturn, 1) := by decide +kernel
theorem dL_addPiste_21 : decode cL_addPiste 21 = .ok (.astore 6, 2) := by decide +kernel
theorem dL_addPiste_23 : decode cL_addPiste 23 = .ok (.iconst 2, 1) := by decide +kernel
theorem dL_addPiste_24 : decode cL_addPiste 24 = .ok (.ireturn, 1) := by decide +kernel
theorem dL_addPiste_25 : decode cL_addPiste 25 = .ok (.astore 6, 2) := by decide +kernel
theorem dL_addPiste_27 : decode cL_addPiste 27 = .ok (.iconst 3, 1) := by decide +kernel
theorem dL_addPiste_28 : decode cL_addPiste 28 = .ok (.ireturn, 1) := by decide +kernel
theorem dL_addPiste_29 : decode cL_addPiste 29 = .ok (.iconst 0, 1) := by decide +kernel
theorem dL_addPiste_30 : decode cL_addPiste 30 = .ok (.ireturn, 1) := by decide +kernel
theorem dL_setWind_0 : decode cL_setWind 0 = .ok (.aload_n 2, 1) := by decide +kernel
theorem dL_setWind_1 : decode cL_setWind 1 = .ok (.iconst 0, 1) := by decide +kernel
theorem dL_setWind_2 : decode cL_setWind 2 = .ok (.aload_n 0, 1) := by decide +kernel
theorem dL_setWind_3 : decode cL_setWind 3 = .ok (.iload_n 1, 1) := by decide +kernel
theorem dL_setWind_4 : decode cL_setWind 4 = .ok (.invokevirtual 23, 3) := by decide +kernel
theorem dL_setWind_7 : decode cL_setWind 7 = .ok (.i2l, 1) := by decide +kernel
theorem dL_setWind_8 : decode cL_setWind 8 = .ok (.lastore, 1) := by decide +kernel
theorem dL_setWind_9 : decode cL_setWind 9 = .ok (.goto 6, 3) := by decide +kernel
theorem dL_setWind_12 : decode cL_setWind 12 = .ok (.astore_n 3, 1) := by decide +kernel
theorem dL_setWind_13 : decode cL_setWind 13 = .ok (.iconst 1, 1) := by decide +kernel
theorem dL_setWind_14 : decode cL_setWind 14 = .ok (.ireturn, 1) := by decide +kernel
theorem dL_setWind_15 : decode cL_setWind 15 = .ok (.iconst 0, 1) := by decide +kernel
theorem dL_setWind_16 : decode cL_setWind 16 = .ok (.ireturn, 1) := by decide +kernel
theorem dL_lift_0 : decode cL_lift 0 = .ok (.aload_n 3, 1) := by decide +kernel
theorem dL_lift_1 : decode cL_lift 1 = .ok (.iconst 0, 1) := by decide +kernel
theorem dL_lift_2 : decode cL_lift 2 = .ok (.aload_n 0, 1) := by decide +kernel
theorem dL_lift_3 : decode cL_lift 3 = .ok (.iload_n 1, 1) := by decide +kernel
theorem dL_lift_4 : decode cL_lift 4 = .ok (.iload_n 2, 1) := by decide +kernel
theorem dL_lift_5 : decode cL_lift 5 = .ok (.invokevirtual 27, 3) := by decide +kernel
theorem dL_lift_8 : decode cL_lift 8 = .ok (.i2l, 1) := by decide +kernel
theorem dL_lift_9 : decode cL_lift 9 = .ok (.lastore, 1) := by decide +kernel
theorem dL_lift_10 : decode cL_lift 10 = .ok (.goto 11, 3) := by decide +kernel
theorem dL_lift_13 : decode cL_lift 13 = .ok (.astore 4, 2) := by decide +kernel
theorem dL_lift_15 : decode cL_lift 15 = .ok (.iconst 1, 1) := by decide +kernel
theorem dL_lift_16 : decode cL_lift 16 = .ok (.ireturn, 1) := by decide +kernel
theorem dL_lift_17 : decode cL_lift 17 = .ok (.astore 4, 2) := by decide +kernel
theorem dL_lift_19 : decode cL_lift 19 = .ok (.iconst 2, 1) := by decide +kernel
theorem dL_lift_20 : decode cL_lift 20 = .ok (.ireturn, 1) := by decide +kernel
theorem dL_lift_21 : decode cL_lift 21 = .ok (.iconst 0, 1) := by decide +kernel
theorem dL_lift_22 : decode cL_lift 22 = .ok (.ireturn, 1) := by decide +kernel
theorem dL_piste_0 : decode cL_piste 0 = .ok (.aload_n 3, 1) := by decide +kernel
theorem dL_piste_1 : decode cL_piste 1 = .ok (.iconst 0, 1) := by decide +kernel
theorem dL_piste_2 : decode cL_piste 2 = .ok (.aload_n 0, 1) := by decide +kernel
theorem dL_piste_3 : decode cL_piste 3 = .ok (.iload_n 1, 1) := by decide +kernel
theorem dL_piste_4 : decode cL_piste 4 = .ok (.iload_n 2, 1) := by decide +kernel
theorem dL_piste_5 : decode cL_piste 5 = .ok (.invokevirtual 31, 3) := by decide +kernel
theorem dL_piste_8 : decode cL_piste 8 = .ok (.i2l, 1) := by decide +kernel
theorem dL_piste_9 : decode cL_piste 9 = .ok (.lastore, 1) := by decide +kernel
theorem dL_piste_10 : decode cL_piste 10 = .ok (.goto 11, 3) := by decide +kernel
theorem dL_piste_13 : decode cL_piste 13 = .ok (.astore 4, 2) := by decide +kernel
theorem dL_piste_15 : decode cL_piste 15 = .ok (.iconst 1, 1) := by decide +kernel
theorem dL_piste_16 : decode cL_piste 16 = .ok (.ireturn, 1) := by decide +kernel
theorem dL_piste_17 : decode cL_piste 17 = .ok (.astore 4, 2) := by decide +kernel
theorem dL_piste_19 : decode cL_piste 19 = .ok (.iconst 2, 1) := by decide +kernel
theorem dL_piste_20 : decode cL_piste 20 = .ok (.ireturn, 1) := by decide +kernel
theorem dL_piste_21 : decode cL_piste 21 = .ok (.iconst 0, 1) := by decide +kernel
theorem dL_piste_22 : decode cL_piste 22 = .ok (.ireturn, 1) := by decide +kernel
theorem dL_open_0 : decode cL_open 0 = .ok (.aload_n 3, 1) := by decide +kernel
theorem dL_open_1 : decode cL_open 1 = .ok (.iconst 0, 1) := by decide +kernel
theorem dL_open_2 : decode cL_open 2 = .ok (.aload_n 0, 1) := by decide +kernel
theorem dL_open_3 : decode cL_open 3 = .ok (.iload_n 1, 1) := by decide +kernel
theorem dL_open_4 : decode cL_open 4 = .ok (.iload_n 2, 1) := by decide +kernel
theorem dL_open_5 : decode cL_open 5 = .ok (.invokevirtual 34, 3) := by decide +kernel
theorem dL_open_8 : decode cL_open 8 = .ok (.i2l, 1) := by decide +kernel
theorem dL_open_9 : decode cL_open 9 = .ok (.lastore, 1) := by decide +kernel
theorem dL_open_10 : decode cL_open 10 = .ok (.goto 11, 3) := by decide +kernel
theorem dL_open_13 : decode cL_open 13 = .ok (.astore 4, 2) := by decide +kernel
theorem dL_open_15 : decode cL_open 15 = .ok (.iconst 1, 1) := by decide +kernel
theorem dL_open_16 : decode cL_open 16 = .ok (.ireturn, 1) := by decide +kernel
theorem dL_open_17 : decode cL_open 17 = .ok (.astore 4, 2) := by decide +kernel
theorem dL_open_19 : decode cL_open 19 = .ok (.iconst 2, 1) := by decide +kernel
theorem dL_open_20 : decode cL_open 20 = .ok (.ireturn, 1) := by decide +kernel
theorem dL_open_21 : decode cL_open 21 = .ok (.iconst 0, 1) := by decide +kernel
theorem dL_open_22 : decode cL_open 22 = .ok (.ireturn, 1) := by decide +kernel
theorem dL_groom_0 : decode cL_groom 0 = .ok (.aload_n 2, 1) := by decide +kernel
theorem dL_groom_1 : decode cL_groom 1 = .ok (.iconst 0, 1) := by decide +kernel
theorem dL_groom_2 : decode cL_groom 2 = .ok (.aload_n 0, 1) := by decide +kernel
theorem dL_groom_3 : decode cL_groom 3 = .ok (.iload_n 1, 1) := by decide +kernel
theorem dL_groom_4 : decode cL_groom 4 = .ok (.invokevirtual 38, 3) := by decide +kernel
theorem dL_groom_7 : decode cL_groom 7 = .ok (.i2l, 1) := by decide +kernel
theorem dL_groom_8 : decode cL_groom 8 = .ok (.lastore, 1) := by decide +kernel
theorem dL_groom_9 : decode cL_groom 9 = .ok (.goto 9, 3) := by decide +kernel
theorem dL_groom_12 : decode cL_groom 12 = .ok (.astore_n 3, 1) := by decide +kernel
theorem dL_groom_13 : decode cL_groom 13 = .ok (.iconst 1, 1) := by decide +kernel
theorem dL_groom_14 : decode cL_groom 14 = .ok (.ireturn, 1) := by decide +kernel
theorem dL_groom_15 : decode cL_groom 15 = .ok (.astore_n 3, 1) := by decide +kernel
theorem dL_groom_16 : decode cL_groom 16 = .ok (.iconst 2, 1) := by decide +kernel
theorem dL_groom_17 : decode cL_groom 17 = .ok (.ireturn, 1) := by decide +kernel
theorem dL_groom_18 : decode cL_groom 18 = .ok (.iconst 0, 1) := by decide +kernel
theorem dL_groom_19 : decode cL_groom 19 = .ok (.ireturn, 1) := by decide +kernel
theorem dL_count_0 : decode cL_count 0 = .ok (.aload_n 2, 1) := by decide +kernel
theorem dL_count_1 : decode cL_count 1 = .ok (.iconst 0, 1) := by decide +kernel
theorem dL_count_2 : decode cL_count 2 = .ok (.aload_n 0, 1) := by decide +kernel
theorem dL_count_3 : decode cL_count 3 = .ok (.iload_n 1, 1) := by decide +kernel
theorem dL_count_4 : decode cL_count 4 = .ok (.invokevirtual 41, 3) := by decide +kernel
theorem dL_count_7 : decode cL_count 7 = .ok (.i2l, 1) := by decide +kernel
theorem dL_count_8 : decode cL_count 8 = .ok (.lastore, 1) := by decide +kernel
theorem dL_count_9 : decode cL_count 9 = .ok (.goto 6, 3) := by decide +kernel
theorem dL_count_12 : decode cL_count 12 = .ok (.astore_n 3, 1) := by decide +kernel
theorem dL_count_13 : decode cL_count 13 = .ok (.iconst 1, 1) := by decide +kernel
theorem dL_count_14 : decode cL_count 14 = .ok (.ireturn, 1) := by decide +kernel
theorem dL_count_15 : decode cL_count 15 = .ok (.iconst 0, 1) := by decide +kernel
theorem dL_count_16 : decode cL_count 16 = .ok (.ireturn, 1) := by decide +kernel
theorem dL_addGuest_0 : decode cL_addGuest 0 = .ok (.aload 6, 2) := by decide +kernel
theorem dL_addGuest_2 : decode cL_addGuest 2 = .ok (.iconst 0, 1) := by decide +kernel
theorem dL_addGuest_3 : decode cL_addGuest 3 = .ok (.aload_n 0, 1) := by decide +kernel
theorem dL_addGuest_4 : decode cL_addGuest 4 = .ok (.iload_n 1, 1) := by decide +kernel
theorem dL_addGuest_5 : decode cL_addGuest 5 = .ok (.iload_n 2, 1) := by decide +kernel
theorem dL_addGuest_6 : decode cL_addGuest 6 = .ok (.iload_n 3, 1) := by decide +kernel
theorem dL_addGuest_7 : decode cL_addGuest 7 = .ok (.iload 4, 2) := by decide +kernel
theorem dL_addGuest_9 : decode cL_addGuest 9 = .ok (.iload 5, 2) := by decide +kernel
theorem dL_addGuest_11 : decode cL_addGuest 11 = .ok (.invokevirtual 44, 3) := by decide +kernel
theorem dL_addGuest_14 : decode cL_addGuest 14 = .ok (.i2l, 1) := by decide +kernel
theorem dL_addGuest_15 : decode cL_addGuest 15 = .ok (.lastore, 1) := by decide +kernel
theorem dL_addGuest_16 : decode cL_addGuest 16 = .ok (.goto 15, 3) := by decide +kernel
theorem dL_addGuest_19 : decode cL_addGuest 19 = .ok (.astore 7, 2) := by decide +kernel
theorem dL_addGuest_21 : decode cL_addGuest 21 = .ok (.iconst 1, 1) := by decide +kernel
theorem dL_addGuest_22 : decode cL_addGuest 22 = .ok (.ireturn, 1) := by decide +kernel
theorem dL_addGuest_23 : decode cL_addGuest 23 = .ok (.astore 7, 2) := by decide +kernel
theorem dL_addGuest_25 : decode cL_addGuest 25 = .ok (.iconst 2, 1) := by decide +kernel
theorem dL_addGuest_26 : decode cL_addGuest 26 = .ok (.ireturn, 1) := by decide +kernel
theorem dL_addGuest_27 : decode cL_addGuest 27 = .ok (.astore 7, 2) := by decide +kernel
theorem dL_addGuest_29 : decode cL_addGuest 29 = .ok (.iconst 3, 1) := by decide +kernel
theorem dL_addGuest_30 : decode cL_addGuest 30 = .ok (.ireturn, 1) := by decide +kernel
theorem dL_addGuest_31 : decode cL_addGuest 31 = .ok (.iconst 0, 1) := by decide +kernel
theorem dL_addGuest_32 : decode cL_addGuest 32 = .ok (.ireturn, 1) := by decide +kernel
theorem dL_guest_0 : decode cL_guest 0 = .ok (.aload_n 3, 1) := by decide +kernel
theorem dL_guest_1 : decode cL_guest 1 = .ok (.iconst 0, 1) := by decide +kernel
theorem dL_guest_2 : decode cL_guest 2 = .ok (.aload_n 0, 1) := by decide +kernel
theorem dL_guest_3 : decode cL_guest 3 = .ok (.iload_n 1, 1) := by decide +kernel
theorem dL_guest_4 : decode cL_guest 4 = .ok (.iload_n 2, 1) := by decide +kernel
theorem dL_guest_5 : decode cL_guest 5 = .ok (.invokevirtual 48, 3) := by decide +kernel
theorem dL_guest_8 : decode cL_guest 8 = .ok (.i2l, 1) := by decide +kernel
theorem dL_guest_9 : decode cL_guest 9 = .ok (.lastore, 1) := by decide +kernel
theorem dL_guest_10 : decode cL_guest 10 = .ok (.goto 11, 3) := by decide +kernel
theorem dL_guest_13 : decode cL_guest 13 = .ok (.astore 4, 2) := by decide +kernel
theorem dL_guest_15 : decode cL_guest 15 = .ok (.iconst 1, 1) := by decide +kernel
theorem dL_guest_16 : decode cL_guest 16 = .ok (.ireturn, 1) := by decide +kernel
theorem dL_guest_17 : decode cL_guest 17 = .ok (.astore 4, 2) := by decide +kernel
theorem dL_guest_19 : decode cL_guest 19 = .ok (.iconst 2, 1) := by decide +kernel
theorem dL_guest_20 : decode cL_guest 20 = .ok (.ireturn, 1) := by decide +kernel
theorem dL_guest_21 : decode cL_guest 21 = .ok (.iconst 0, 1) := by decide +kernel
theorem dL_guest_22 : decode cL_guest 22 = .ok (.ireturn, 1) := by decide +kernel
theorem dL_queue_0 : decode cL_queue 0 = .ok (.aload_n 3, 1) := by decide +kernel
theorem dL_queue_1 : decode cL_queue 1 = .ok (.iconst 0, 1) := by decide +kernel
theorem dL_queue_2 : decode cL_queue 2 = .ok (.aload_n 0, 1) := by decide +kernel
theorem dL_queue_3 : decode cL_queue 3 = .ok (.iload_n 1, 1) := by decide +kernel
theorem dL_queue_4 : decode cL_queue 4 = .ok (.iload_n 2, 1) := by decide +kernel
theorem dL_queue_5 : decode cL_queue 5 = .ok (.invokevirtual 51, 3) := by decide +kernel
theorem dL_queue_8 : decode cL_queue 8 = .ok (.i2l, 1) := by decide +kernel
theorem dL_queue_9 : decode cL_queue 9 = .ok (.lastore, 1) := by decide +kernel
theorem dL_queue_10 : decode cL_queue 10 = .ok (.goto 11, 3) := by decide +kernel
theorem dL_queue_13 : decode cL_queue 13 = .ok (.astore 4, 2) := by decide +kernel
theorem dL_queue_15 : decode cL_queue 15 = .ok (.iconst 1, 1) := by decide +kernel
theorem dL_queue_16 : decode cL_queue 16 = .ok (.ireturn, 1) := by decide +kernel
theorem dL_queue_17 : decode cL_queue 17 = .ok (.astore 4, 2) := by decide +kernel
theorem dL_queue_19 : decode cL_queue 19 = .ok (.iconst 2, 1) := by decide +kernel
theorem dL_queue_20 : decode cL_queue 20 = .ok (.ireturn, 1) := by decide +kernel
theorem dL_queue_21 : decode cL_queue 21 = .ok (.iconst 0, 1) := by decide +kernel
theorem dL_queue_22 : decode cL_queue 22 = .ok (.ireturn, 1) := by decide +kernel
theorem dL_ski_0 : decode cL_ski 0 = .ok (.aload_n 3, 1) := by decide +kernel
theorem dL_ski_1 : decode cL_ski 1 = .ok (.iconst 0, 1) := by decide +kernel
theorem dL_ski_2 : decode cL_ski 2 = .ok (.aload_n 0, 1) := by decide +kernel
theorem dL_ski_3 : decode cL_ski 3 = .ok (.iload_n 1, 1) := by decide +kernel
theorem dL_ski_4 : decode cL_ski 4 = .ok (.iload_n 2, 1) := by decide +kernel
theorem dL_ski_5 : decode cL_ski 5 = .ok (.invokevirtual 56, 3) := by decide +kernel
theorem dL_ski_8 : decode cL_ski 8 = .ok (.i2l, 1) := by decide +kernel
theorem dL_ski_9 : decode cL_ski 9 = .ok (.lastore, 1) := by decide +kernel
theorem dL_ski_10 : decode cL_ski 10 = .ok (.goto 11, 3) := by decide +kernel
theorem dL_ski_13 : decode cL_ski 13 = .ok (.astore 4, 2) := by decide +kernel
theorem dL_ski_15 : decode cL_ski 15 = .ok (.iconst 1, 1) := by decide +kernel
theorem dL_ski_16 : decode cL_ski 16 = .ok (.ireturn, 1) := by decide +kernel
theorem dL_ski_17 : decode cL_ski 17 = .ok (.astore 4, 2) := by decide +kernel
theorem dL_ski_19 : decode cL_ski 19 = .ok (.iconst 2, 1) := by decide +kernel
theorem dL_ski_20 : decode cL_ski 20 = .ok (.ireturn, 1) := by decide +kernel
theorem dL_ski_21 : decode cL_ski 21 = .ok (.iconst 0, 1) := by decide +kernel
theorem dL_ski_22 : decode cL_ski 22 = .ok (.ireturn, 1) := by decide +kernel
theorem dL_leave_0 : decode cL_leave 0 = .ok (.aload_n 2, 1) := by decide +kernel
theorem dL_leave_1 : decode cL_leave 1 = .ok (.iconst 0, 1) := by decide +kernel
theorem dL_leave_2 : decode cL_leave 2 = .ok (.aload_n 0, 1) := by decide +kernel
theorem dL_leave_3 : decode cL_leave 3 = .ok (.iload_n 1, 1) := by decide +kernel
theorem dL_leave_4 : decode cL_leave 4 = .ok (.invokevirtual 59, 3) := by decide +kernel
theorem dL_leave_7 : decode cL_leave 7 = .ok (.i2l, 1) := by decide +kernel
theorem dL_leave_8 : decode cL_leave 8 = .ok (.lastore, 1) := by decide +kernel
theorem dL_leave_9 : decode cL_leave 9 = .ok (.goto 9, 3) := by decide +kernel
theorem dL_leave_12 : decode cL_leave 12 = .ok (.astore_n 3, 1) := by decide +kernel
theorem dL_leave_13 : decode cL_leave 13 = .ok (.iconst 1, 1) := by decide +kernel
theorem dL_leave_14 : decode cL_leave 14 = .ok (.ireturn, 1) := by decide +kernel
theorem dL_leave_15 : decode cL_leave 15 = .ok (.astore_n 3, 1) := by decide +kernel
theorem dL_leave_16 : decode cL_leave 16 = .ok (.iconst 2, 1) := by decide +kernel
theorem dL_leave_17 : decode cL_leave 17 = .ok (.ireturn, 1) := by decide +kernel
theorem dL_leave_18 : decode cL_leave 18 = .ok (.iconst 0, 1) := by decide +kernel
theorem dL_leave_19 : decode cL_leave 19 = .ok (.ireturn, 1) := by decide +kernel
theorem dL_whyNotQueue_0 : decode cL_whyNotQueue 0 = .ok (.aload_n 3, 1) := by decide +kernel
theorem dL_whyNotQueue_1 : decode cL_whyNotQueue 1 = .ok (.iconst 0, 1) := by decide +kernel
theorem dL_whyNotQueue_2 : decode cL_whyNotQueue 2 = .ok (.aload_n 0, 1) := by decide +kernel
theorem dL_whyNotQueue_3 : decode cL_whyNotQueue 3 = .ok (.iload_n 1, 1) := by decide +kernel
theorem dL_whyNotQueue_4 : decode cL_whyNotQueue 4 = .ok (.iload_n 2, 1) := by decide +kernel
theorem dL_whyNotQueue_5 : decode cL_whyNotQueue 5 = .ok (.invokevirtual 62, 3) := by decide +kernel
theorem dL_whyNotQueue_8 : decode cL_whyNotQueue 8 = .ok (.i2l, 1) := by decide +kernel
theorem dL_whyNotQueue_9 : decode cL_whyNotQueue 9 = .ok (.lastore, 1) := by decide +kernel
theorem dL_whyNotQueue_10 : decode cL_whyNotQueue 10 = .ok (.goto 7, 3) := by decide +kernel
theorem dL_whyNotQueue_13 : decode cL_whyNotQueue 13 = .ok (.astore 4, 2) := by decide +kernel
theorem dL_whyNotQueue_15 : decode cL_whyNotQueue 15 = .ok (.iconst 1, 1) := by decide +kernel
theorem dL_whyNotQueue_16 : decode cL_whyNotQueue 16 = .ok (.ireturn, 1) := by decide +kernel
theorem dL_whyNotQueue_17 : decode cL_whyNotQueue 17 = .ok (.iconst 0, 1) := by decide +kernel
theorem dL_whyNotQueue_18 : decode cL_whyNotQueue 18 = .ok (.ireturn, 1) := by decide +kernel
theorem dL_whyNotSki_0 : decode cL_whyNotSki 0 = .ok (.aload_n 3, 1) := by decide +kernel
theorem dL_whyNotSki_1 : decode cL_whyNotSki 1 = .ok (.iconst 0, 1) := by decide +kernel
theorem dL_whyNotSki_2 : decode cL_whyNotSki 2 = .ok (.aload_n 0, 1) := by decide +kernel
theorem dL_whyNotSki_3 : decode cL_whyNotSki 3 = .ok (.iload_n 1, 1) := by decide +kernel
theorem dL_whyNotSki_4 : decode cL_whyNotSki 4 = .ok (.iload_n 2, 1) := by decide +kernel
theorem dL_whyNotSki_5 : decode cL_whyNotSki 5 = .ok (.invokevirtual 65, 3) := by decide +kernel
theorem dL_whyNotSki_8 : decode cL_whyNotSki 8 = .ok (.i2l, 1) := by decide +kernel
theorem dL_whyNotSki_9 : decode cL_whyNotSki 9 = .ok (.lastore, 1) := by decide +kernel
theorem dL_whyNotSki_10 : decode cL_whyNotSki 10 = .ok (.goto 7, 3) := by decide +kernel
theorem dL_whyNotSki_13 : decode cL_whyNotSki 13 = .ok (.astore 4, 2) := by decide +kernel
theorem dL_whyNotSki_15 : decode cL_whyNotSki 15 = .ok (.iconst 1, 1) := by decide +kernel
theorem dL_whyNotSki_16 : decode cL_whyNotSki 16 = .ok (.ireturn, 1) := by decide +kernel
theorem dL_whyNotSki_17 : decode cL_whyNotSki 17 = .ok (.iconst 0, 1) := by decide +kernel
theorem dL_whyNotSki_18 : decode cL_whyNotSki 18 = .ok (.ireturn, 1) := by decide +kernel
theorem dL_reason_0 : decode cL_reason 0 = .ok (.aload_n 1, 1) := by decide +kernel
theorem dL_reason_1 : decode cL_reason 1 = .ok (.iconst 0, 1) := by decide +kernel
theorem dL_reason_2 : decode cL_reason 2 = .ok (.aload_n 0, 1) := by decide +kernel
theorem dL_reason_3 : decode cL_reason 3 = .ok (.invokevirtual 68, 3) := by decide +kernel
theorem dL_reason_6 : decode cL_reason 6 = .ok (.i2l, 1) := by decide +kernel
theorem dL_reason_7 : decode cL_reason 7 = .ok (.lastore, 1) := by decide +kernel
theorem dL_reason_8 : decode cL_reason 8 = .ok (.goto 6, 3) := by decide +kernel
theorem dL_reason_11 : decode cL_reason 11 = .ok (.astore_n 2, 1) := by decide +kernel
theorem dL_reason_12 : decode cL_reason 12 = .ok (.iconst 1, 1) := by decide +kernel
theorem dL_reason_13 : decode cL_reason 13 = .ok (.ireturn, 1) := by decide +kernel
theorem dL_reason_14 : decode cL_reason 14 = .ok (.iconst 0, 1) := by decide +kernel
theorem dL_reason_15 : decode cL_reason 15 = .ok (.ireturn, 1) := by decide +kernel
theorem dL_opened_0 : decode cL_opened 0 = .ok (.aload_n 2, 1) := by decide +kernel
theorem dL_opened_1 : decode cL_opened 1 = .ok (.iconst 0, 1) := by decide +kernel
theorem dL_opened_2 : decode cL_opened 2 = .ok (.aload_n 0, 1) := by decide +kernel
theorem dL_opened_3 : decode cL_opened 3 = .ok (.iload_n 1, 1) := by decide +kernel
theorem dL_opened_4 : decode cL_opened 4 = .ok (.invokevirtual 74, 3) := by decide +kernel
theorem dL_opened_7 : decode cL_opened 7 = .ok (.i2l, 1) := by decide +kernel
theorem dL_opened_8 : decode cL_opened 8 = .ok (.lastore, 1) := by decide +kernel
theorem dL_opened_9 : decode cL_opened 9 = .ok (.goto 6, 3) := by decide +kernel
theorem dL_opened_12 : decode cL_opened 12 = .ok (.astore_n 3, 1) := by decide +kernel
theorem dL_opened_13 : decode cL_opened 13 = .ok (.iconst 1, 1) := by decide +kernel
theorem dL_opened_14 : decode cL_opened 14 = .ok (.ireturn, 1) := by decide +kernel
theorem dL_opened_15 : decode cL_opened 15 = .ok (.iconst 0, 1) := by decide +kernel
theorem dL_opened_16 : decode cL_opened 16 = .ok (.ireturn, 1) := by decide +kernel
theorem dL_queued_0 : decode cL_queued 0 = .ok (.aload_n 3, 1) := by decide +kernel
theorem dL_queued_1 : decode cL_queued 1 = .ok (.iconst 0, 1) := by decide +kernel
theorem dL_queued_2 : decode cL_queued 2 = .ok (.aload_n 0, 1) := by decide +kernel
theorem dL_queued_3 : decode cL_queued 3 = .ok (.iload_n 1, 1) := by decide +kernel
theorem dL_queued_4 : decode cL_queued 4 = .ok (.iload_n 2, 1) := by decide +kernel
theorem dL_queued_5 : decode cL_queued 5 = .ok (.invokevirtual 77, 3) := by decide +kernel
theorem dL_queued_8 : decode cL_queued 8 = .ok (.i2l, 1) := by decide +kernel
theorem dL_queued_9 : decode cL_queued 9 = .ok (.lastore, 1) := by decide +kernel
theorem dL_queued_10 : decode cL_queued 10 = .ok (.goto 11, 3) := by decide +kernel
theorem dL_queued_13 : decode cL_queued 13 = .ok (.astore 4, 2) := by decide +kernel
theorem dL_queued_15 : decode cL_queued 15 = .ok (.iconst 1, 1) := by decide +kernel
theorem dL_queued_16 : decode cL_queued 16 = .ok (.ireturn, 1) := by decide +kernel
theorem dL_queued_17 : decode cL_queued 17 = .ok (.astore 4, 2) := by decide +kernel
theorem dL_queued_19 : decode cL_queued 19 = .ok (.iconst 2, 1) := by decide +kernel
theorem dL_queued_20 : decode cL_queued 20 = .ok (.ireturn, 1) := by decide +kernel
theorem dL_queued_21 : decode cL_queued 21 = .ok (.iconst 0, 1) := by decide +kernel
theorem dL_queued_22 : decode cL_queued 22 = .ok (.ireturn, 1) := by decide +kernel
theorem dL_advance_0 : decode cL_advance 0 = .ok (.aload_n 2, 1) := by decide +kernel
theorem dL_advance_1 : decode cL_advance 1 = .ok (.iconst 0, 1) := by decide +kernel
theorem dL_advance_2 : decode cL_advance 2 = .ok (.aload_n 0, 1) := by decide +kernel
theorem dL_advance_3 : decode cL_advance 3 = .ok (.iload_n 1, 1) := by decide +kernel
theorem dL_advance_4 : decode cL_advance 4 = .ok (.invokevirtual 80, 3) := by decide +kernel
theorem dL_advance_7 : decode cL_advance 7 = .ok (.i2l, 1) := by decide +kernel
theorem dL_advance_8 : decode cL_advance 8 = .ok (.lastore, 1) := by decide +kernel
theorem dL_advance_9 : decode cL_advance 9 = .ok (.goto 9, 3) := by decide +kernel
theorem dL_advance_12 : decode cL_advance 12 = .ok (.astore_n 3, 1) := by decide +kernel
theorem dL_advance_13 : decode cL_advance 13 = .ok (.iconst 1, 1) := by decide +kernel
theorem dL_advance_14 : decode cL_advance 14 = .ok (.ireturn, 1) := by decide +kernel
theorem dL_advance_15 : decode cL_advance 15 = .ok (.astore_n 3, 1) := by decide +kernel
theorem dL_advance_16 : decode cL_advance 16 = .ok (.iconst 2, 1) := by decide +kernel
theorem dL_advance_17 : decode cL_advance 17 = .ok (.ireturn, 1) := by decide +kernel
theorem dL_advance_18 : decode cL_advance 18 = .ok (.iconst 0, 1) := by decide +kernel
theorem dL_advance_19 : decode cL_advance 19 = .ok (.ireturn, 1) := by decide +kernel
theorem dL_endDay_0 : decode cL_endDay 0 = .ok (.aload_n 1, 1) := by decide +kernel
theorem dL_endDay_1 : decode cL_endDay 1 = .ok (.iconst 0, 1) := by decide +kernel
theorem dL_endDay_2 : decode cL_endDay 2 = .ok (.aload_n 0, 1) := by decide +kernel
theorem dL_endDay_3 : decode cL_endDay 3 = .ok (.invokevirtual 83, 3) := by decide +kernel
theorem dL_endDay_6 : decode cL_endDay 6 = .ok (.i2l, 1) := by decide +kernel
theorem dL_endDay_7 : decode cL_endDay 7 = .ok (.lastore, 1) := by decide +kernel
theorem dL_endDay_8 : decode cL_endDay 8 = .ok (.goto 6, 3) := by decide +kernel
theorem dL_endDay_11 : decode cL_endDay 11 = .ok (.astore_n 2, 1) := by decide +kernel
theorem dL_endDay_12 : decode cL_endDay 12 = .ok (.iconst 1, 1) := by decide +kernel
theorem dL_endDay_13 : decode cL_endDay 13 = .ok (.ireturn, 1) := by decide +kernel
theorem dL_endDay_14 : decode cL_endDay 14 = .ok (.iconst 0, 1) := by decide +kernel
theorem dL_endDay_15 : decode cL_endDay 15 = .ok (.ireturn, 1) := by decide +kernel
theorem dL_arrival_0 : decode cL_arrival 0 = .ok (.aload_n 2, 1) := by decide +kernel
theorem dL_arrival_1 : decode cL_arrival 1 = .ok (.iconst 0, 1) := by decide +kernel
theorem dL_arrival_2 : decode cL_arrival 2 = .ok (.aload_n 0, 1) := by decide +kernel
theorem dL_arrival_3 : decode cL_arrival 3 = .ok (.iload_n 1, 1) := by decide +kernel
theorem dL_arrival_4 : decode cL_arrival 4 = .ok (.invokevirtual 86, 3) := by decide +kernel
theorem dL_arrival_7 : decode cL_arrival 7 = .ok (.i2l, 1) := by decide +kernel
theorem dL_arrival_8 : decode cL_arrival 8 = .ok (.lastore, 1) := by decide +kernel
theorem dL_arrival_9 : decode cL_arrival 9 = .ok (.goto 9, 3) := by decide +kernel
theorem dL_arrival_12 : decode cL_arrival 12 = .ok (.astore_n 3, 1) := by decide +kernel
theorem dL_arrival_13 : decode cL_arrival 13 = .ok (.iconst 1, 1) := by decide +kernel
theorem dL_arrival_14 : decode cL_arrival 14 = .ok (.ireturn, 1) := by decide +kernel
theorem dL_arrival_15 : decode cL_arrival 15 = .ok (.astore_n 3, 1) := by decide +kernel
theorem dL_arrival_16 : decode cL_arrival 16 = .ok (.iconst 2, 1) := by decide +kernel
theorem dL_arrival_17 : decode cL_arrival 17 = .ok (.ireturn, 1) := by decide +kernel
theorem dL_arrival_18 : decode cL_arrival 18 = .ok (.iconst 0, 1) := by decide +kernel
theorem dL_arrival_19 : decode cL_arrival 19 = .ok (.ireturn, 1) := by decide +kernel
theorem dL_nextCabin_0 : decode cL_nextCabin 0 = .ok (.aload_n 2, 1) := by decide +kernel
theorem dL_nextCabin_1 : decode cL_nextCabin 1 = .ok (.iconst 0, 1) := by decide +kernel
theorem dL_nextCabin_2 : decode cL_nextCabin 2 = .ok (.aload_n 0, 1) := by decide +kernel
theorem dL_nextCabin_3 : decode cL_nextCabin 3 = .ok (.iload_n 1, 1) := by decide +kernel
theorem dL_nextCabin_4 : decode cL_nextCabin 4 = .ok (.invokevirtual 89, 3) := by decide +kernel
theorem dL_nextCabin_7 : decode cL_nextCabin 7 = .ok (.i2l, 1) := by decide +kernel
theorem dL_nextCabin_8 : decode cL_nextCabin 8 = .ok (.lastore, 1) := by decide +kernel
theorem dL_nextCabin_9 : decode cL_nextCabin 9 = .ok (.goto 9, 3) := by decide +kernel
theorem dL_nextCabin_12 : decode cL_nextCabin 12 = .ok (.astore_n 3, 1) := by decide +kernel
theorem dL_nextCabin_13 : decode cL_nextCabin 13 = .ok (.iconst 1, 1) := by decide +kernel
theorem dL_nextCabin_14 : decode cL_nextCabin 14 = .ok (.ireturn, 1) := by decide +kernel
theorem dL_nextCabin_15 : decode cL_nextCabin 15 = .ok (.astore_n 3, 1) := by decide +kernel
theorem dL_nextCabin_16 : decode cL_nextCabin 16 = .ok (.iconst 2, 1) := by decide +kernel
theorem dL_nextCabin_17 : decode cL_nextCabin 17 = .ok (.ireturn, 1) := by decide +kernel
theorem dL_nextCabin_18 : decode cL_nextCabin 18 = .ok (.iconst 0, 1) := by decide +kernel
theorem dL_nextCabin_19 : decode cL_nextCabin 19 = .ok (.ireturn, 1) := by decide +kernel
theorem dL_duration_0 : decode cL_duration 0 = .ok (.aload 4, 2) := by decide +kernel
theorem dL_duration_2 : decode cL_duration 2 = .ok (.iconst 0, 1) := by decide +kernel
theorem dL_duration_3 : decode cL_duration 3 = .ok (.aload_n 0, 1) := by decide +kernel
theorem dL_duration_4 : decode cL_duration 4 = .ok (.iload_n 1, 1) := by decide +kernel
theorem dL_duration_5 : decode cL_duration 5 = .ok (.iload_n 2, 1) := by decide +kernel
theorem dL_duration_6 : decode cL_duration 6 = .ok (.iload_n 3, 1) := by decide +kernel
theorem dL_duration_7 : decode cL_duration 7 = .ok (.invokevirtual 92, 3) := by decide +kernel
theorem dL_duration_10 : decode cL_duration 10 = .ok (.i2l, 1) := by decide +kernel
theorem dL_duration_11 : decode cL_duration 11 = .ok (.lastore, 1) := by decide +kernel
theorem dL_duration_12 : decode cL_duration 12 = .ok (.goto 11, 3) := by decide +kernel
theorem dL_duration_15 : decode cL_duration 15 = .ok (.astore 5, 2) := by decide +kernel
theorem dL_duration_17 : decode cL_duration 17 = .ok (.iconst 1, 1) := by decide +kernel
theorem dL_duration_18 : decode cL_duration 18 = .ok (.ireturn, 1) := by decide +kernel
theorem dL_duration_19 : decode cL_duration 19 = .ok (.astore 5, 2) := by decide +kernel
theorem dL_duration_21 : decode cL_duration 21 = .ok (.iconst 2, 1) := by decide +kernel
theorem dL_duration_22 : decode cL_duration 22 = .ok (.ireturn, 1) := by decide +kernel
theorem dL_duration_23 : decode cL_duration 23 = .ok (.iconst 0, 1) := by decide +kernel
theorem dL_duration_24 : decode cL_duration 24 = .ok (.ireturn, 1) := by decide +kernel
theorem dL_firstPart_0 : decode cL_firstPart 0 = .ok (.aload 4, 2) := by decide +kernel
theorem dL_firstPart_2 : decode cL_firstPart 2 = .ok (.iconst 0, 1) := by decide +kernel
theorem dL_firstPart_3 : decode cL_firstPart 3 = .ok (.aload_n 0, 1) := by decide +kernel
theorem dL_firstPart_4 : decode cL_firstPart 4 = .ok (.iload_n 1, 1) := by decide +kernel
theorem dL_firstPart_5 : decode cL_firstPart 5 = .ok (.iload_n 2, 1) := by decide +kernel
theorem dL_firstPart_6 : decode cL_firstPart 6 = .ok (.iload_n 3, 1) := by decide +kernel
theorem dL_firstPart_7 : decode cL_firstPart 7 = .ok (.invokevirtual 96, 3) := by decide +kernel
theorem dL_firstPart_10 : decode cL_firstPart 10 = .ok (.i2l, 1) := by decide +kernel
theorem dL_firstPart_11 : decode cL_firstPart 11 = .ok (.lastore, 1) := by decide +kernel
theorem dL_firstPart_12 : decode cL_firstPart 12 = .ok (.goto 11, 3) := by decide +kernel
theorem dL_firstPart_15 : decode cL_firstPart 15 = .ok (.astore 5, 2) := by decide +kernel
theorem dL_firstPart_17 : decode cL_firstPart 17 = .ok (.iconst 1, 1) := by decide +kernel
theorem dL_firstPart_18 : decode cL_firstPart 18 = .ok (.ireturn, 1) := by decide +kernel
theorem dL_firstPart_19 : decode cL_firstPart 19 = .ok (.astore 5, 2) := by decide +kernel
theorem dL_firstPart_21 : decode cL_firstPart 21 = .ok (.iconst 2, 1) := by decide +kernel
theorem dL_firstPart_22 : decode cL_firstPart 22 = .ok (.ireturn, 1) := by decide +kernel
theorem dL_firstPart_23 : decode cL_firstPart 23 = .ok (.iconst 0, 1) := by decide +kernel
theorem dL_firstPart_24 : decode cL_firstPart 24 = .ok (.ireturn, 1) := by decide +kernel
theorem dL_reachable_0 : decode cL_reachable 0 = .ok (.aload_n 3, 1) := by decide +kernel
theorem dL_reachable_1 : decode cL_reachable 1 = .ok (.iconst 0, 1) := by decide +kernel
theorem dL_reachable_2 : decode cL_reachable 2 = .ok (.aload_n 0, 1) := by decide +kernel
theorem dL_reachable_3 : decode cL_reachable 3 = .ok (.iload_n 1, 1) := by decide +kernel
theorem dL_reachable_4 : decode cL_reachable 4 = .ok (.iload_n 2, 1) := by decide +kernel
theorem dL_reachable_5 : decode cL_reachable 5 = .ok (.invokevirtual 99, 3) := by decide +kernel
theorem dL_reachable_8 : decode cL_reachable 8 = .ok (.i2l, 1) := by decide +kernel
theorem dL_reachable_9 : decode cL_reachable 9 = .ok (.lastore, 1) := by decide +kernel
theorem dL_reachable_10 : decode cL_reachable 10 = .ok (.goto 7, 3) := by decide +kernel
theorem dL_reachable_13 : decode cL_reachable 13 = .ok (.astore 4, 2) := by decide +kernel
theorem dL_reachable_15 : decode cL_reachable 15 = .ok (.iconst 1, 1) := by decide +kernel
theorem dL_reachable_16 : decode cL_reachable 16 = .ok (.ireturn, 1) := by decide +kernel
theorem dL_reachable_17 : decode cL_reachable 17 = .ok (.iconst 0, 1) := by decide +kernel
theorem dL_reachable_18 : decode cL_reachable 18 = .ok (.ireturn, 1) := by decide +kernel
theorem dL_stranded_0 : decode cL_stranded 0 = .ok (.aload_n 3, 1) := by decide +kernel
theorem dL_stranded_1 : decode cL_stranded 1 = .ok (.iconst 0, 1) := by decide +kernel
theorem dL_stranded_2 : decode cL_stranded 2 = .ok (.aload_n 0, 1) := by decide +kernel
theorem dL_stranded_3 : decode cL_stranded 3 = .ok (.iload_n 1, 1) := by decide +kernel
theorem dL_stranded_4 : decode cL_stranded 4 = .ok (.iload_n 2, 1) := by decide +kernel
theorem dL_stranded_5 : decode cL_stranded 5 = .ok (.invokevirtual 102, 3) := by decide +kernel
theorem dL_stranded_8 : decode cL_stranded 8 = .ok (.i2l, 1) := by decide +kernel
theorem dL_stranded_9 : decode cL_stranded 9 = .ok (.lastore, 1) := by decide +kernel
theorem dL_stranded_10 : decode cL_stranded 10 = .ok (.goto 7, 3) := by decide +kernel
theorem dL_stranded_13 : decode cL_stranded 13 = .ok (.astore 4, 2) := by decide +kernel
theorem dL_stranded_15 : decode cL_stranded 15 = .ok (.iconst 1, 1) := by decide +kernel
theorem dL_stranded_16 : decode cL_stranded 16 = .ok (.ireturn, 1) := by decide +kernel
theorem dL_stranded_17 : decode cL_stranded 17 = .ok (.iconst 0, 1) := by decide +kernel
theorem dL_stranded_18 : decode cL_stranded 18 = .ok (.ireturn, 1) := by decide +kernel
theorem dL_liftAccount_0 : decode cL_liftAccount 0 = .ok (.aload_n 3, 1) := by decide +kernel
theorem dL_liftAccount_1 : decode cL_liftAccount 1 = .ok (.iconst 0, 1) := by decide +kernel
theorem dL_liftAccount_2 : decode cL_liftAccount 2 = .ok (.aload_n 0, 1) := by decide +kernel
theorem dL_liftAccount_3 : decode cL_liftAccount 3 = .ok (.iload_n 1, 1) := by decide +kernel
theorem dL_liftAccount_4 : decode cL_liftAccount 4 = .ok (.iload_n 2, 1) := by decide +kernel
theorem dL_liftAccount_5 : decode cL_liftAccount 5 = .ok (.invokevirtual 105, 3) := by decide +kernel
theorem dL_liftAccount_8 : decode cL_liftAccount 8 = .ok (.i2l, 1) := by decide +kernel
theorem dL_liftAccount_9 : decode cL_liftAccount 9 = .ok (.lastore, 1) := by decide +kernel
theorem dL_liftAccount_10 : decode cL_liftAccount 10 = .ok (.goto 11, 3) := by decide +kernel
theorem dL_liftAccount_13 : decode cL_liftAccount 13 = .ok (.astore 4, 2) := by decide +kernel
theorem dL_liftAccount_15 : decode cL_liftAccount 15 = .ok (.iconst 1, 1) := by decide +kernel
theorem dL_liftAccount_16 : decode cL_liftAccount 16 = .ok (.ireturn, 1) := by decide +kernel
theorem dL_liftAccount_17 : decode cL_liftAccount 17 = .ok (.astore 4, 2) := by decide +kernel
theorem dL_liftAccount_19 : decode cL_liftAccount 19 = .ok (.iconst 2, 1) := by decide +kernel
theorem dL_liftAccount_20 : decode cL_liftAccount 20 = .ok (.ireturn, 1) := by decide +kernel
theorem dL_liftAccount_21 : decode cL_liftAccount 21 = .ok (.iconst 0, 1) := by decide +kernel
theorem dL_liftAccount_22 : decode cL_liftAccount 22 = .ok (.ireturn, 1) := by decide +kernel
theorem dL_guestAccount_0 : decode cL_guestAccount 0 = .ok (.aload_n 3, 1) := by decide +kernel
theorem dL_guestAccount_1 : decode cL_guestAccount 1 = .ok (.iconst 0, 1) := by decide +kernel
theorem dL_guestAccount_2 : decode cL_guestAccount 2 = .ok (.aload_n 0, 1) := by decide +kernel
theorem dL_guestAccount_3 : decode cL_guestAccount 3 = .ok (.iload_n 1, 1) := by decide +kernel
theorem dL_guestAccount_4 : decode cL_guestAccount 4 = .ok (.iload_n 2, 1) := by decide +kernel
theorem dL_guestAccount_5 : decode cL_guestAccount 5 = .ok (.invokevirtual 108, 3) := by decide +kernel
theorem dL_guestAccount_8 : decode cL_guestAccount 8 = .ok (.i2l, 1) := by decide +kernel
theorem dL_guestAccount_9 : decode cL_guestAccount 9 = .ok (.lastore, 1) := by decide +kernel
theorem dL_guestAccount_10 : decode cL_guestAccount 10 = .ok (.goto 11, 3) := by decide +kernel
theorem dL_guestAccount_13 : decode cL_guestAccount 13 = .ok (.astore 4, 2) := by decide +kernel
theorem dL_guestAccount_15 : decode cL_guestAccount 15 = .ok (.iconst 1, 1) := by decide +kernel
theorem dL_guestAccount_16 : decode cL_guestAccount 16 = .ok (.ireturn, 1) := by decide +kernel
theorem dL_guestAccount_17 : decode cL_guestAccount 17 = .ok (.astore 4, 2) := by decide +kernel
theorem dL_guestAccount_19 : decode cL_guestAccount 19 = .ok (.iconst 2, 1) := by decide +kernel
theorem dL_guestAccount_20 : decode cL_guestAccount 20 = .ok (.ireturn, 1) := by decide +kernel
theorem dL_guestAccount_21 : decode cL_guestAccount 21 = .ok (.iconst 0, 1) := by decide +kernel
theorem dL_guestAccount_22 : decode cL_guestAccount 22 = .ok (.ireturn, 1) := by decide +kernel
theorem dL_pisteAccount_0 : decode cL_pisteAccount 0 = .ok (.aload_n 2, 1) := by decide +kernel
theorem dL_pisteAccount_1 : decode cL_pisteAccount 1 = .ok (.iconst 0, 1) := by decide +kernel
theorem dL_pisteAccount_2 : decode cL_pisteAccount 2 = .ok (.aload_n 0, 1) := by decide +kernel
theorem dL_pisteAccount_3 : decode cL_pisteAccount 3 = .ok (.iload_n 1, 1) := by decide +kernel
theorem dL_pisteAccount_4 : decode cL_pisteAccount 4 = .ok (.invokevirtual 111, 3) := by decide +kernel
theorem dL_pisteAccount_7 : decode cL_pisteAccount 7 = .ok (.i2l, 1) := by decide +kernel
theorem dL_pisteAccount_8 : decode cL_pisteAccount 8 = .ok (.lastore, 1) := by decide +kernel
theorem dL_pisteAccount_9 : decode cL_pisteAccount 9 = .ok (.goto 6, 3) := by decide +kernel
theorem dL_pisteAccount_12 : decode cL_pisteAccount 12 = .ok (.astore_n 3, 1) := by decide +kernel
theorem dL_pisteAccount_13 : decode cL_pisteAccount 13 = .ok (.iconst 1, 1) := by decide +kernel
theorem dL_pisteAccount_14 : decode cL_pisteAccount 14 = .ok (.ireturn, 1) := by decide +kernel
theorem dL_pisteAccount_15 : decode cL_pisteAccount 15 = .ok (.iconst 0, 1) := by decide +kernel
theorem dL_pisteAccount_16 : decode cL_pisteAccount 16 = .ok (.ireturn, 1) := by decide +kernel
theorem dL_busiest_0 : decode cL_busiest 0 = .ok (.aload_n 1, 1) := by decide +kernel
theorem dL_busiest_1 : decode cL_busiest 1 = .ok (.iconst 0, 1) := by decide +kernel
theorem dL_busiest_2 : decode cL_busiest 2 = .ok (.aload_n 0, 1) := by decide +kernel
theorem dL_busiest_3 : decode cL_busiest 3 = .ok (.invokevirtual 114, 3) := by decide +kernel
theorem dL_busiest_6 : decode cL_busiest 6 = .ok (.i2l, 1) := by decide +kernel
theorem dL_busiest_7 : decode cL_busiest 7 = .ok (.lastore, 1) := by decide +kernel
theorem dL_busiest_8 : decode cL_busiest 8 = .ok (.goto 6, 3) := by decide +kernel
theorem dL_busiest_11 : decode cL_busiest 11 = .ok (.astore_n 2, 1) := by decide +kernel
theorem dL_busiest_12 : decode cL_busiest 12 = .ok (.iconst 1, 1) := by decide +kernel
theorem dL_busiest_13 : decode cL_busiest 13 = .ok (.ireturn, 1) := by decide +kernel
theorem dL_busiest_14 : decode cL_busiest 14 = .ok (.iconst 0, 1) := by decide +kernel
theorem dL_busiest_15 : decode cL_busiest 15 = .ok (.ireturn, 1) := by decide +kernel
theorem dL_load_0 : decode cL_load 0 = .ok (.aload_n 2, 1) := by decide +kernel
theorem dL_load_1 : decode cL_load 1 = .ok (.iconst 0, 1) := by decide +kernel
theorem dL_load_2 : decode cL_load 2 = .ok (.aload_n 0, 1) := by decide +kernel
theorem dL_load_3 : decode cL_load 3 = .ok (.iload_n 1, 1) := by decide +kernel
theorem dL_load_4 : decode cL_load 4 = .ok (.invokevirtual 117, 3) := by decide +kernel
theorem dL_load_7 : decode cL_load 7 = .ok (.dastore, 1) := by decide +kernel
theorem dL_load_8 : decode cL_load 8 = .ok (.goto 9, 3) := by decide +kernel
theorem dL_load_11 : decode cL_load 11 = .ok (.astore_n 3, 1) := by decide +kernel
theorem dL_load_12 : decode cL_load 12 = .ok (.iconst 1, 1) := by decide +kernel
theorem dL_load_13 : decode cL_load 13 = .ok (.ireturn, 1) := by decide +kernel
theorem dL_load_14 : decode cL_load 14 = .ok (.astore_n 3, 1) := by decide +kernel
theorem dL_load_15 : decode cL_load 15 = .ok (.iconst 2, 1) := by decide +kernel
theorem dL_load_16 : decode cL_load 16 = .ok (.ireturn, 1) := by decide +kernel
theorem dL_load_17 : decode cL_load 17 = .ok (.iconst 0, 1) := by decide +kernel
theorem dL_load_18 : decode cL_load 18 = .ok (.ireturn, 1) := by decide +kernel
theorem dL_append_0 : decode cL_append 0 = .ok (.aload_n 2, 1) := by decide +kernel
theorem dL_append_1 : decode cL_append 1 = .ok (.iconst 0, 1) := by decide +kernel
theorem dL_append_2 : decode cL_append 2 = .ok (.aload_n 0, 1) := by decide +kernel
theorem dL_append_3 : decode cL_append 3 = .ok (.iload_n 1, 1) := by decide +kernel
theorem dL_append_4 : decode cL_append 4 = .ok (.invokevirtual 123, 3) := by decide +kernel
theorem dL_append_7 : decode cL_append 7 = .ok (.i2l, 1) := by decide +kernel
theorem dL_append_8 : decode cL_append 8 = .ok (.lastore, 1) := by decide +kernel
theorem dL_append_9 : decode cL_append 9 = .ok (.goto 9, 3) := by decide +kernel
theorem dL_append_12 : decode cL_append 12 = .ok (.astore_n 3, 1) := by decide +kernel
theorem dL_append_13 : decode cL_append 13 = .ok (.iconst 1, 1) := by decide +kernel
theorem dL_append_14 : decode cL_append 14 = .ok (.ireturn, 1) := by decide +kernel
theorem dL_append_15 : decode cL_append 15 = .ok (.astore_n 3, 1) := by decide +kernel
theorem dL_append_16 : decode cL_append 16 = .ok (.iconst 2, 1) := by decide +kernel
theorem dL_append_17 : decode cL_append 17 = .ok (.ireturn, 1) := by decide +kernel
theorem dL_append_18 : decode cL_append 18 = .ok (.iconst 0, 1) := by decide +kernel
theorem dL_append_19 : decode cL_append 19 = .ok (.ireturn, 1) := by decide +kernel
theorem dL_read_0 : decode cL_read 0 = .ok (.aload_n 1, 1) := by decide +kernel
theorem dL_read_1 : decode cL_read 1 = .ok (.iconst 0, 1) := by decide +kernel
theorem dL_read_2 : decode cL_read 2 = .ok (.aload_n 0, 1) := by decide +kernel
theorem dL_read_3 : decode cL_read 3 = .ok (.invokevirtual 127, 3) := by decide +kernel
theorem dL_read_6 : decode cL_read 6 = .ok (.i2l, 1) := by decide +kernel
theorem dL_read_7 : decode cL_read 7 = .ok (.lastore, 1) := by decide +kernel
theorem dL_read_8 : decode cL_read 8 = .ok (.goto 9, 3) := by decide +kernel
theorem dL_read_11 : decode cL_read 11 = .ok (.astore_n 2, 1) := by decide +kernel
theorem dL_read_12 : decode cL_read 12 = .ok (.iconst 1, 1) := by decide +kernel
theorem dL_read_13 : decode cL_read 13 = .ok (.ireturn, 1) := by decide +kernel
theorem dL_read_14 : decode cL_read 14 = .ok (.astore_n 2, 1) := by decide +kernel
theorem dL_read_15 : decode cL_read 15 = .ok (.iconst 2, 1) := by decide +kernel
theorem dL_read_16 : decode cL_read 16 = .ok (.ireturn, 1) := by decide +kernel
theorem dL_read_17 : decode cL_read 17 = .ok (.iconst 0, 1) := by decide +kernel
theorem dL_read_18 : decode cL_read 18 = .ok (.ireturn, 1) := by decide +kernel
theorem dL_errorPosition_0 : decode cL_errorPosition 0 = .ok (.aload_n 1, 1) := by decide +kernel
theorem dL_errorPosition_1 : decode cL_errorPosition 1 = .ok (.iconst 0, 1) := by decide +kernel
theorem dL_errorPosition_2 : decode cL_errorPosition 2 = .ok (.aload_n 0, 1) := by decide +kernel
theorem dL_errorPosition_3 : decode cL_errorPosition 3 = .ok (.invokevirtual 130, 3) := by decide +kernel
theorem dL_errorPosition_6 : decode cL_errorPosition 6 = .ok (.i2l, 1) := by decide +kernel
theorem dL_errorPosition_7 : decode cL_errorPosition 7 = .ok (.lastore, 1) := by decide +kernel
theorem dL_errorPosition_8 : decode cL_errorPosition 8 = .ok (.goto 6, 3) := by decide +kernel
theorem dL_errorPosition_11 : decode cL_errorPosition 11 = .ok (.astore_n 2, 1) := by decide +kernel
theorem dL_errorPosition_12 : decode cL_errorPosition 12 = .ok (.iconst 1, 1) := by decide +kernel
theorem dL_errorPosition_13 : decode cL_errorPosition 13 = .ok (.ireturn, 1) := by decide +kernel
theorem dL_errorPosition_14 : decode cL_errorPosition 14 = .ok (.iconst 0, 1) := by decide +kernel
theorem dL_errorPosition_15 : decode cL_errorPosition 15 = .ok (.ireturn, 1) := by decide +kernel
theorem dL_undo_0 : decode cL_undo 0 = .ok (.aload_n 1, 1) := by decide +kernel
theorem dL_undo_1 : decode cL_undo 1 = .ok (.iconst 0, 1) := by decide +kernel
theorem dL_undo_2 : decode cL_undo 2 = .ok (.aload_n 0, 1) := by decide +kernel
theorem dL_undo_3 : decode cL_undo 3 = .ok (.invokevirtual 133, 3) := by decide +kernel
theorem dL_undo_6 : decode cL_undo 6 = .ok (.i2l, 1) := by decide +kernel
theorem dL_undo_7 : decode cL_undo 7 = .ok (.lastore, 1) := by decide +kernel
theorem dL_undo_8 : decode cL_undo 8 = .ok (.goto 6, 3) := by decide +kernel
theorem dL_undo_11 : decode cL_undo 11 = .ok (.astore_n 2, 1) := by decide +kernel
theorem dL_undo_12 : decode cL_undo 12 = .ok (.iconst 1, 1) := by decide +kernel
theorem dL_undo_13 : decode cL_undo 13 = .ok (.ireturn, 1) := by decide +kernel
theorem dL_undo_14 : decode cL_undo 14 = .ok (.iconst 0, 1) := by decide +kernel
theorem dL_undo_15 : decode cL_undo 15 = .ok (.ireturn, 1) := by decide +kernel
theorem dL_restore_0 : decode cL_restore 0 = .ok (.aload_n 1, 1) := by decide +kernel
theorem dL_restore_1 : decode cL_restore 1 = .ok (.iconst 0, 1) := by decide +kernel
theorem dL_restore_2 : decode cL_restore 2 = .ok (.aload_n 0, 1) := by decide +kernel
theorem dL_restore_3 : decode cL_restore 3 = .ok (.invokevirtual 136, 3) := by decide +kernel
theorem dL_restore_6 : decode cL_restore 6 = .ok (.i2l, 1) := by decide +kernel
theorem dL_restore_7 : decode cL_restore 7 = .ok (.lastore, 1) := by decide +kernel
theorem dL_restore_8 : decode cL_restore 8 = .ok (.goto 6, 3) := by decide +kernel
theorem dL_restore_11 : decode cL_restore 11 = .ok (.astore_n 2, 1) := by decide +kernel
theorem dL_restore_12 : decode cL_restore 12 = .ok (.iconst 1, 1) := by decide +kernel
theorem dL_restore_13 : decode cL_restore 13 = .ok (.ireturn, 1) := by decide +kernel
theorem dL_restore_14 : decode cL_restore 14 = .ok (.iconst 0, 1) := by decide +kernel
theorem dL_restore_15 : decode cL_restore 15 = .ok (.ireturn, 1) := by decide +kernel
