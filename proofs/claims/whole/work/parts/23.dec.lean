theorem dB_keepFor_36 : decode prog_1_method_41_code 36 = .ok (.invokevirtual 324, 3) := by decide +kernel
theorem dB_keepFor_39 : decode prog_1_method_41_code 39 = .ok (.aload_n 1, 1) := by decide +kernel
theorem dB_keepFor_40 : decode prog_1_method_41_code 40 = .ok (.invokevirtual 328, 3) := by decide +kernel
theorem dB_keepFor_43 : decode prog_1_method_41_code 43 = .ok (.aload_n 0, 1) := by decide +kernel
theorem dB_keepFor_44 : decode prog_1_method_41_code 44 = .ok (.aload_n 2, 1) := by decide +kernel
theorem dB_keepFor_45 : decode prog_1_method_41_code 45 = .ok (.aload_n 1, 1) := by decide +kernel
theorem dB_keepFor_46 : decode prog_1_method_41_code 46 = .ok (.invokevirtual 134, 3) := by decide +kernel
theorem dB_keepFor_49 : decode prog_1_method_41_code 49 = .ok (.iconst 4, 1) := by decide +kernel
theorem dB_keepFor_50 : decode prog_1_method_41_code 50 = .ok (.ireturn, 1) := by decide +kernel
theorem dB_taskTurn_0 : decode prog_1_method_40_code 0 = .ok (.aload_n 1, 1) := by decide +kernel
theorem dB_taskTurn_1 : decode prog_1_method_40_code 1 = .ok (.getfield 131, 3) := by decide +kernel
theorem dB_taskTurn_4 : decode prog_1_method_40_code 4 = .ok (.ifCond .ne 10, 3) := by decide +kernel
theorem dB_taskTurn_7 : decode prog_1_method_40_code 7 = .ok (.aload_n 1, 1) := by decide +kernel
theorem dB_taskTurn_8 : decode prog_1_method_40_code 8 = .ok (.getfield 80, 3) := by decide +kernel
theorem dB_taskTurn_11 : decode prog_1_method_40_code 11 = .ok (.ifCond .ne 5, 3) := by decide +kernel
theorem dB_taskTurn_14 : decode prog_1_method_40_code 14 = .ok (.iconst 0, 1) := by decide +kernel
theorem dB_taskTurn_15 : decode prog_1_method_40_code 15 = .ok (.ireturn, 1) := by decide +kernel
theorem dB_taskTurn_16 : decode prog_1_method_40_code 16 = .ok (.aload_n 1, 1) := by decide +kernel
theorem dB_taskTurn_17 : decode prog_1_method_40_code 17 = .ok (.invokevirtual 305, 3) := by decide +kernel
theorem dB_taskTurn_20 : decode prog_1_method_40_code 20 = .ok (.ifCond .eq 9, 3) := by decide +kernel
theorem dB_taskTurn_23 : decode prog_1_method_40_code 23 = .ok (.aload_n 0, 1) := by decide +kernel
theorem dB_taskTurn_24 : decode prog_1_method_40_code 24 = .ok (.aload_n 1, 1) := by decide +kernel
theorem dB_taskTurn_25 : decode prog_1_method_40_code 25 = .ok (.invokevirtual 309, 3) := by decide +kernel
theorem dB_taskTurn_28 : decode prog_1_method_40_code 28 = .ok (.ireturn, 1) := by decide +kernel
theorem dB_taskTurn_29 : decode prog_1_method_40_code 29 = .ok (.aload_n 1, 1) := by decide +kernel
theorem dB_taskTurn_30 : decode prog_1_method_40_code 30 = .ok (.invokevirtual 312, 3) := by decide +kernel
theorem dB_taskTurn_33 : decode prog_1_method_40_code 33 = .ok (.istore_n 2, 1) := by decide +kernel
theorem dB_taskTurn_34 : decode prog_1_method_40_code 34 = .ok (.iload_n 2, 1) := by decide +kernel
theorem dB_taskTurn_35 : decode prog_1_method_40_code 35 = .ok (.iconst (-1), 1) := by decide +kernel
theorem dB_taskTurn_36 : decode prog_1_method_40_code 36 = .ok (.if_icmp .ne 11, 3) := by decide +kernel
theorem dB_taskTurn_39 : decode prog_1_method_40_code 39 = .ok (.aload_n 0, 1) := by decide +kernel
theorem dB_taskTurn_40 : decode prog_1_method_40_code 40 = .ok (.aload_n 1, 1) := by decide +kernel
theorem dB_taskTurn_41 : decode prog_1_method_40_code 41 = .ok (.invokevirtual 314, 3) := by decide +kernel
theorem dB_taskTurn_44 : decode prog_1_method_40_code 44 = .ok (.goto 13, 3) := by decide +kernel
theorem dB_taskTurn_47 : decode prog_1_method_40_code 47 = .ok (.aload_n 0, 1) := by decide +kernel
theorem dB_taskTurn_48 : decode prog_1_method_40_code 48 = .ok (.aload_n 1, 1) := by decide +kernel
theorem dB_taskTurn_49 : decode prog_1_method_40_code 49 = .ok (.aload_n 0, 1) := by decide +kernel
theorem dB_taskTurn_50 : decode prog_1_method_40_code 50 = .ok (.iload_n 2, 1) := by decide +kernel
theorem dB_taskTurn_51 : decode prog_1_method_40_code 51 = .ok (.invokevirtual 230, 3) := by decide +kernel
theorem dB_taskTurn_54 : decode prog_1_method_40_code 54 = .ok (.invokevirtual 317, 3) := by decide +kernel
theorem dB_taskTurn_57 : decode prog_1_method_40_code 57 = .ok (.ireturn, 1) := by decide +kernel
theorem dB_turn_0 : decode prog_1_method_6_code 0 = .ok (.iload_n 1, 1) := by decide +kernel
theorem dB_turn_1 : decode prog_1_method_6_code 1 = .ok (.iconst (-1), 1) := by decide +kernel
theorem dB_turn_2 : decode prog_1_method_6_code 2 = .ok (.if_icmp .ne 10, 3) := by decide +kernel
theorem dB_turn_5 : decode prog_1_method_6_code 5 = .ok (.aload_n 0, 1) := by decide +kernel
theorem dB_turn_6 : decode prog_1_method_6_code 6 = .ok (.invokevirtual 138, 3) := by decide +kernel
theorem dB_turn_9 : decode prog_1_method_6_code 9 = .ok (.goto 12, 3) := by decide +kernel
theorem dB_turn_12 : decode prog_1_method_6_code 12 = .ok (.aload_n 0, 1) := by decide +kernel
theorem dB_turn_13 : decode prog_1_method_6_code 13 = .ok (.aload_n 0, 1) := by decide +kernel
theorem dB_turn_14 : decode prog_1_method_6_code 14 = .ok (.iload_n 1, 1) := by decide +kernel
theorem dB_turn_15 : decode prog_1_method_6_code 15 = .ok (.invokevirtual 54, 3) := by decide +kernel
theorem dB_turn_18 : decode prog_1_method_6_code 18 = .ok (.invokevirtual 142, 3) := by decide +kernel
theorem dB_turn_21 : decode prog_1_method_6_code 21 = .ok (.ireturn, 1) := by decide +kernel
theorem dB_play_0 : decode prog_1_method_7_code 0 = .ok (.iload_n 3, 1) := by decide +kernel
theorem dB_play_1 : decode prog_1_method_7_code 1 = .ok (.iconst 1, 1) := by decide +kernel
theorem dB_play_2 : decode prog_1_method_7_code 2 = .ok (.if_icmp .lt 10, 3) := by decide +kernel
theorem dB_play_5 : decode prog_1_method_7_code 5 = .ok (.iload_n 3, 1) := by decide +kernel
theorem dB_play_6 : decode prog_1_method_7_code 6 = .ok (.sipush 2000, 3) := by decide +kernel
theorem dB_play_9 : decode prog_1_method_7_code 9 = .ok (.if_icmp .le 13, 3) := by decide +kernel
theorem dB_play_12 : decode prog_1_method_7_code 12 = .ok (.new 87, 3) := by decide +kernel
theorem dB_play_15 : decode prog_1_method_7_code 15 = .ok (.dup, 1) := by decide +kernel
theorem dB_play_16 : decode prog_1_method_7_code 16 = .ok (.ldc 146, 2) := by decide +kernel
theorem dB_play_18 : decode prog_1_method_7_code 18 = .ok (.invokespecial 91, 3) := by decide +kernel
theorem dB_play_21 : decode prog_1_method_7_code 21 = .ok (.athrow, 1) := by decide +kernel
theorem dB_play_22 : decode prog_1_method_7_code 22 = .ok (.lload_n 1, 1) := by decide +kernel
theorem dB_play_23 : decode prog_1_method_7_code 23 = .ok (.lstore 4, 2) := by decide +kernel
theorem dB_play_25 : decode prog_1_method_7_code 25 = .ok (.iconst 0, 1) := by decide +kernel
theorem dB_play_26 : decode prog_1_method_7_code 26 = .ok (.istore 6, 2) := by decide +kernel
theorem dB_play_28 : decode prog_1_method_7_code 28 = .ok (.iconst 0, 1) := by decide +kernel
theorem dB_play_29 : decode prog_1_method_7_code 29 = .ok (.istore 7, 2) := by decide +kernel
theorem dB_play_31 : decode prog_1_method_7_code 31 = .ok (.iload 7, 2) := by decide +kernel
theorem dB_play_33 : decode prog_1_method_7_code 33 = .ok (.iload_n 3, 1) := by decide +kernel
theorem dB_play_34 : decode prog_1_method_7_code 34 = .ok (.if_icmp .ge 77, 3) := by decide +kernel
theorem dB_play_37 : decode prog_1_method_7_code 37 = .ok (.ldc2_w 148, 3) := by decide +kernel
theorem dB_play_40 : decode prog_1_method_7_code 40 = .ok (.lload 4, 2) := by decide +kernel
theorem dB_play_42 : decode prog_1_method_7_code 42 = .ok (.lmul, 1) := by decide +kernel
theorem dB_play_43 : decode prog_1_method_7_code 43 = .ok (.ldc2_w 150, 3) := by decide +kernel
theorem dB_play_46 : decode prog_1_method_7_code 46 = .ok (.ladd, 1) := by decide +kernel
theorem dB_play_47 : decode prog_1_method_7_code 47 = .ok (.lstore 4, 2) := by decide +kernel
theorem dB_play_49 : decode prog_1_method_7_code 49 = .ok (.lload 4, 2) := by decide +kernel
theorem dB_play_51 : decode prog_1_method_7_code 51 = .ok (.bipush 33, 2) := by decide +kernel
theorem dB_play_53 : decode prog_1_method_7_code 53 = .ok (.lushr, 1) := by decide +kernel
theorem dB_play_54 : decode prog_1_method_7_code 54 = .ok (.aload_n 0, 1) := by decide +kernel
theorem dB_play_55 : decode prog_1_method_7_code 55 = .ok (.getfield 39, 3) := by decide +kernel
theorem dB_play_58 : decode prog_1_method_7_code 58 = .ok (.arraylength, 1) := by decide +kernel
theorem dB_play_59 : decode prog_1_method_7_code 59 = .ok (.iconst 1, 1) := by decide +kernel
theorem dB_play_60 : decode prog_1_method_7_code 60 = .ok (.iadd, 1) := by decide +kernel
theorem dB_play_61 : decode prog_1_method_7_code 61 = .ok (.i2l, 1) := by decide +kernel
theorem dB_play_62 : decode prog_1_method_7_code 62 = .ok (.lrem, 1) := by decide +kernel
theorem dB_play_63 : decode prog_1_method_7_code 63 = .ok (.l2i, 1) := by decide +kernel
theorem dB_play_64 : decode prog_1_method_7_code 64 = .ok (.istore 8, 2) := by decide +kernel
theorem dB_play_66 : decode prog_1_method_7_code 66 = .ok (.iload 8, 2) := by decide +kernel
theorem dB_play_68 : decode prog_1_method_7_code 68 = .ok (.aload_n 0, 1) := by decide +kernel
theorem dB_play_69 : decode prog_1_method_7_code 69 = .ok (.getfield 39, 3) := by decide +kernel
theorem dB_play_72 : decode prog_1_method_7_code 72 = .ok (.arraylength, 1) := by decide +kernel
theorem dB_play_73 : decode prog_1_method_7_code 73 = .ok (.if_icmp .ge 17, 3) := by decide +kernel
theorem dB_play_76 : decode prog_1_method_7_code 76 = .ok (.aload_n 0, 1) := by decide +kernel
theorem dB_play_77 : decode prog_1_method_7_code 77 = .ok (.aload_n 0, 1) := by decide +kernel
theorem dB_play_78 : decode prog_1_method_7_code 78 = .ok (.getfield 39, 3) := by decide +kernel
theorem dB_play_81 : decode prog_1_method_7_code 81 = .ok (.iload 8, 2) := by decide +kernel
theorem dB_play_83 : decode prog_1_method_7_code 83 = .ok (.aaload, 1) := by decide +kernel
theorem dB_play_84 : decode prog_1_method_7_code 84 = .ok (.invokevirtual 142, 3) := by decide +kernel
theorem dB_play_87 : decode prog_1_method_7_code 87 = .ok (.goto 7, 3) := by decide +kernel
theorem dB_play_90 : decode prog_1_method_7_code 90 = .ok (.aload_n 0, 1) := by decide +kernel
theorem dB_play_91 : decode prog_1_method_7_code 91 = .ok (.invokevirtual 138, 3) := by decide +kernel
theorem dB_play_94 : decode prog_1_method_7_code 94 = .ok (.istore 9, 2) := by decide +kernel
theorem dB_play_96 : decode prog_1_method_7_code 96 = .ok (.iload 9, 2) := by decide +kernel
theorem dB_play_98 : decode prog_1_method_7_code 98 = .ok (.iconst 1, 1) := by decide +kernel
theorem dB_play_99 : decode prog_1_method_7_code 99 = .ok (.if_icmp .ne 6, 3) := by decide +kernel
theorem dB_play_102 : decode prog_1_method_7_code 102 = .ok (.iinc 6 1, 3) := by decide +kernel
theorem dB_play_105 : decode prog_1_method_7_code 105 = .ok (.iinc 7 1, 3) := by decide +kernel
theorem dB_play_108 : decode prog_1_method_7_code 108 = .ok (.goto (-77), 3) := by decide +kernel
theorem dB_play_111 : decode prog_1_method_7_code 111 = .ok (.iload 6, 2) := by decide +kernel
theorem dB_play_113 : decode prog_1_method_7_code 113 = .ok (.ireturn, 1) := by decide +kernel
theorem dB_begunMarkAt_0 : decode prog_1_method_30_code 0 = .ok (.aload_n 0, 1) := by decide +kernel
theorem dB_begunMarkAt_1 : decode prog_1_method_30_code 1 = .ok (.iload_n 1, 1) := by decide +kernel
theorem dB_begunMarkAt_2 : decode prog_1_method_30_code 2 = .ok (.invokevirtual 230, 3) := by decide +kernel
theorem dB_begunMarkAt_5 : decode prog_1_method_30_code 5 = .ok (.astore_n 2, 1) := by decide +kernel
theorem dB_begunMarkAt_6 : decode prog_1_method_30_code 6 = .ok (.aload_n 2, 1) := by decide +kernel
theorem dB_begunMarkAt_7 : decode prog_1_method_30_code 7 = .ok (.getfield 183, 3) := by decide +kernel
theorem dB_begunMarkAt_10 : decode prog_1_method_30_code 10 = .ok (.ifCond .eq 14, 3) := by decide +kernel
theorem dB_begunMarkAt_13 : decode prog_1_method_30_code 13 = .ok (.new 66, 3) := by decide +kernel
theorem dB_begunMarkAt_16 : decode prog_1_method_30_code 16 = .ok (.dup, 1) := by decide +kernel
theorem dB_begunMarkAt_17 : decode prog_1_method_30_code 17 = .ok (.ldc_w 269, 3) := by decide +kernel
theorem dB_begunMarkAt_20 : decode prog_1_method_30_code 20 = .ok (.invokespecial 70, 3) := by decide +kernel
theorem dB_begunMarkAt_23 : decode prog_1_method_30_code 23 = .ok (.athrow, 1) := by decide +kernel
theorem dB_begunMarkAt_24 : decode prog_1_method_30_code 24 = .ok (.aload_n 2, 1) := by decide +kernel
theorem dB_begunMarkAt_25 : decode prog_1_method_30_code 25 = .ok (.areturn, 1) := by decide +kernel
theorem dB_giveUp_0 : decode prog_1_method_8_code 0 = .ok (.aload_n 0, 1) := by decide +kernel
theorem dB_giveUp_1 : decode prog_1_method_8_code 1 = .ok (.iload_n 1, 1) := by decide +kernel
theorem dB_giveUp_2 : decode prog_1_method_8_code 2 = .ok (.invokevirtual 152, 3) := by decide +kernel
theorem dB_giveUp_5 : decode prog_1_method_8_code 5 = .ok (.astore_n 2, 1) := by decide +kernel
theorem dB_giveUp_6 : decode prog_1_method_8_code 6 = .ok (.aload_n 0, 1) := by decide +kernel
theorem dB_giveUp_7 : decode prog_1_method_8_code 7 = .ok (.aload_n 2, 1) := by decide +kernel
theorem dB_giveUp_8 : decode prog_1_method_8_code 8 = .ok (.iconst 2, 1) := by decide +kernel
theorem dB_giveUp_9 : decode prog_1_method_8_code 9 = .ok (.invokevirtual 156, 3) := by decide +kernel
theorem dB_giveUp_12 : decode prog_1_method_8_code 12 = .ok (.aload_n 2, 1) := by decide +kernel
theorem dB_giveUp_13 : decode prog_1_method_8_code 13 = .ok (.getfield 160, 3) := by decide +kernel
theorem dB_giveUp_16 : decode prog_1_method_8_code 16 = .ok (.ireturn, 1) := by decide +kernel
theorem dB_fails_0 : decode prog_1_method_9_code 0 = .ok (.aload_n 0, 1) := by decide +kernel
theorem dB_fails_1 : decode prog_1_method_9_code 1 = .ok (.iload_n 1, 1) := by decide +kernel
theorem dB_fails_2 : decode prog_1_method_9_code 2 = .ok (.invokevirtual 54, 3) := by decide +kernel
theorem dB_fails_5 : decode prog_1_method_9_code 5 = .ok (.pop, 1) := by decide +kernel
theorem dB_fails_6 : decode prog_1_method_9_code 6 = .ok (.aload_n 0, 1) := by decide +kernel
theorem dB_fails_7 : decode prog_1_method_9_code 7 = .ok (.iload_n 2, 1) := by decide +kernel
theorem dB_fails_8 : decode prog_1_method_9_code 8 = .ok (.invokevirtual 152, 3) := by decide +kernel
theorem dB_fails_11 : decode prog_1_method_9_code 11 = .ok (.astore_n 3, 1) := by decide +kernel
theorem dB_fails_12 : decode prog_1_method_9_code 12 = .ok (.aload_n 3, 1) := by decide +kernel
theorem dB_fails_13 : decode prog_1_method_9_code 13 = .ok (.getfield 163, 3) := by decide +kernel
theorem dB_fails_16 : decode prog_1_method_9_code 16 = .ok (.iload_n 1, 1) := by decide +kernel
theorem dB_fails_17 : decode prog_1_method_9_code 17 = .ok (.baload, 1) := by decide +kernel
theorem dB_fails_18 : decode prog_1_method_9_code 18 = .ok (.ifCond .ne 12, 3) := by decide +kernel
theorem dB_fails_21 : decode prog_1_method_9_code 21 = .ok (.aload_n 3, 1) := by decide +kernel
theorem dB_fails_22 : decode prog_1_method_9_code 22 = .ok (.getfield 167, 3) := by decide +kernel
theorem dB_fails_25 : decode prog_1_method_9_code 25 = .ok (.iload_n 1, 1) := by decide +kernel
theorem dB_fails_26 : decode prog_1_method_9_code 26 = .ok (.baload, 1) := by decide +kernel
theorem dB_fails_27 : decode prog_1_method_9_code 27 = .ok (.ifCond .eq 13, 3) := by decide +kernel
theorem dB_fails_30 : decode prog_1_method_9_code 30 = .ok (.new 66, 3) := by decide +kernel
theorem dB_fails_33 : decode prog_1_method_9_code 33 = .ok (.dup, 1) := by decide +kernel
theorem dB_fails_34 : decode prog_1_method_9_code 34 = .ok (.ldc 170, 2) := by decide +kernel
theorem dB_fails_36 : decode prog_1_method_9_code 36 = .ok (.invokespecial 70, 3) := by decide +kernel
theorem dB_fails_39 : decode prog_1_method_9_code 39 = .ok (.athrow, 1) := by decide +kernel
theorem dB_fails_40 : decode prog_1_method_9_code 40 = .ok (.aload_n 3, 1) := by decide +kernel
theorem dB_fails_41 : decode prog_1_method_9_code 41 = .ok (.getfield 167, 3) := by decide +kernel
theorem dB_fails_44 : decode prog_1_method_9_code 44 = .ok (.iload_n 1, 1) := by decide +kernel
theorem dB_fails_45 : decode prog_1_method_9_code 45 = .ok (.iconst 1, 1) := by decide +kernel
theorem dB_fails_46 : decode prog_1_method_9_code 46 = .ok (.bastore, 1) := by decide +kernel
theorem dB_fails_47 : decode prog_1_method_9_code 47 = .ok (.return_, 1) := by decide +kernel
theorem dB_again_0 : decode prog_1_method_10_code 0 = .ok (.aload_n 0, 1) := by decide +kernel
theorem dB_again_1 : decode prog_1_method_10_code 1 = .ok (.iload_n 2, 1) := by decide +kernel
theorem dB_again_2 : decode prog_1_method_10_code 2 = .ok (.invokevirtual 54, 3) := by decide +kernel
theorem dB_again_5 : decode prog_1_method_10_code 5 = .ok (.pop, 1) := by decide +kernel
theorem dB_again_6 : decode prog_1_method_10_code 6 = .ok (.aload_n 0, 1) := by decide +kernel
theorem dB_again_7 : decode prog_1_method_10_code 7 = .ok (.iload_n 1, 1) := by decide +kernel
theorem dB_again_8 : decode prog_1_method_10_code 8 = .ok (.invokevirtual 152, 3) := by decide +kernel
theorem dB_again_11 : decode prog_1_method_10_code 11 = .ok (.astore_n 3, 1) := by decide +kernel
theorem dB_again_12 : decode prog_1_method_10_code 12 = .ok (.aload_n 3, 1) := by decide +kernel
theorem dB_again_13 : decode prog_1_method_10_code 13 = .ok (.getfield 163, 3) := by decide +kernel
theorem dB_again_16 : decode prog_1_method_10_code 16 = .ok (.iload_n 2, 1) := by decide +kernel
theorem dB_again_17 : decode prog_1_method_10_code 17 = .ok (.baload, 1) := by decide +kernel
theorem dB_again_18 : decode prog_1_method_10_code 18 = .ok (.ifCond .eq 16, 3) := by decide +kernel
theorem dB_again_21 : decode prog_1_method_10_code 21 = .ok (.aload_n 0, 1) := by decide +kernel
theorem dB_again_22 : decode prog_1_method_10_code 22 = .ok (.getfield 24, 3) := by decide +kernel
theorem dB_again_25 : decode prog_1_method_10_code 25 = .ok (.getfield 172, 3) := by decide +kernel
theorem dB_again_28 : decode prog_1_method_10_code 28 = .ok (.sipush 200, 3) := by decide +kernel
theorem dB_again_31 : decode prog_1_method_10_code 31 = .ok (.if_icmp .lt 13, 3) := by decide +kernel
theorem dB_again_34 : decode prog_1_method_10_code 34 = .ok (.new 66, 3) := by decide +kernel
theorem dB_again_37 : decode prog_1_method_10_code 37 = .ok (.dup, 1) := by decide +kernel
theorem dB_again_38 : decode prog_1_method_10_code 38 = .ok (.ldc 175, 2) := by decide +kernel
theorem dB_again_40 : decode prog_1_method_10_code 40 = .ok (.invokespecial 70, 3) := by decide +kernel
theorem dB_again_43 : decode prog_1_method_10_code 43 = .ok (.athrow, 1) := by decide +kernel
theorem dB_again_44 : decode prog_1_method_10_code 44 = .ok (.aload_n 0, 1) := by decide +kernel
theorem dB_again_45 : decode prog_1_method_10_code 45 = .ok (.getfield 24, 3) := by decide +kernel
theorem dB_again_48 : decode prog_1_method_10_code 48 = .ok (.iload_n 1, 1) := by decide +kernel
theorem dB_again_49 : decode prog_1_method_10_code 49 = .ok (.iload_n 2, 1) := by decide +kernel
theorem dB_again_50 : decode prog_1_method_10_code 50 = .ok (.invokevirtual 177, 3) := by decide +kernel
theorem dB_again_53 : decode prog_1_method_10_code 53 = .ok (.aload_n 0, 1) := by decide +kernel
theorem dB_again_54 : decode prog_1_method_10_code 54 = .ok (.getfield 24, 3) := by decide +kernel
theorem dB_again_57 : decode prog_1_method_10_code 57 = .ok (.getfield 172, 3) := by decide +kernel
theorem dB_again_60 : decode prog_1_method_10_code 60 = .ok (.ireturn, 1) := by decide +kernel
theorem dB_completeMarkAt_0 : decode prog_1_method_31_code 0 = .ok (.aload_n 0, 1) := by decide +kernel
theorem dB_completeMarkAt_1 : decode prog_1_method_31_code 1 = .ok (.iload_n 1, 1) := by decide +kernel
theorem dB_completeMarkAt_2 : decode prog_1_method_31_code 2 = .ok (.invokevirtual 230, 3) := by decide +kernel
theorem dB_completeMarkAt_5 : decode prog_1_method_31_code 5 = .ok (.astore_n 2, 1) := by decide +kernel
theorem dB_completeMarkAt_6 : decode prog_1_method_31_code 6 = .ok (.aload_n 2, 1) := by decide +kernel
theorem dB_completeMarkAt_7 : decode prog_1_method_31_code 7 = .ok (.getfield 183, 3) := by decide +kernel
theorem dB_completeMarkAt_10 : decode prog_1_method_31_code 10 = .ok (.iconst 1, 1) := by decide +kernel
theorem dB_completeMarkAt_11 : decode prog_1_method_31_code 11 = .ok (.if_icmp .eq 14, 3) := by decide +kernel
theorem dB_completeMarkAt_14 : decode prog_1_method_31_code 14 = .ok (.new 66, 3) := by decide +kernel
theorem dB_completeMarkAt_17 : decode prog_1_method_31_code 17 = .ok (.dup, 1) := by decide +kernel
theorem dB_completeMarkAt_18 : decode prog_1_method_31_code 18 = .ok (.ldc_w 271, 3) := by decide +kernel
theorem dB_completeMarkAt_21 : decode prog_1_method_31_code 21 = .ok (.invokespecial 70, 3) := by decide +kernel
theorem dB_completeMarkAt_24 : decode prog_1_method_31_code 24 = .ok (.athrow, 1) := by decide +kernel
theorem dB_completeMarkAt_25 : decode prog_1_method_31_code 25 = .ok (.aload_n 2, 1) := by decide +kernel
theorem dB_completeMarkAt_26 : decode prog_1_method_31_code 26 = .ok (.areturn, 1) := by decide +kernel
theorem dB_hasEnded_0 : decode prog_1_method_35_code 0 = .ok (.iload_n 1, 1) := by decide +kernel
theorem dB_hasEnded_1 : decode prog_1_method_35_code 1 = .ok (.ifCond .lt 28, 3) := by decide +kernel
theorem dB_hasEnded_4 : decode prog_1_method_35_code 4 = .ok (.iload_n 1, 1) := by decide +kernel
theorem dB_hasEnded_5 : decode prog_1_method_35_code 5 = .ok (.aload_n 0, 1) := by decide +kernel
theorem dB_hasEnded_6 : decode prog_1_method_35_code 6 = .ok (.getfield 39, 3) := by decide +kernel
theorem dB_hasEnded_9 : decode prog_1_method_35_code 9 = .ok (.arraylength, 1) := by decide +kernel
theorem dB_hasEnded_10 : decode prog_1_method_35_code 10 = .ok (.if_icmp .ge 19, 3) := by decide +kernel
theorem dB_hasEnded_13 : decode prog_1_method_35_code 13 = .ok (.aload_n 0, 1) := by decide +kernel
theorem dB_hasEnded_14 : decode prog_1_method_35_code 14 = .ok (.getfield 39, 3) := by decide +kernel
theorem dB_hasEnded_17 : decode prog_1_method_35_code 17 = .ok (.iload_n 1, 1) := by decide +kernel
theorem dB_hasEnded_18 : decode prog_1_method_35_code 18 = .ok (.aaload, 1) := by decide +kernel
theorem dB_hasEnded_19 : decode prog_1_method_35_code 19 = .ok (.getfield 131, 3) := by decide +kernel
theorem dB_hasEnded_22 : decode prog_1_method_35_code 22 = .ok (.ifCond .eq 7, 3) := by decide +kernel
theorem dB_hasEnded_25 : decode prog_1_method_35_code 25 = .ok (.iconst 1, 1) := by decide +kernel
theorem dB_hasEnded_26 : decode prog_1_method_35_code 26 = .ok (.goto 4, 3) := by decide +kernel
theorem dB_hasEnded_29 : decode prog_1_method_35_code 29 = .ok (.iconst 0, 1) := by decide +kernel
theorem dB_hasEnded_30 : decode prog_1_method_35_code 30 = .ok (.ireturn, 1) := by decide +kernel
theorem dB_restore_0 : decode prog_1_method_11_code 0 = .ok (.aload_n 0, 1) := by decide +kernel
theorem dB_restore_1 : decode prog_1_method_11_code 1 = .ok (.iload_n 1, 1) := by decide +kernel
theorem dB_restore_2 : decode prog_1_method_11_code 2 = .ok (.invokevirtual 180, 3) := by decide +kernel
theorem dB_restore_5 : decode prog_1_method_11_code 5 = .ok (.astore_n 2, 1) := by decide +kernel
theorem dB_restore_6 : decode prog_1_method_11_code 6 = .ok (.iconst 0, 1) := by decide +kernel
theorem dB_restore_7 : decode prog_1_method_11_code 7 = .ok (.istore_n 3, 1) := by decide +kernel
theorem dB_restore_8 : decode prog_1_method_11_code 8 = .ok (.iload_n 3, 1) := by decide +kernel
theorem dB_restore_9 : decode prog_1_method_11_code 9 = .ok (.aload_n 0, 1) := by decide +kernel
theorem dB_restore_10 : decode prog_1_method_11_code 10 = .ok (.getfield 122, 3) := by decide +kernel
theorem dB_restore_13 : decode prog_1_method_11_code 13 = .ok (.if_icmp .ge 32, 3) := by decide +kernel
theorem dB_restore_16 : decode prog_1_method_11_code 16 = .ok (.aload_n 0, 1) := by decide +kernel
theorem dB_restore_17 : decode prog_1_method_11_code 17 = .ok (.getfield 17, 3) := by decide +kernel
theorem dB_restore_20 : decode prog_1_method_11_code 20 = .ok (.iload_n 3, 1) := by decide +kernel
theorem dB_restore_21 : decode prog_1_method_11_code 21 = .ok (.aaload, 1) := by decide +kernel
theorem dB_restore_22 : decode prog_1_method_11_code 22 = .ok (.getfield 183, 3) := by decide +kernel
theorem dB_restore_25 : decode prog_1_method_11_code 25 = .ok (.ifCond .ne 14, 3) := by decide +kernel
theorem dB_restore_28 : decode prog_1_method_11_code 28 = .ok (.aload_n 0, 1) := by decide +kernel
theorem dB_restore_29 : decode prog_1_method_11_code 29 = .ok (.aload_n 0, 1) := by decide +kernel
theorem dB_restore_30 : decode prog_1_method_11_code 30 = .ok (.getfield 17, 3) := by decide +kernel
theorem dB_restore_33 : decode prog_1_method_11_code 33 = .ok (.iload_n 3, 1) := by decide +kernel
theorem dB_restore_34 : decode prog_1_method_11_code 34 = .ok (.aaload, 1) := by decide +kernel
theorem dB_restore_35 : decode prog_1_method_11_code 35 = .ok (.iconst 2, 1) := by decide +kernel
theorem dB_restore_36 : decode prog_1_method_11_code 36 = .ok (.invokevirtual 156, 3) := by decide +kernel
theorem dB_restore_39 : decode prog_1_method_11_code 39 = .ok (.iinc 3 1, 3) := by decide +kernel
theorem dB_restore_42 : decode prog_1_method_11_code 42 = .ok (.goto (-34), 3) := by decide +kernel
theorem dB_restore_45 : decode prog_1_method_11_code 45 = .ok (.aload_n 0, 1) := by decide +kernel
theorem dB_restore_46 : decode prog_1_method_11_code 46 = .ok (.getfield 24, 3) := by decide +kernel
theorem dB_restore_49 : decode prog_1_method_11_code 49 = .ok (.invokevirtual 186, 3) := by decide +kernel
theorem dB_restore_52 : decode prog_1_method_11_code 52 = .ok (.iconst 0, 1) := by decide +kernel
theorem dB_restore_53 : decode prog_1_method_11_code 53 = .ok (.istore_n 3, 1) := by decide +kernel
theorem dB_restore_54 : decode prog_1_method_11_code 54 = .ok (.iload_n 3, 1) := by decide +kernel
theorem dB_restore_55 : decode prog_1_method_11_code 55 = .ok (.aload_n 0, 1) := by decide +kernel
theorem dB_restore_56 : decode prog_1_method_11_code 56 = .ok (.getfield 39, 3) := by decide +kernel
theorem dB_restore_59 : decode prog_1_method_11_code 59 = .ok (.arraylength, 1) := by decide +kernel
theorem dB_restore_60 : decode prog_1_method_11_code 60 = .ok (.if_icmp .ge 19, 3) := by decide +kernel
theorem dB_restore_63 : decode prog_1_method_11_code 63 = .ok (.aload_n 0, 1) := by decide +kernel
theorem dB_restore_64 : decode prog_1_method_11_code 64 = .ok (.getfield 39, 3) := by decide +kernel
theorem dB_restore_67 : decode prog_1_method_11_code 67 = .ok (.iload_n 3, 1) := by decide +kernel
theorem dB_restore_68 : decode prog_1_method_11_code 68 = .ok (.aaload, 1) := by decide +kernel
theorem dB_restore_69 : decode prog_1_method_11_code 69 = .ok (.aload_n 2, 1) := by decide +kernel
theorem dB_restore_70 : decode prog_1_method_11_code 70 = .ok (.invokevirtual 189, 3) := by decide +kernel
theorem dB_restore_73 : decode prog_1_method_11_code 73 = .ok (.iinc 3 1, 3) := by decide +kernel
theorem dB_restore_76 : decode prog_1_method_11_code 76 = .ok (.goto (-22), 3) := by decide +kernel
theorem dB_restore_79 : decode prog_1_method_11_code 79 = .ok (.iconst 0, 1) := by decide +kernel
theorem dB_restore_80 : decode prog_1_method_11_code 80 = .ok (.istore_n 3, 1) := by decide +kernel
theorem dB_restore_81 : decode prog_1_method_11_code 81 = .ok (.iconst 0, 1) := by decide +kernel
theorem dB_restore_82 : decode prog_1_method_11_code 82 = .ok (.istore 4, 2) := by decide +kernel
theorem dB_restore_84 : decode prog_1_method_11_code 84 = .ok (.iload 4, 2) := by decide +kernel
theorem dB_restore_86 : decode prog_1_method_11_code 86 = .ok (.aload_n 0, 1) := by decide +kernel
theorem dB_restore_87 : decode prog_1_method_11_code 87 = .ok (.getfield 62, 3) := by decide +kernel
theorem dB_restore_90 : decode prog_1_method_11_code 90 = .ok (.if_icmp .ge 72, 3) := by decide +kernel
theorem dB_restore_93 : decode prog_1_method_11_code 93 = .ok (.aload_n 0, 1) := by decide +kernel
theorem dB_restore_94 : decode prog_1_method_11_code 94 = .ok (.getfield 11, 3) := by decide +kernel
theorem dB_restore_97 : decode prog_1_method_11_code 97 = .ok (.iload 4, 2) := by decide +kernel
theorem dB_restore_99 : decode prog_1_method_11_code 99 = .ok (.aaload, 1) := by decide +kernel
theorem dB_restore_100 : decode prog_1_method_11_code 100 = .ok (.astore 5, 2) := by decide +kernel
theorem dB_restore_102 : decode prog_1_method_11_code 102 = .ok (.aload 5, 2) := by decide +kernel
theorem dB_restore_104 : decode prog_1_method_11_code 104 = .ok (.iload_n 1, 1) := by decide +kernel
theorem dB_restore_105 : decode prog_1_method_11_code 105 = .ok (.invokevirtual 193, 3) := by decide +kernel
theorem dB_restore_108 : decode prog_1_method_11_code 108 = .ok (.aload 5, 2) := by decide +kernel
theorem dB_restore_110 : decode prog_1_method_11_code 110 = .ok (.iconst (-1), 1) := by decide +kernel
theorem dB_restore_111 : decode prog_1_method_11_code 111 = .ok (.putfield 195, 3) := by decide +kernel
theorem dB_restore_114 : decode prog_1_method_11_code 114 = .ok (.aload 5, 2) := by decide +kernel
theorem dB_restore_116 : decode prog_1_method_11_code 116 = .ok (.aload_n 0, 1) := by decide +kernel
theorem dB_restore_117 : decode prog_1_method_11_code 117 = .ok (.aload 5, 2) := by decide +kernel
theorem dB_restore_119 : decode prog_1_method_11_code 119 = .ok (.getfield 198, 3) := by decide +kernel
theorem dB_restore_122 : decode prog_1_method_11_code 122 = .ok (.invokevirtual 201, 3) := by decide +kernel
theorem dB_restore_125 : decode prog_1_method_11_code 125 = .ok (.ifCond .ne 15, 3) := by decide +kernel
theorem dB_restore_128 : decode prog_1_method_11_code 128 = .ok (.aload_n 0, 1) := by decide +kernel
theorem dB_restore_129 : decode prog_1_method_11_code 129 = .ok (.aload 5, 2) := by decide +kernel
theorem dB_restore_131 : decode prog_1_method_11_code 131 = .ok (.getfield 205, 3) := by decide +kernel
theorem dB_restore_134 : decode prog_1_method_11_code 134 = .ok (.invokevirtual 201, 3) := by decide +kernel
theorem dB_restore_137 : decode prog_1_method_11_code 137 = .ok (.ifCond .eq 7, 3) := by decide +kernel
theorem dB_restore_140 : decode prog_1_method_11_code 140 = .ok (.iconst 1, 1) := by decide +kernel
theorem dB_restore_141 : decode prog_1_method_11_code 141 = .ok (.goto 4, 3) := by decide +kernel
theorem dB_restore_144 : decode prog_1_method_11_code 144 = .ok (.iconst 0, 1) := by decide +kernel
theorem dB_restore_145 : decode prog_1_method_11_code 145 = .ok (.putfield 208, 3) := by decide +kernel
theorem dB_restore_148 : decode prog_1_method_11_code 148 = .ok (.iload_n 3, 1) := by decide +kernel
theorem dB_restore_149 : decode prog_1_method_11_code 149 = .ok (.aload 5, 2) := by decide +kernel
theorem dB_restore_151 : decode prog_1_method_11_code 151 = .ok (.invokevirtual 209, 3) := by decide +kernel
theorem dB_restore_154 : decode prog_1_method_11_code 154 = .ok (.iadd, 1) := by decide +kernel
theorem dB_restore_155 : decode prog_1_method_11_code 155 = .ok (.istore_n 3, 1) := by decide +kernel
theorem dB_restore_156 : decode prog_1_method_11_code 156 = .ok (.iinc 4 1, 3) := by decide +kernel
theorem dB_restore_159 : decode prog_1_method_11_code 159 = .ok (.goto (-75), 3) := by decide +kernel
theorem dB_restore_162 : decode prog_1_method_11_code 162 = .ok (.iload_n 3, 1) := by decide +kernel
theorem dB_restore_163 : decode prog_1_method_11_code 163 = .ok (.ireturn, 1) := by decide +kernel
theorem dB_state_0 : decode prog_1_method_12_code 0 = .ok (.aload_n 0, 1) := by decide +kernel
theorem dB_state_1 : decode prog_1_method_12_code 1 = .ok (.iload_n 1, 1) := by decide +kernel
theorem dB_state_2 : decode prog_1_method_12_code 2 = .ok (.invokevirtual 54, 3) := by decide +kernel
theorem dB_state_5 : decode prog_1_method_12_code 5 = .ok (.getfield 212, 3) := by decide +kernel
theorem dB_state_8 : decode prog_1_method_12_code 8 = .ok (.lreturn, 1) := by decide +kernel
theorem dB_task_0 : decode prog_1_method_13_code 0 = .ok (.aload_n 0, 1) := by decide +kernel
theorem dB_task_1 : decode prog_1_method_13_code 1 = .ok (.iload_n 1, 1) := by decide +kernel
theorem dB_task_2 : decode prog_1_method_13_code 2 = .ok (.invokevirtual 54, 3) := by decide +kernel
theorem dB_task_5 : decode prog_1_method_13_code 5 = .ok (.astore_n 3, 1) := by decide +kernel
theorem dB_task_6 : decode prog_1_method_13_code 6 = .ok (.iload_n 2, 1) := by decide +kernel
theorem dB_task_7 : decode prog_1_method_13_code 7 = .ok (.ifCond .ne 8, 3) := by decide +kernel
theorem dB_task_10 : decode prog_1_method_13_code 10 = .ok (.aload_n 3, 1) := by decide +kernel
theorem dB_task_11 : decode prog_1_method_13_code 11 = .ok (.getfield 216, 3) := by decide +kernel
theorem dB_task_14 : decode prog_1_method_13_code 14 = .ok (.ireturn, 1) := by decide +kernel
theorem dB_task_15 : decode prog_1_method_13_code 15 = .ok (.iload_n 2, 1) := by decide +kernel
theorem dB_task_16 : decode prog_1_method_13_code 16 = .ok (.iconst 1, 1) := by decide +kernel
theorem dB_task_17 : decode prog_1_method_13_code 17 = .ok (.if_icmp .ne 16, 3) := by decide +kernel
theorem dB_task_20 : decode prog_1_method_13_code 20 = .ok (.aload_n 3, 1) := by decide +kernel
theorem dB_task_21 : decode prog_1_method_13_code 21 = .ok (.getfield 131, 3) := by decide +kernel
theorem dB_task_24 : decode prog_1_method_13_code 24 = .ok (.ifCond .eq 7, 3) := by decide +kernel
theorem dB_task_27 : decode prog_1_method_13_code 27 = .ok (.iconst 1, 1) := by decide +kernel
theorem dB_task_28 : decode prog_1_method_13_code 28 = .ok (.goto 4, 3) := by decide +kernel
theorem dB_task_31 : decode prog_1_method_13_code 31 = .ok (.iconst 0, 1) := by decide +kernel
theorem dB_task_32 : decode prog_1_method_13_code 32 = .ok (.ireturn, 1) := by decide +kernel
theorem dB_task_33 : decode prog_1_method_13_code 33 = .ok (.new 87, 3) := by decide +kernel
theorem dB_task_36 : decode prog_1_method_13_code 36 = .ok (.dup, 1) := by decide +kernel
theorem dB_task_37 : decode prog_1_method_13_code 37 = .ok (.ldc 219, 2) := by decide +kernel
theorem dB_task_39 : decode prog_1_method_13_code 39 = .ok (.invokespecial 91, 3) := by decide +kernel
theorem dB_task_42 : decode prog_1_method_13_code 42 = .ok (.athrow, 1) := by decide +kernel
theorem dB_markKeptBy_0 : decode prog_1_method_32_code 0 = .ok (.aload_n 0, 1) := by decide +kernel
theorem dB_markKeptBy_1 : decode prog_1_method_32_code 1 = .ok (.iload_n 1, 1) := by decide +kernel
theorem dB_markKeptBy_2 : decode prog_1_method_32_code 2 = .ok (.invokevirtual 230, 3) := by decide +kernel
theorem dB_markKeptBy_5 : decode prog_1_method_32_code 5 = .ok (.astore_n 3, 1) := by decide +kernel
theorem dB_markKeptBy_6 : decode prog_1_method_32_code 6 = .ok (.aload_n 0, 1) := by decide +kernel
theorem dB_markKeptBy_7 : decode prog_1_method_32_code 7 = .ok (.iload_n 2, 1) := by decide +kernel
theorem dB_markKeptBy_8 : decode prog_1_method_32_code 8 = .ok (.invokevirtual 54, 3) := by decide +kernel
theorem dB_markKeptBy_11 : decode prog_1_method_32_code 11 = .ok (.pop, 1) := by decide +kernel
theorem dB_markKeptBy_12 : decode prog_1_method_32_code 12 = .ok (.aload_n 3, 1) := by decide +kernel
theorem dB_markKeptBy_13 : decode prog_1_method_32_code 13 = .ok (.getfield 163, 3) := by decide +kernel
theorem dB_markKeptBy_16 : decode prog_1_method_32_code 16 = .ok (.iload_n 2, 1) := by decide +kernel
theorem dB_markKeptBy_17 : decode prog_1_method_32_code 17 = .ok (.baload, 1) := by decide +kernel
theorem dB_markKeptBy_18 : decode prog_1_method_32_code 18 = .ok (.ifCond .ne 14, 3) := by decide +kernel
theorem dB_markKeptBy_21 : decode prog_1_method_32_code 21 = .ok (.new 66, 3) := by decide +kernel
theorem dB_markKeptBy_24 : decode prog_1_method_32_code 24 = .ok (.dup, 1) := by decide +kernel
theorem dB_markKeptBy_25 : decode prog_1_method_32_code 25 = .ok (.ldc_w 273, 3) := by decide +kernel
theorem dB_markKeptBy_28 : decode prog_1_method_32_code 28 = .ok (.invokespecial 70, 3) := by decide +kernel
theorem dB_markKeptBy_31 : decode prog_1_method_32_code 31 = .ok (.athrow, 1) := by decide +kernel
theorem dB_markKeptBy_32 : decode prog_1_method_32_code 32 = .ok (.aload_n 3, 1) := by decide +kernel
theorem dB_markKeptBy_33 : decode prog_1_method_32_code 33 = .ok (.areturn, 1) := by decide +kernel
theorem dB_kept_0 : decode prog_1_method_14_code 0 = .ok (.aload_n 0, 1) := by decide +kernel
theorem dB_kept_1 : decode prog_1_method_14_code 1 = .ok (.iload_n 1, 1) := by decide +kernel
theorem dB_kept_2 : decode prog_1_method_14_code 2 = .ok (.iload_n 2, 1) := by decide +kernel
theorem dB_kept_3 : decode prog_1_method_14_code 3 = .ok (.invokevirtual 221, 3) := by decide +kernel
theorem dB_kept_6 : decode prog_1_method_14_code 6 = .ok (.getfield 225, 3) := by decide +kernel
theorem dB_kept_9 : decode prog_1_method_14_code 9 = .ok (.iload_n 2, 1) := by decide +kernel
theorem dB_kept_10 : decode prog_1_method_14_code 10 = .ok (.laload, 1) := by decide +kernel
theorem dB_kept_11 : decode prog_1_method_14_code 11 = .ok (.lreturn, 1) := by decide +kernel
theorem dB_keptRows_0 : decode prog_1_method_15_code 0 = .ok (.aload_n 0, 1) := by decide +kernel
theorem dB_keptRows_1 : decode prog_1_method_15_code 1 = .ok (.iload_n 1, 1) := by decide +kernel
theorem dB_keptRows_2 : decode prog_1_method_15_code 2 = .ok (.iload_n 2, 1) := by decide +kernel
theorem dB_keptRows_3 : decode prog_1_method_15_code 3 = .ok (.invokevirtual 221, 3) := by decide +kernel
theorem dB_keptRows_6 : decode prog_1_method_15_code 6 = .ok (.getfield 228, 3) := by decide +kernel
theorem dB_keptRows_9 : decode prog_1_method_15_code 9 = .ok (.iload_n 2, 1) := by decide +kernel
theorem dB_keptRows_10 : decode prog_1_method_15_code 10 = .ok (.iaload, 1) := by decide +kernel
theorem dB_keptRows_11 : decode prog_1_method_15_code 11 = .ok (.ireturn, 1) := by decide +kernel
theorem dB_position_0 : decode prog_1_method_16_code 0 = .ok (.aload_n 0, 1) := by decide +kernel
theorem dB_position_1 : decode prog_1_method_16_code 1 = .ok (.iload_n 1, 1) := by decide +kernel
theorem dB_position_2 : decode prog_1_method_16_code 2 = .ok (.invokevirtual 230, 3) := by decide +kernel
theorem dB_position_5 : decode prog_1_method_16_code 5 = .ok (.pop, 1) := by decide +kernel
theorem dB_position_6 : decode prog_1_method_16_code 6 = .ok (.aload_n 0, 1) := by decide +kernel
theorem dB_position_7 : decode prog_1_method_16_code 7 = .ok (.iload_n 2, 1) := by decide +kernel
theorem dB_position_8 : decode prog_1_method_16_code 8 = .ok (.invokevirtual 233, 3) := by decide +kernel
theorem dB_position_11 : decode prog_1_method_16_code 11 = .ok (.astore 4, 2) := by decide +kernel
theorem dB_position_13 : decode prog_1_method_16_code 13 = .ok (.aload 4, 2) := by decide +kernel
theorem dB_position_15 : decode prog_1_method_16_code 15 = .ok (.instanceof 73, 3) := by decide +kernel
theorem dB_position_18 : decode prog_1_method_16_code 18 = .ok (.ifCond .eq 16, 3) := by decide +kernel
theorem dB_position_21 : decode prog_1_method_16_code 21 = .ok (.aload 4, 2) := by decide +kernel
theorem dB_position_23 : decode prog_1_method_16_code 23 = .ok (.checkcast 73, 3) := by decide +kernel
theorem dB_position_26 : decode prog_1_method_16_code 26 = .ok (.astore_n 3, 1) := by decide +kernel
theorem dB_position_27 : decode prog_1_method_16_code 27 = .ok (.aload_n 3, 1) := by decide +kernel
theorem dB_position_28 : decode prog_1_method_16_code 28 = .ok (.getfield 237, 3) := by decide +kernel
theorem dB_position_31 : decode prog_1_method_16_code 31 = .ok (.iload_n 1, 1) := by decide +kernel
theorem dB_position_32 : decode prog_1_method_16_code 32 = .ok (.iaload, 1) := by decide +kernel
theorem dB_position_33 : decode prog_1_method_16_code 33 = .ok (.ireturn, 1) := by decide +kernel
theorem dB_position_34 : decode prog_1_method_16_code 34 = .ok (.new 240, 3) := by decide +kernel
theorem dB_position_37 : decode prog_1_method_16_code 37 = .ok (.dup, 1) := by decide +kernel
theorem dB_position_38 : decode prog_1_method_16_code 38 = .ok (.ldc 242, 2) := by decide +kernel
theorem dB_position_40 : decode prog_1_method_16_code 40 = .ok (.invokespecial 244, 3) := by decide +kernel
theorem dB_position_43 : decode prog_1_method_16_code 43 = .ok (.athrow, 1) := by decide +kernel
theorem dB_condition_0 : decode prog_1_method_17_code 0 = .ok (.aload_n 0, 1) := by decide +kernel
theorem dB_condition_1 : decode prog_1_method_17_code 1 = .ok (.iload_n 1, 1) := by decide +kernel
theorem dB_condition_2 : decode prog_1_method_17_code 2 = .ok (.invokevirtual 230, 3) := by decide +kernel
theorem dB_condition_5 : decode prog_1_method_17_code 5 = .ok (.getfield 183, 3) := by decide +kernel
theorem dB_condition_8 : decode prog_1_method_17_code 8 = .ok (.ireturn, 1) := by decide +kernel
theorem dB_acknowledged_0 : decode prog_1_method_18_code 0 = .ok (.aload_n 0, 1) := by decide +kernel
theorem dB_acknowledged_1 : decode prog_1_method_18_code 1 = .ok (.iload_n 1, 1) := by decide +kernel
theorem dB_acknowledged_2 : decode prog_1_method_18_code 2 = .ok (.invokevirtual 230, 3) := by decide +kernel
theorem dB_acknowledged_5 : decode prog_1_method_18_code 5 = .ok (.getfield 160, 3) := by decide +kernel
theorem dB_acknowledged_8 : decode prog_1_method_18_code 8 = .ok (.ireturn, 1) := by decide +kernel
theorem dB_carryInto_0 : decode prog_1_method_45_code 0 = .ok (.lconst 0, 1) := by decide +kernel
theorem dB_carryInto_1 : decode prog_1_method_45_code 1 = .ok (.lstore_n 3, 1) := by decide +kernel
theorem dB_carryInto_2 : decode prog_1_method_45_code 2 = .ok (.iconst 0, 1) := by decide +kernel
theorem dB_carryInto_3 : decode prog_1_method_45_code 3 = .ok (.istore 5, 2) := by decide +kernel
theorem dB_carryInto_5 : decode prog_1_method_45_code 5 = .ok (.iconst 0, 1) := by decide +kernel
theorem dB_carryInto_6 : decode prog_1_method_45_code 6 = .ok (.istore 6, 2) := by decide +kernel
theorem dB_carryInto_8 : decode prog_1_method_45_code 8 = .ok (.iload 6, 2) := by decide +kernel
theorem dB_carryInto_10 : decode prog_1_method_45_code 10 = .ok (.aload_n 1, 1) := by decide +kernel
theorem dB_carryInto_11 : decode prog_1_method_45_code 11 = .ok (.getfield 80, 3) := by decide +kernel
theorem dB_carryInto_14 : decode prog_1_method_45_code 14 = .ok (.if_icmp .ge 119, 3) := by decide +kernel
theorem dB_carryInto_17 : decode prog_1_method_45_code 17 = .ok (.aload_n 1, 1) := by decide +kernel
theorem dB_carryInto_18 : decode prog_1_method_45_code 18 = .ok (.getfield 334, 3) := by decide +kernel
theorem dB_carryInto_21 : decode prog_1_method_45_code 21 = .ok (.iload 6, 2) := by decide +kernel
theorem dB_carryInto_23 : decode prog_1_method_45_code 23 = .ok (.aaload, 1) := by decide +kernel
theorem dB_carryInto_24 : decode prog_1_method_45_code 24 = .ok (.astore 7, 2) := by decide +kernel
theorem dB_carryInto_26 : decode prog_1_method_45_code 26 = .ok (.aload 7, 2) := by decide +kernel
theorem dB_carryInto_28 : decode prog_1_method_45_code 28 = .ok (.getfield 198, 3) := by decide +kernel
theorem dB_carryInto_31 : decode prog_1_method_45_code 31 = .ok (.istore 8, 2) := by decide +kernel
theorem dB_carryInto_33 : decode prog_1_method_45_code 33 = .ok (.aload 7, 2) := by decide +kernel
theorem dB_carryInto_35 : decode prog_1_method_45_code 35 = .ok (.instanceof 73, 3) := by decide +kernel
theorem dB_carryInto_38 : decode prog_1_method_45_code 38 = .ok (.ifCond .eq 35, 3) := by decide +kernel
theorem dB_carryInto_41 : decode prog_1_method_45_code 41 = .ok (.aload 7, 2) := by decide +kernel
theorem dB_carryInto_43 : decode prog_1_method_45_code 43 = .ok (.checkcast 73, 3) := by decide +kernel
theorem dB_carryInto_46 : decode prog_1_method_45_code 46 = .ok (.astore 9, 2) := by decide +kernel
theorem dB_carryInto_48 : decode prog_1_method_45_code 48 = .ok (.lload_n 3, 1) := by decide +kernel
theorem dB_carryInto_49 : decode prog_1_method_45_code 49 = .ok (.aload 9, 2) := by decide +kernel
theorem dB_carryInto_51 : decode prog_1_method_45_code 51 = .ok (.getfield 356, 3) := by decide +kernel
theorem dB_carryInto_54 : decode prog_1_method_45_code 54 = .ok (.iload_n 2, 1) := by decide +kernel
theorem dB_carryInto_55 : decode prog_1_method_45_code 55 = .ok (.laload, 1) := by decide +kernel
theorem dB_carryInto_56 : decode prog_1_method_45_code 56 = .ok (.ladd, 1) := by decide +kernel
theorem dB_carryInto_57 : decode prog_1_method_45_code 57 = .ok (.lstore_n 3, 1) := by decide +kernel
theorem dB_carryInto_58 : decode prog_1_method_45_code 58 = .ok (.iload 5, 2) := by decide +kernel
theorem dB_carryInto_60 : decode prog_1_method_45_code 60 = .ok (.aload 9, 2) := by decide +kernel
theorem dB_carryInto_62 : decode prog_1_method_45_code 62 = .ok (.getfield 237, 3) := by decide +kernel
theorem dB_carryInto_65 : decode prog_1_method_45_code 65 = .ok (.iload_n 2, 1) := by decide +kernel
theorem dB_carryInto_66 : decode prog_1_method_45_code 66 = .ok (.iaload, 1) := by decide +kernel
theorem dB_carryInto_67 : decode prog_1_method_45_code 67 = .ok (.iadd, 1) := by decide +kernel
theorem dB_carryInto_68 : decode prog_1_method_45_code 68 = .ok (.istore 5, 2) := by decide +kernel
theorem dB_carryInto_70 : decode prog_1_method_45_code 70 = .ok (.goto 57, 3) := by decide +kernel
theorem dB_carryInto_73 : decode prog_1_method_45_code 73 = .ok (.iload 8, 2) := by decide +kernel
theorem dB_carryInto_75 : decode prog_1_method_45_code 75 = .ok (.ifCond .lt 52, 3) := by decide +kernel
theorem dB_carryInto_78 : decode prog_1_method_45_code 78 = .ok (.iload 8, 2) := by decide +kernel
theorem dB_carryInto_80 : decode prog_1_method_45_code 80 = .ok (.aload_n 0, 1) := by decide +kernel
theorem dB_carryInto_81 : decode prog_1_method_45_code 81 = .ok (.getfield 39, 3) := by decide +kernel
theorem dB_carryInto_84 : decode prog_1_method_45_code 84 = .ok (.arraylength, 1) := by decide +kernel
theorem dB_carryInto_85 : decode prog_1_method_45_code 85 = .ok (.if_icmp .ge 42, 3) := by decide +kernel
theorem dB_carryInto_88 : decode prog_1_method_45_code 88 = .ok (.lload_n 3, 1) := by decide +kernel
theorem dB_carryInto_89 : decode prog_1_method_45_code 89 = .ok (.ldc2_w 350, 3) := by decide +kernel
theorem dB_carryInto_92 : decode prog_1_method_45_code 92 = .ok (.aload_n 0, 1) := by decide +kernel
theorem dB_carryInto_93 : decode prog_1_method_45_code 93 = .ok (.getfield 46, 3) := by decide +kernel
theorem dB_carryInto_96 : decode prog_1_method_45_code 96 = .ok (.iload 8, 2) := by decide +kernel
theorem dB_carryInto_98 : decode prog_1_method_45_code 98 = .ok (.laload, 1) := by decide +kernel
theorem dB_carryInto_99 : decode prog_1_method_45_code 99 = .ok (.lmul, 1) := by decide +kernel
theorem dB_carryInto_100 : decode prog_1_method_45_code 100 = .ok (.iload 8, 2) := by decide +kernel
theorem dB_carryInto_102 : decode prog_1_method_45_code 102 = .ok (.i2l, 1) := by decide +kernel
theorem dB_carryInto_103 : decode prog_1_method_45_code 103 = .ok (.aload_n 0, 1) := by decide +kernel
theorem dB_carryInto_104 : decode prog_1_method_45_code 104 = .ok (.getfield 50, 3) := by decide +kernel
theorem dB_carryInto_107 : decode prog_1_method_45_code 107 = .ok (.iload 8, 2) := by decide +kernel
theorem dB_carryInto_109 : decode prog_1_method_45_code 109 = .ok (.iaload, 1) := by decide +kernel
theorem dB_carryInto_110 : decode prog_1_method_45_code 110 = .ok (.i2l, 1) := by decide +kernel
theorem dB_carryInto_111 : decode prog_1_method_45_code 111 = .ok (.lmul, 1) := by decide +kernel
theorem dB_carryInto_112 : decode prog_1_method_45_code 112 = .ok (.ladd, 1) := by decide +kernel
theorem dB_carryInto_113 : decode prog_1_method_45_code 113 = .ok (.ladd, 1) := by decide +kernel
theorem dB_carryInto_114 : decode prog_1_method_45_code 114 = .ok (.lstore_n 3, 1) := by decide +kernel
theorem dB_carryInto_115 : decode prog_1_method_45_code 115 = .ok (.iload 5, 2) := by decide +kernel
theorem dB_carryInto_117 : decode prog_1_method_45_code 117 = .ok (.aload_n 0, 1) := by decide +kernel
theorem dB_carryInto_118 : decode prog_1_method_45_code 118 = .ok (.getfield 50, 3) := by decide +kernel
theorem dB_carryInto_121 : decode prog_1_method_45_code 121 = .ok (.iload 8, 2) := by decide +kernel
theorem dB_carryInto_123 : decode prog_1_method_45_code 123 = .ok (.iaload, 1) := by decide +kernel
theorem dB_carryInto_124 : decode prog_1_method_45_code 124 = .ok (.iadd, 1) := by decide +kernel
theorem dB_carryInto_125 : decode prog_1_method_45_code 125 = .ok (.istore 5, 2) := by decide +kernel
theorem dB_carryInto_127 : decode prog_1_method_45_code 127 = .ok (.iinc 6 1, 3) := by decide +kernel
theorem dB_carryInto_130 : decode prog_1_method_45_code 130 = .ok (.goto (-122), 3) := by decide +kernel
theorem dB_carryInto_133 : decode prog_1_method_45_code 133 = .ok (.aload_n 0, 1) := by decide +kernel
theorem dB_carryInto_134 : decode prog_1_method_45_code 134 = .ok (.getfield 46, 3) := by decide +kernel
theorem dB_carryInto_137 : decode prog_1_method_45_code 137 = .ok (.aload_n 1, 1) := by decide +kernel
theorem dB_carryInto_138 : decode prog_1_method_45_code 138 = .ok (.getfield 304, 3) := by decide +kernel
theorem dB_carryInto_141 : decode prog_1_method_45_code 141 = .ok (.lload_n 3, 1) := by decide +kernel
theorem dB_carryInto_142 : decode prog_1_method_45_code 142 = .ok (.lastore, 1) := by decide +kernel
theorem dB_carryInto_143 : decode prog_1_method_45_code 143 = .ok (.aload_n 0, 1) := by decide +kernel
theorem dB_carryInto_144 : decode prog_1_method_45_code 144 = .ok (.getfield 50, 3) := by decide +kernel
theorem dB_carryInto_147 : decode prog_1_method_45_code 147 = .ok (.aload_n 1, 1) := by decide +kernel
theorem dB_carryInto_148 : decode prog_1_method_45_code 148 = .ok (.getfield 304, 3) := by decide +kernel
theorem dB_carryInto_151 : decode prog_1_method_45_code 151 = .ok (.iload 5, 2) := by decide +kernel
theorem dB_carryInto_153 : decode prog_1_method_45_code 153 = .ok (.iastore, 1) := by decide +kernel
theorem dB_carryInto_154 : decode prog_1_method_45_code 154 = .ok (.return_, 1) := by decide +kernel
theorem dB_carryAlone_0 : decode prog_1_method_44_code 0 = .ok (.iconst 0, 1) := by decide +kernel
theorem dB_carryAlone_1 : decode prog_1_method_44_code 1 = .ok (.istore_n 2, 1) := by decide +kernel
theorem dB_carryAlone_2 : decode prog_1_method_44_code 2 = .ok (.iload_n 2, 1) := by decide +kernel
theorem dB_carryAlone_3 : decode prog_1_method_44_code 3 = .ok (.aload_n 0, 1) := by decide +kernel
theorem dB_carryAlone_4 : decode prog_1_method_44_code 4 = .ok (.getfield 39, 3) := by decide +kernel
theorem dB_carryAlone_7 : decode prog_1_method_44_code 7 = .ok (.arraylength, 1) := by decide +kernel
theorem dB_carryAlone_8 : decode prog_1_method_44_code 8 = .ok (.if_icmp .ge 23, 3) := by decide +kernel
theorem dB_carryAlone_11 : decode prog_1_method_44_code 11 = .ok (.aload_n 0, 1) := by decide +kernel
theorem dB_carryAlone_12 : decode prog_1_method_44_code 12 = .ok (.getfield 46, 3) := by decide +kernel
theorem dB_carryAlone_15 : decode prog_1_method_44_code 15 = .ok (.iload_n 2, 1) := by decide +kernel
theorem dB_carryAlone_16 : decode prog_1_method_44_code 16 = .ok (.lconst 0, 1) := by decide +kernel
theorem dB_carryAlone_17 : decode prog_1_method_44_code 17 = .ok (.lastore, 1) := by decide +kernel
theorem dB_carryAlone_18 : decode prog_1_method_44_code 18 = .ok (.aload_n 0, 1) := by decide +kernel
theorem dB_carryAlone_19 : decode prog_1_method_44_code 19 = .ok (.getfield 50, 3) := by decide +kernel
theorem dB_carryAlone_22 : decode prog_1_method_44_code 22 = .ok (.iload_n 2, 1) := by decide +kernel
theorem dB_carryAlone_23 : decode prog_1_method_44_code 23 = .ok (.iconst 0, 1) := by decide +kernel
theorem dB_carryAlone_24 : decode prog_1_method_44_code 24 = .ok (.iastore, 1) := by decide +kernel
theorem dB_carryAlone_25 : decode prog_1_method_44_code 25 = .ok (.iinc 2 1, 3) := by decide +kernel
theorem dB_carryAlone_28 : decode prog_1_method_44_code 28 = .ok (.goto (-26), 3) := by decide +kernel
theorem dB_carryAlone_31 : decode prog_1_method_44_code 31 = .ok (.iconst 0, 1) := by decide +kernel
theorem dB_carryAlone_32 : decode prog_1_method_44_code 32 = .ok (.istore_n 2, 1) := by decide +kernel
theorem dB_carryAlone_33 : decode prog_1_method_44_code 33 = .ok (.iload_n 2, 1) := by decide +kernel
theorem dB_carryAlone_34 : decode prog_1_method_44_code 34 = .ok (.aload_n 0, 1) := by decide +kernel
theorem dB_carryAlone_35 : decode prog_1_method_44_code 35 = .ok (.getfield 39, 3) := by decide +kernel
theorem dB_carryAlone_38 : decode prog_1_method_44_code 38 = .ok (.arraylength, 1) := by decide +kernel
theorem dB_carryAlone_39 : decode prog_1_method_44_code 39 = .ok (.if_icmp .ge 37, 3) := by decide +kernel
theorem dB_carryAlone_42 : decode prog_1_method_44_code 42 = .ok (.iconst 0, 1) := by decide +kernel
theorem dB_carryAlone_43 : decode prog_1_method_44_code 43 = .ok (.istore_n 3, 1) := by decide +kernel
theorem dB_carryAlone_44 : decode prog_1_method_44_code 44 = .ok (.iload_n 3, 1) := by decide +kernel
theorem dB_carryAlone_45 : decode prog_1_method_44_code 45 = .ok (.aload_n 0, 1) := by decide +kernel
theorem dB_carryAlone_46 : decode prog_1_method_44_code 46 = .ok (.getfield 39, 3) := by decide +kernel
theorem dB_carryAlone_49 : decode prog_1_method_44_code 49 = .ok (.arraylength, 1) := by decide +kernel
theorem dB_carryAlone_50 : decode prog_1_method_44_code 50 = .ok (.if_icmp .ge 20, 3) := by decide +kernel
theorem dB_carryAlone_53 : decode prog_1_method_44_code 53 = .ok (.aload_n 0, 1) := by decide +kernel
theorem dB_carryAlone_54 : decode prog_1_method_44_code 54 = .ok (.aload_n 0, 1) := by decide +kernel
theorem dB_carryAlone_55 : decode prog_1_method_44_code 55 = .ok (.getfield 39, 3) := by decide +kernel
theorem dB_carryAlone_58 : decode prog_1_method_44_code 58 = .ok (.iload_n 3, 1) := by decide +kernel
theorem dB_carryAlone_59 : decode prog_1_method_44_code 59 = .ok (.aaload, 1) := by decide +kernel
theorem dB_carryAlone_60 : decode prog_1_method_44_code 60 = .ok (.iload_n 1, 1) := by decide +kernel
theorem dB_carryAlone_61 : decode prog_1_method_44_code 61 = .ok (.invokevirtual 352, 3) := by decide +kernel
theorem dB_carryAlone_64 : decode prog_1_method_44_code 64 = .ok (.iinc 3 1, 3) := by decide +kernel
theorem dB_carryAlone_67 : decode prog_1_method_44_code 67 = .ok (.goto (-23), 3) := by decide +kernel
theorem dB_carryAlone_70 : decode prog_1_method_44_code 70 = .ok (.iinc 2 1, 3) := by decide +kernel
theorem dB_carryAlone_73 : decode prog_1_method_44_code 73 = .ok (.goto (-40), 3) := by decide +kernel
theorem dB_carryAlone_76 : decode prog_1_method_44_code 76 = .ok (.return_, 1) := by decide +kernel
theorem dB_exact_0 : decode prog_1_method_19_code 0 = .ok (.aload_n 0, 1) := by decide +kernel
theorem dB_exact_1 : decode prog_1_method_19_code 1 = .ok (.iload_n 1, 1) := by decide +kernel
theorem dB_exact_2 : decode prog_1_method_19_code 2 = .ok (.invokevirtual 180, 3) := by decide +kernel
theorem dB_exact_5 : decode prog_1_method_19_code 5 = .ok (.astore_n 2, 1) := by decide +kernel
theorem dB_exact_6 : decode prog_1_method_19_code 6 = .ok (.aload_n 0, 1) := by decide +kernel
theorem dB_exact_7 : decode prog_1_method_19_code 7 = .ok (.iload_n 1, 1) := by decide +kernel
theorem dB_exact_8 : decode prog_1_method_19_code 8 = .ok (.invokevirtual 245, 3) := by decide +kernel
theorem dB_exact_11 : decode prog_1_method_19_code 11 = .ok (.iconst 0, 1) := by decide +kernel
theorem dB_exact_12 : decode prog_1_method_19_code 12 = .ok (.istore_n 3, 1) := by decide +kernel
theorem dB_exact_13 : decode prog_1_method_19_code 13 = .ok (.iload_n 3, 1) := by decide +kernel
theorem dB_exact_14 : decode prog_1_method_19_code 14 = .ok (.aload_n 0, 1) := by decide +kernel
theorem dB_exact_15 : decode prog_1_method_19_code 15 = .ok (.getfield 39, 3) := by decide +kernel
theorem dB_exact_18 : decode prog_1_method_19_code 18 = .ok (.arraylength, 1) := by decide +kernel
theorem dB_exact_19 : decode prog_1_method_19_code 19 = .ok (.if_icmp .ge 42, 3) := by decide +kernel
theorem dB_exact_22 : decode prog_1_method_19_code 22 = .ok (.aload_n 2, 1) := by decide +kernel
theorem dB_exact_23 : decode prog_1_method_19_code 23 = .ok (.getfield 225, 3) := by decide +kernel
theorem dB_exact_26 : decode prog_1_method_19_code 26 = .ok (.iload_n 3, 1) := by decide +kernel
theorem dB_exact_27 : decode prog_1_method_19_code 27 = .ok (.laload, 1) := by decide +kernel
theorem dB_exact_28 : decode prog_1_method_19_code 28 = .ok (.aload_n 0, 1) := by decide +kernel
theorem dB_exact_29 : decode prog_1_method_19_code 29 = .ok (.getfield 46, 3) := by decide +kernel
theorem dB_exact_32 : decode prog_1_method_19_code 32 = .ok (.iload_n 3, 1) := by decide +kernel
theorem dB_exact_33 : decode prog_1_method_19_code 33 = .ok (.laload, 1) := by decide +kernel
theorem dB_exact_34 : decode prog_1_method_19_code 34 = .ok (.lcmp, 1) := by decide +kernel
theorem dB_exact_35 : decode prog_1_method_19_code 35 = .ok (.ifCond .ne 18, 3) := by decide +kernel
theorem dB_exact_38 : decode prog_1_method_19_code 38 = .ok (.aload_n 2, 1) := by decide +kernel
theorem dB_exact_39 : decode prog_1_method_19_code 39 = .ok (.getfield 228, 3) := by decide +kernel
theorem dB_exact_42 : decode prog_1_method_19_code 42 = .ok (.iload_n 3, 1) := by decide +kernel
theorem dB_exact_43 : decode prog_1_method_19_code 43 = .ok (.iaload, 1) := by decide +kernel
theorem dB_exact_44 : decode prog_1_method_19_code 44 = .ok (.aload_n 0, 1) := by decide +kernel
theorem dB_exact_45 : decode prog_1_method_19_code 45 = .ok (.getfield 50, 3) := by decide +kernel
theorem dB_exact_48 : decode prog_1_method_19_code 48 = .ok (.iload_n 3, 1) := by decide +kernel
theorem dB_exact_49 : decode prog_1_method_19_code 49 = .ok (.iaload, 1) := by decide +kernel
theorem dB_exact_50 : decode prog_1_method_19_code 50 = .ok (.if_icmp .eq 5, 3) := by decide +kernel
theorem dB_exact_53 : decode prog_1_method_19_code 53 = .ok (.iconst 0, 1) := by decide +kernel
theorem dB_exact_54 : decode prog_1_method_19_code 54 = .ok (.ireturn, 1) := by decide +kernel
theorem dB_exact_55 : decode prog_1_method_19_code 55 = .ok (.iinc 3 1, 3) := by decide +kernel
theorem dB_exact_58 : decode prog_1_method_19_code 58 = .ok (.goto (-45), 3) := by decide +kernel
theorem dB_exact_61 : decode prog_1_method_19_code 61 = .ok (.iconst 1, 1) := by decide +kernel
theorem dB_exact_62 : decode prog_1_method_19_code 62 = .ok (.ireturn, 1) := by decide +kernel
theorem dB_held_0 : decode prog_1_method_20_code 0 = .ok (.aload_n 0, 1) := by decide +kernel
theorem dB_held_1 : decode prog_1_method_20_code 1 = .ok (.iload_n 1, 1) := by decide +kernel
theorem dB_held_2 : decode prog_1_method_20_code 2 = .ok (.invokevirtual 233, 3) := by decide +kernel
theorem dB_held_5 : decode prog_1_method_20_code 5 = .ok (.getfield 195, 3) := by decide +kernel
theorem dB_held_8 : decode prog_1_method_20_code 8 = .ok (.ireturn, 1) := by decide +kernel
theorem dB_waiting_0 : decode prog_1_method_21_code 0 = .ok (.aload_n 0, 1) := by decide +kernel
theorem dB_waiting_1 : decode prog_1_method_21_code 1 = .ok (.iload_n 1, 1) := by decide +kernel
theorem dB_waiting_2 : decode prog_1_method_21_code 2 = .ok (.invokevirtual 233, 3) := by decide +kernel
theorem dB_waiting_5 : decode prog_1_method_21_code 5 = .ok (.invokevirtual 209, 3) := by decide +kernel
theorem dB_waiting_8 : decode prog_1_method_21_code 8 = .ok (.ireturn, 1) := by decide +kernel
theorem dB_lineWith_0 : decode prog_1_method_28_code 0 = .ok (.aload_n 0, 1) := by decide +kernel
theorem dB_lineWith_1 : decode prog_1_method_28_code 1 = .ok (.iload_n 1, 1) := by decide +kernel
theorem dB_lineWith_2 : decode prog_1_method_28_code 2 = .ok (.invokevirtual 233, 3) := by decide +kernel
theorem dB_lineWith_5 : decode prog_1_method_28_code 5 = .ok (.astore 4, 2) := by decide +kernel
theorem dB_lineWith_7 : decode prog_1_method_28_code 7 = .ok (.aload 4, 2) := by decide +kernel
theorem dB_lineWith_9 : decode prog_1_method_28_code 9 = .ok (.instanceof 92, 3) := by decide +kernel
theorem dB_lineWith_12 : decode prog_1_method_28_code 12 = .ok (.ifCond .eq 23, 3) := by decide +kernel
theorem dB_lineWith_15 : decode prog_1_method_28_code 15 = .ok (.aload 4, 2) := by decide +kernel
theorem dB_lineWith_17 : decode prog_1_method_28_code 17 = .ok (.checkcast 92, 3) := by decide +kernel
theorem dB_lineWith_20 : decode prog_1_method_28_code 20 = .ok (.astore_n 3, 1) := by decide +kernel
theorem dB_lineWith_21 : decode prog_1_method_28_code 21 = .ok (.iload_n 2, 1) := by decide +kernel
theorem dB_lineWith_22 : decode prog_1_method_28_code 22 = .ok (.ifCond .lt 13, 3) := by decide +kernel
theorem dB_lineWith_25 : decode prog_1_method_28_code 25 = .ok (.iload_n 2, 1) := by decide +kernel
theorem dB_lineWith_26 : decode prog_1_method_28_code 26 = .ok (.aload_n 3, 1) := by decide +kernel
theorem dB_lineWith_27 : decode prog_1_method_28_code 27 = .ok (.getfield 264, 3) := by decide +kernel
theorem dB_lineWith_30 : decode prog_1_method_28_code 30 = .ok (.if_icmp .ge 5, 3) := by decide +kernel
theorem dB_lineWith_33 : decode prog_1_method_28_code 33 = .ok (.aload_n 3, 1) := by decide +kernel
theorem dB_lineWith_34 : decode prog_1_method_28_code 34 = .ok (.areturn, 1) := by decide +kernel
theorem dB_lineWith_35 : decode prog_1_method_28_code 35 = .ok (.new 240, 3) := by decide +kernel
theorem dB_lineWith_38 : decode prog_1_method_28_code 38 = .ok (.dup, 1) := by decide +kernel
theorem dB_lineWith_39 : decode prog_1_method_28_code 39 = .ok (.ldc_w 265, 3) := by decide +kernel
theorem dB_lineWith_42 : decode prog_1_method_28_code 42 = .ok (.invokespecial 244, 3) := by decide +kernel
theorem dB_lineWith_45 : decode prog_1_method_28_code 45 = .ok (.athrow, 1) := by decide +kernel
theorem dB_kind_0 : decode prog_1_method_22_code 0 = .ok (.aload_n 0, 1) := by decide +kernel
theorem dB_kind_1 : decode prog_1_method_22_code 1 = .ok (.iload_n 1, 1) := by decide +kernel
theorem dB_kind_2 : decode prog_1_method_22_code 2 = .ok (.iload_n 2, 1) := by decide +kernel
theorem dB_kind_3 : decode prog_1_method_22_code 3 = .ok (.invokevirtual 248, 3) := by decide +kernel
theorem dB_kind_6 : decode prog_1_method_22_code 6 = .ok (.getfield 252, 3) := by decide +kernel
theorem dB_kind_9 : decode prog_1_method_22_code 9 = .ok (.iload_n 2, 1) := by decide +kernel
theorem dB_kind_10 : decode prog_1_method_22_code 10 = .ok (.iaload, 1) := by decide +kernel
theorem dB_kind_11 : decode prog_1_method_22_code 11 = .ok (.ireturn, 1) := by decide +kernel
theorem dB_value_0 : decode prog_1_method_23_code 0 = .ok (.aload_n 0, 1) := by decide +kernel
theorem dB_value_1 : decode prog_1_method_23_code 1 = .ok (.iload_n 1, 1) := by decide +kernel
theorem dB_value_2 : decode prog_1_method_23_code 2 = .ok (.iload_n 2, 1) := by decide +kernel
theorem dB_value_3 : decode prog_1_method_23_code 3 = .ok (.invokevirtual 248, 3) := by decide +kernel
theorem dB_value_6 : decode prog_1_method_23_code 6 = .ok (.getfield 255, 3) := by decide +kernel
theorem dB_value_9 : decode prog_1_method_23_code 9 = .ok (.iload_n 2, 1) := by decide +kernel
theorem dB_value_10 : decode prog_1_method_23_code 10 = .ok (.laload, 1) := by decide +kernel
theorem dB_value_11 : decode prog_1_method_23_code 11 = .ok (.lreturn, 1) := by decide +kernel
theorem dB_told_0 : decode prog_1_method_24_code 0 = .ok (.iload_n 1, 1) := by decide +kernel
theorem dB_told_1 : decode prog_1_method_24_code 1 = .ok (.tableswitch 54 0 3 #[31, 36, 41, 49], 31) := by decide +kernel
theorem dB_told_32 : decode prog_1_method_24_code 32 = .ok (.aload_n 0, 1) := by decide +kernel
theorem dB_told_33 : decode prog_1_method_24_code 33 = .ok (.getfield 62, 3) := by decide +kernel
theorem dB_told_36 : decode prog_1_method_24_code 36 = .ok (.ireturn, 1) := by decide +kernel
theorem dB_told_37 : decode prog_1_method_24_code 37 = .ok (.aload_n 0, 1) := by decide +kernel
theorem dB_told_38 : decode prog_1_method_24_code 38 = .ok (.getfield 122, 3) := by decide +kernel
theorem dB_told_41 : decode prog_1_method_24_code 41 = .ok (.ireturn, 1) := by decide +kernel
theorem dB_told_42 : decode prog_1_method_24_code 42 = .ok (.aload_n 0, 1) := by decide +kernel
theorem dB_told_43 : decode prog_1_method_24_code 43 = .ok (.getfield 24, 3) := by decide +kernel
theorem dB_told_46 : decode prog_1_method_24_code 46 = .ok (.getfield 172, 3) := by decide +kernel
theorem dB_told_49 : decode prog_1_method_24_code 49 = .ok (.ireturn, 1) := by decide +kernel
theorem dB_told_50 : decode prog_1_method_24_code 50 = .ok (.aload_n 0, 1) := by decide +kernel
theorem dB_told_51 : decode prog_1_method_24_code 51 = .ok (.getfield 119, 3) := by decide +kernel
theorem dB_told_54 : decode prog_1_method_24_code 54 = .ok (.ireturn, 1) := by decide +kernel
theorem dB_told_55 : decode prog_1_method_24_code 55 = .ok (.new 87, 3) := by decide +kernel
theorem dB_told_58 : decode prog_1_method_24_code 58 = .ok (.dup, 1) := by decide +kernel
theorem dB_told_59 : decode prog_1_method_24_code 59 = .ok (.ldc_w 258, 3) := by decide +kernel
theorem dB_told_62 : decode prog_1_method_24_code 62 = .ok (.invokespecial 91, 3) := by decide +kernel
theorem dB_told_65 : decode prog_1_method_24_code 65 = .ok (.athrow, 1) := by decide +kernel
theorem dR_init_0 : decode prog_9_method_1_code 0 = .ok (.aload_n 0, 1) := by decide +kernel
theorem dR_init_1 : decode prog_9_method_1_code 1 = .ok (.invokespecial 1, 3) := by decide +kernel
theorem dR_init_4 : decode prog_9_method_1_code 4 = .ok (.aload_n 0, 1) := by decide +kernel
theorem dR_init_5 : decode prog_9_method_1_code 5 = .ok (.bipush 8, 2) := by decide +kernel
theorem dR_init_7 : decode prog_9_method_1_code 7 = .ok (.newarray .long, 2) := by decide +kernel
theorem dR_init_9 : decode prog_9_method_1_code 9 = .ok (.putfield 7, 3) := by decide +kernel
theorem dR_init_12 : decode prog_9_method_1_code 12 = .ok (.aload_n 0, 1) := by decide +kernel
theorem dR_init_13 : decode prog_9_method_1_code 13 = .ok (.bipush 8, 2) := by decide +kernel
theorem dR_init_15 : decode prog_9_method_1_code 15 = .ok (.newarray .int, 2) := by decide +kernel
theorem dR_init_17 : decode prog_9_method_1_code 17 = .ok (.putfield 13, 3) := by decide +kernel
theorem dR_init_20 : decode prog_9_method_1_code 20 = .ok (.aload_n 0, 1) := by decide +kernel
theorem dR_init_21 : decode prog_9_method_1_code 21 = .ok (.bipush 8, 2) := by decide +kernel
theorem dR_init_23 : decode prog_9_method_1_code 23 = .ok (.newarray .boolean, 2) := by decide +kernel
theorem dR_init_25 : decode prog_9_method_1_code 25 = .ok (.putfield 17, 3) := by decide +kernel
theorem dR_init_28 : decode prog_9_method_1_code 28 = .ok (.aload_n 0, 1) := by decide +kernel
theorem dR_init_29 : decode prog_9_method_1_code 29 = .ok (.bipush 8, 2) := by decide +kernel
theorem dR_init_31 : decode prog_9_method_1_code 31 = .ok (.newarray .int, 2) := by decide +kernel
theorem dR_init_33 : decode prog_9_method_1_code 33 = .ok (.putfield 21, 3) := by decide +kernel
theorem dR_init_36 : decode prog_9_method_1_code 36 = .ok (.aload_n 0, 1) := by decide +kernel
theorem dR_init_37 : decode prog_9_method_1_code 37 = .ok (.bipush 16, 2) := by decide +kernel
theorem dR_init_39 : decode prog_9_method_1_code 39 = .ok (.newarray .int, 2) := by decide +kernel
theorem dR_init_41 : decode prog_9_method_1_code 41 = .ok (.putfield 24, 3) := by decide +kernel
theorem dR_init_44 : decode prog_9_method_1_code 44 = .ok (.aload_n 0, 1) := by decide +kernel
theorem dR_init_45 : decode prog_9_method_1_code 45 = .ok (.bipush 16, 2) := by decide +kernel
theorem dR_init_47 : decode prog_9_method_1_code 47 = .ok (.newarray .int, 2) := by decide +kernel
theorem dR_init_49 : decode prog_9_method_1_code 49 = .ok (.putfield 27, 3) := by decide +kernel
theorem dR_init_52 : decode prog_9_method_1_code 52 = .ok (.aload_n 0, 1) := by decide +kernel
theorem dR_init_53 : decode prog_9_method_1_code 53 = .ok (.sipush 256, 3) := by decide +kernel
theorem dR_init_56 : decode prog_9_method_1_code 56 = .ok (.newarray .int, 2) := by decide +kernel
theorem dR_init_58 : decode prog_9_method_1_code 58 = .ok (.putfield 30, 3) := by decide +kernel
theorem dR_init_61 : decode prog_9_method_1_code 61 = .ok (.aload_n 0, 1) := by decide +kernel
theorem dR_init_62 : decode prog_9_method_1_code 62 = .ok (.sipush 256, 3) := by decide +kernel
theorem dR_init_65 : decode prog_9_method_1_code 65 = .ok (.newarray .long, 2) := by decide +kernel
theorem dR_init_67 : decode prog_9_method_1_code 67 = .ok (.putfield 33, 3) := by decide +kernel
theorem dR_init_70 : decode prog_9_method_1_code 70 = .ok (.aload_n 0, 1) := by decide +kernel
theorem dR_init_71 : decode prog_9_method_1_code 71 = .ok (.bipush 16, 2) := by decide +kernel
theorem dR_init_73 : decode prog_9_method_1_code 73 = .ok (.newarray .int, 2) := by decide +kernel
theorem dR_init_75 : decode prog_9_method_1_code 75 = .ok (.putfield 36, 3) := by decide +kernel
theorem dR_init_78 : decode prog_9_method_1_code 78 = .ok (.aload_n 0, 1) := by decide +kernel
theorem dR_init_79 : decode prog_9_method_1_code 79 = .ok (.sipush 3200, 3) := by decide +kernel
theorem dR_init_82 : decode prog_9_method_1_code 82 = .ok (.newarray .long, 2) := by decide +kernel
theorem dR_init_84 : decode prog_9_method_1_code 84 = .ok (.putfield 39, 3) := by decide +kernel
theorem dR_init_87 : decode prog_9_method_1_code 87 = .ok (.aload_n 0, 1) := by decide +kernel
theorem dR_init_88 : decode prog_9_method_1_code 88 = .ok (.bipush 16, 2) := by decide +kernel
