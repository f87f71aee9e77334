theorem dR_isMark_6 : decode prog_9_method_5_code 6 = .ok (.getfield 106, 3) := by decide +kernel
theorem dR_isMark_9 : decode prog_9_method_5_code 9 = .ok (.if_icmp .ge 7, 3) := by decide +kernel
theorem dR_isMark_12 : decode prog_9_method_5_code 12 = .ok (.iconst 1, 1) := by decide +kernel
theorem dR_isMark_13 : decode prog_9_method_5_code 13 = .ok (.goto 4, 3) := by decide +kernel
theorem dR_isMark_16 : decode prog_9_method_5_code 16 = .ok (.iconst 0, 1) := by decide +kernel
theorem dR_isMark_17 : decode prog_9_method_5_code 17 = .ok (.ireturn, 1) := by decide +kernel
theorem dR_giveUp_0 : decode prog_9_method_28_code 0 = .ok (.aload_n 0, 1) := by decide +kernel
theorem dR_giveUp_1 : decode prog_9_method_28_code 1 = .ok (.aload_n 0, 1) := by decide +kernel
theorem dR_giveUp_2 : decode prog_9_method_28_code 2 = .ok (.iload_n 1, 1) := by decide +kernel
theorem dR_giveUp_3 : decode prog_9_method_28_code 3 = .ok (.invokevirtual 182, 3) := by decide +kernel
theorem dR_giveUp_6 : decode prog_9_method_28_code 6 = .ok (.ifCond .ne 7, 3) := by decide +kernel
theorem dR_giveUp_9 : decode prog_9_method_28_code 9 = .ok (.iconst 1, 1) := by decide +kernel
theorem dR_giveUp_10 : decode prog_9_method_28_code 10 = .ok (.goto 17, 3) := by decide +kernel
theorem dR_giveUp_13 : decode prog_9_method_28_code 13 = .ok (.aload_n 0, 1) := by decide +kernel
theorem dR_giveUp_14 : decode prog_9_method_28_code 14 = .ok (.getfield 57, 3) := by decide +kernel
theorem dR_giveUp_17 : decode prog_9_method_28_code 17 = .ok (.iload_n 1, 1) := by decide +kernel
theorem dR_giveUp_18 : decode prog_9_method_28_code 18 = .ok (.iaload, 1) := by decide +kernel
theorem dR_giveUp_19 : decode prog_9_method_28_code 19 = .ok (.ifCond .eq 7, 3) := by decide +kernel
theorem dR_giveUp_22 : decode prog_9_method_28_code 22 = .ok (.iconst 2, 1) := by decide +kernel
theorem dR_giveUp_23 : decode prog_9_method_28_code 23 = .ok (.goto 4, 3) := by decide +kernel
theorem dR_giveUp_26 : decode prog_9_method_28_code 26 = .ok (.iconst 0, 1) := by decide +kernel
theorem dR_giveUp_27 : decode prog_9_method_28_code 27 = .ok (.putfield 100, 3) := by decide +kernel
theorem dR_giveUp_30 : decode prog_9_method_28_code 30 = .ok (.aload_n 0, 1) := by decide +kernel
theorem dR_giveUp_31 : decode prog_9_method_28_code 31 = .ok (.getfield 100, 3) := by decide +kernel
theorem dR_giveUp_34 : decode prog_9_method_28_code 34 = .ok (.ifCond .le 5, 3) := by decide +kernel
theorem dR_giveUp_37 : decode prog_9_method_28_code 37 = .ok (.iconst 0, 1) := by decide +kernel
theorem dR_giveUp_38 : decode prog_9_method_28_code 38 = .ok (.ireturn, 1) := by decide +kernel
theorem dR_giveUp_39 : decode prog_9_method_28_code 39 = .ok (.aload_n 0, 1) := by decide +kernel
theorem dR_giveUp_40 : decode prog_9_method_28_code 40 = .ok (.iload_n 1, 1) := by decide +kernel
theorem dR_giveUp_41 : decode prog_9_method_28_code 41 = .ok (.iconst 2, 1) := by decide +kernel
theorem dR_giveUp_42 : decode prog_9_method_28_code 42 = .ok (.invokevirtual 159, 3) := by decide +kernel
theorem dR_giveUp_45 : decode prog_9_method_28_code 45 = .ok (.aload_n 0, 1) := by decide +kernel
theorem dR_giveUp_46 : decode prog_9_method_28_code 46 = .ok (.iload_n 1, 1) := by decide +kernel
theorem dR_giveUp_47 : decode prog_9_method_28_code 47 = .ok (.invokevirtual 156, 3) := by decide +kernel
theorem dR_giveUp_50 : decode prog_9_method_28_code 50 = .ok (.ireturn, 1) := by decide +kernel
theorem dR_fails_0 : decode prog_9_method_29_code 0 = .ok (.aload_n 0, 1) := by decide +kernel
theorem dR_fails_1 : decode prog_9_method_29_code 1 = .ok (.aload_n 0, 1) := by decide +kernel
theorem dR_fails_2 : decode prog_9_method_29_code 2 = .ok (.iload_n 1, 1) := by decide +kernel
theorem dR_fails_3 : decode prog_9_method_29_code 3 = .ok (.invokevirtual 109, 3) := by decide +kernel
theorem dR_fails_6 : decode prog_9_method_29_code 6 = .ok (.ifCond .eq 11, 3) := by decide +kernel
theorem dR_fails_9 : decode prog_9_method_29_code 9 = .ok (.aload_n 0, 1) := by decide +kernel
theorem dR_fails_10 : decode prog_9_method_29_code 10 = .ok (.iload_n 2, 1) := by decide +kernel
theorem dR_fails_11 : decode prog_9_method_29_code 11 = .ok (.invokevirtual 182, 3) := by decide +kernel
theorem dR_fails_14 : decode prog_9_method_29_code 14 = .ok (.ifCond .ne 7, 3) := by decide +kernel
theorem dR_fails_17 : decode prog_9_method_29_code 17 = .ok (.iconst 1, 1) := by decide +kernel
theorem dR_fails_18 : decode prog_9_method_29_code 18 = .ok (.goto 45, 3) := by decide +kernel
theorem dR_fails_21 : decode prog_9_method_29_code 21 = .ok (.aload_n 0, 1) := by decide +kernel
theorem dR_fails_22 : decode prog_9_method_29_code 22 = .ok (.getfield 57, 3) := by decide +kernel
theorem dR_fails_25 : decode prog_9_method_29_code 25 = .ok (.iload_n 2, 1) := by decide +kernel
theorem dR_fails_26 : decode prog_9_method_29_code 26 = .ok (.iaload, 1) := by decide +kernel
theorem dR_fails_27 : decode prog_9_method_29_code 27 = .ok (.ifCond .ne 31, 3) := by decide +kernel
theorem dR_fails_30 : decode prog_9_method_29_code 30 = .ok (.aload_n 0, 1) := by decide +kernel
theorem dR_fails_31 : decode prog_9_method_29_code 31 = .ok (.getfield 66, 3) := by decide +kernel
theorem dR_fails_34 : decode prog_9_method_29_code 34 = .ok (.bipush 8, 2) := by decide +kernel
theorem dR_fails_36 : decode prog_9_method_29_code 36 = .ok (.iload_n 2, 1) := by decide +kernel
theorem dR_fails_37 : decode prog_9_method_29_code 37 = .ok (.imul, 1) := by decide +kernel
theorem dR_fails_38 : decode prog_9_method_29_code 38 = .ok (.iload_n 1, 1) := by decide +kernel
theorem dR_fails_39 : decode prog_9_method_29_code 39 = .ok (.iadd, 1) := by decide +kernel
theorem dR_fails_40 : decode prog_9_method_29_code 40 = .ok (.baload, 1) := by decide +kernel
theorem dR_fails_41 : decode prog_9_method_29_code 41 = .ok (.ifCond .ne 17, 3) := by decide +kernel
theorem dR_fails_44 : decode prog_9_method_29_code 44 = .ok (.aload_n 0, 1) := by decide +kernel
theorem dR_fails_45 : decode prog_9_method_29_code 45 = .ok (.getfield 78, 3) := by decide +kernel
theorem dR_fails_48 : decode prog_9_method_29_code 48 = .ok (.bipush 8, 2) := by decide +kernel
theorem dR_fails_50 : decode prog_9_method_29_code 50 = .ok (.iload_n 2, 1) := by decide +kernel
theorem dR_fails_51 : decode prog_9_method_29_code 51 = .ok (.imul, 1) := by decide +kernel
theorem dR_fails_52 : decode prog_9_method_29_code 52 = .ok (.iload_n 1, 1) := by decide +kernel
theorem dR_fails_53 : decode prog_9_method_29_code 53 = .ok (.iadd, 1) := by decide +kernel
theorem dR_fails_54 : decode prog_9_method_29_code 54 = .ok (.baload, 1) := by decide +kernel
theorem dR_fails_55 : decode prog_9_method_29_code 55 = .ok (.ifCond .eq 7, 3) := by decide +kernel
theorem dR_fails_58 : decode prog_9_method_29_code 58 = .ok (.iconst 2, 1) := by decide +kernel
theorem dR_fails_59 : decode prog_9_method_29_code 59 = .ok (.goto 4, 3) := by decide +kernel
theorem dR_fails_62 : decode prog_9_method_29_code 62 = .ok (.iconst 0, 1) := by decide +kernel
theorem dR_fails_63 : decode prog_9_method_29_code 63 = .ok (.putfield 100, 3) := by decide +kernel
theorem dR_fails_66 : decode prog_9_method_29_code 66 = .ok (.aload_n 0, 1) := by decide +kernel
theorem dR_fails_67 : decode prog_9_method_29_code 67 = .ok (.getfield 100, 3) := by decide +kernel
theorem dR_fails_70 : decode prog_9_method_29_code 70 = .ok (.ifCond .ne 15, 3) := by decide +kernel
theorem dR_fails_73 : decode prog_9_method_29_code 73 = .ok (.aload_n 0, 1) := by decide +kernel
theorem dR_fails_74 : decode prog_9_method_29_code 74 = .ok (.getfield 78, 3) := by decide +kernel
theorem dR_fails_77 : decode prog_9_method_29_code 77 = .ok (.bipush 8, 2) := by decide +kernel
theorem dR_fails_79 : decode prog_9_method_29_code 79 = .ok (.iload_n 2, 1) := by decide +kernel
theorem dR_fails_80 : decode prog_9_method_29_code 80 = .ok (.imul, 1) := by decide +kernel
theorem dR_fails_81 : decode prog_9_method_29_code 81 = .ok (.iload_n 1, 1) := by decide +kernel
theorem dR_fails_82 : decode prog_9_method_29_code 82 = .ok (.iadd, 1) := by decide +kernel
theorem dR_fails_83 : decode prog_9_method_29_code 83 = .ok (.iconst 1, 1) := by decide +kernel
theorem dR_fails_84 : decode prog_9_method_29_code 84 = .ok (.bastore, 1) := by decide +kernel
theorem dR_fails_85 : decode prog_9_method_29_code 85 = .ok (.return_, 1) := by decide +kernel
theorem dR_again_0 : decode prog_9_method_30_code 0 = .ok (.aload_n 0, 1) := by decide +kernel
theorem dR_again_1 : decode prog_9_method_30_code 1 = .ok (.aload_n 0, 1) := by decide +kernel
theorem dR_again_2 : decode prog_9_method_30_code 2 = .ok (.iload_n 2, 1) := by decide +kernel
theorem dR_again_3 : decode prog_9_method_30_code 3 = .ok (.invokevirtual 109, 3) := by decide +kernel
theorem dR_again_6 : decode prog_9_method_30_code 6 = .ok (.ifCond .eq 11, 3) := by decide +kernel
theorem dR_again_9 : decode prog_9_method_30_code 9 = .ok (.aload_n 0, 1) := by decide +kernel
theorem dR_again_10 : decode prog_9_method_30_code 10 = .ok (.iload_n 1, 1) := by decide +kernel
theorem dR_again_11 : decode prog_9_method_30_code 11 = .ok (.invokevirtual 182, 3) := by decide +kernel
theorem dR_again_14 : decode prog_9_method_30_code 14 = .ok (.ifCond .ne 7, 3) := by decide +kernel
theorem dR_again_17 : decode prog_9_method_30_code 17 = .ok (.iconst 1, 1) := by decide +kernel
theorem dR_again_18 : decode prog_9_method_30_code 18 = .ok (.goto 41, 3) := by decide +kernel
theorem dR_again_21 : decode prog_9_method_30_code 21 = .ok (.aload_n 0, 1) := by decide +kernel
theorem dR_again_22 : decode prog_9_method_30_code 22 = .ok (.getfield 57, 3) := by decide +kernel
theorem dR_again_25 : decode prog_9_method_30_code 25 = .ok (.iload_n 1, 1) := by decide +kernel
theorem dR_again_26 : decode prog_9_method_30_code 26 = .ok (.iaload, 1) := by decide +kernel
theorem dR_again_27 : decode prog_9_method_30_code 27 = .ok (.ifCond .ne 27, 3) := by decide +kernel
theorem dR_again_30 : decode prog_9_method_30_code 30 = .ok (.aload_n 0, 1) := by decide +kernel
theorem dR_again_31 : decode prog_9_method_30_code 31 = .ok (.getfield 66, 3) := by decide +kernel
theorem dR_again_34 : decode prog_9_method_30_code 34 = .ok (.bipush 8, 2) := by decide +kernel
theorem dR_again_36 : decode prog_9_method_30_code 36 = .ok (.iload_n 1, 1) := by decide +kernel
theorem dR_again_37 : decode prog_9_method_30_code 37 = .ok (.imul, 1) := by decide +kernel
theorem dR_again_38 : decode prog_9_method_30_code 38 = .ok (.iload_n 2, 1) := by decide +kernel
theorem dR_again_39 : decode prog_9_method_30_code 39 = .ok (.iadd, 1) := by decide +kernel
theorem dR_again_40 : decode prog_9_method_30_code 40 = .ok (.baload, 1) := by decide +kernel
theorem dR_again_41 : decode prog_9_method_30_code 41 = .ok (.ifCond .eq 13, 3) := by decide +kernel
theorem dR_again_44 : decode prog_9_method_30_code 44 = .ok (.aload_n 0, 1) := by decide +kernel
theorem dR_again_45 : decode prog_9_method_30_code 45 = .ok (.getfield 138, 3) := by decide +kernel
theorem dR_again_48 : decode prog_9_method_30_code 48 = .ok (.sipush 200, 3) := by decide +kernel
theorem dR_again_51 : decode prog_9_method_30_code 51 = .ok (.if_icmp .lt 7, 3) := by decide +kernel
theorem dR_again_54 : decode prog_9_method_30_code 54 = .ok (.iconst 2, 1) := by decide +kernel
theorem dR_again_55 : decode prog_9_method_30_code 55 = .ok (.goto 4, 3) := by decide +kernel
theorem dR_again_58 : decode prog_9_method_30_code 58 = .ok (.iconst 0, 1) := by decide +kernel
theorem dR_again_59 : decode prog_9_method_30_code 59 = .ok (.putfield 100, 3) := by decide +kernel
theorem dR_again_62 : decode prog_9_method_30_code 62 = .ok (.aload_n 0, 1) := by decide +kernel
theorem dR_again_63 : decode prog_9_method_30_code 63 = .ok (.getfield 100, 3) := by decide +kernel
theorem dR_again_66 : decode prog_9_method_30_code 66 = .ok (.ifCond .le 5, 3) := by decide +kernel
theorem dR_again_69 : decode prog_9_method_30_code 69 = .ok (.iconst 0, 1) := by decide +kernel
theorem dR_again_70 : decode prog_9_method_30_code 70 = .ok (.ireturn, 1) := by decide +kernel
theorem dR_again_71 : decode prog_9_method_30_code 71 = .ok (.aload_n 0, 1) := by decide +kernel
theorem dR_again_72 : decode prog_9_method_30_code 72 = .ok (.iload_n 1, 1) := by decide +kernel
theorem dR_again_73 : decode prog_9_method_30_code 73 = .ok (.iload_n 2, 1) := by decide +kernel
theorem dR_again_74 : decode prog_9_method_30_code 74 = .ok (.invokevirtual 141, 3) := by decide +kernel
theorem dR_again_77 : decode prog_9_method_30_code 77 = .ok (.aload_n 0, 1) := by decide +kernel
theorem dR_again_78 : decode prog_9_method_30_code 78 = .ok (.getfield 138, 3) := by decide +kernel
theorem dR_again_81 : decode prog_9_method_30_code 81 = .ok (.ireturn, 1) := by decide +kernel
theorem dR_restore_0 : decode prog_9_method_31_code 0 = .ok (.aload_n 0, 1) := by decide +kernel
theorem dR_restore_1 : decode prog_9_method_31_code 1 = .ok (.aload_n 0, 1) := by decide +kernel
theorem dR_restore_2 : decode prog_9_method_31_code 2 = .ok (.iload_n 1, 1) := by decide +kernel
theorem dR_restore_3 : decode prog_9_method_31_code 3 = .ok (.invokevirtual 182, 3) := by decide +kernel
theorem dR_restore_6 : decode prog_9_method_31_code 6 = .ok (.ifCond .ne 7, 3) := by decide +kernel
theorem dR_restore_9 : decode prog_9_method_31_code 9 = .ok (.iconst 1, 1) := by decide +kernel
theorem dR_restore_10 : decode prog_9_method_31_code 10 = .ok (.goto 18, 3) := by decide +kernel
theorem dR_restore_13 : decode prog_9_method_31_code 13 = .ok (.aload_n 0, 1) := by decide +kernel
theorem dR_restore_14 : decode prog_9_method_31_code 14 = .ok (.getfield 57, 3) := by decide +kernel
theorem dR_restore_17 : decode prog_9_method_31_code 17 = .ok (.iload_n 1, 1) := by decide +kernel
theorem dR_restore_18 : decode prog_9_method_31_code 18 = .ok (.iaload, 1) := by decide +kernel
theorem dR_restore_19 : decode prog_9_method_31_code 19 = .ok (.iconst 1, 1) := by decide +kernel
theorem dR_restore_20 : decode prog_9_method_31_code 20 = .ok (.if_icmp .eq 7, 3) := by decide +kernel
theorem dR_restore_23 : decode prog_9_method_31_code 23 = .ok (.iconst 2, 1) := by decide +kernel
theorem dR_restore_24 : decode prog_9_method_31_code 24 = .ok (.goto 4, 3) := by decide +kernel
theorem dR_restore_27 : decode prog_9_method_31_code 27 = .ok (.iconst 0, 1) := by decide +kernel
theorem dR_restore_28 : decode prog_9_method_31_code 28 = .ok (.putfield 100, 3) := by decide +kernel
theorem dR_restore_31 : decode prog_9_method_31_code 31 = .ok (.aload_n 0, 1) := by decide +kernel
theorem dR_restore_32 : decode prog_9_method_31_code 32 = .ok (.getfield 100, 3) := by decide +kernel
theorem dR_restore_35 : decode prog_9_method_31_code 35 = .ok (.ifCond .le 5, 3) := by decide +kernel
theorem dR_restore_38 : decode prog_9_method_31_code 38 = .ok (.iconst 0, 1) := by decide +kernel
theorem dR_restore_39 : decode prog_9_method_31_code 39 = .ok (.ireturn, 1) := by decide +kernel
theorem dR_restore_40 : decode prog_9_method_31_code 40 = .ok (.iconst 0, 1) := by decide +kernel
theorem dR_restore_41 : decode prog_9_method_31_code 41 = .ok (.istore_n 2, 1) := by decide +kernel
theorem dR_restore_42 : decode prog_9_method_31_code 42 = .ok (.iload_n 2, 1) := by decide +kernel
theorem dR_restore_43 : decode prog_9_method_31_code 43 = .ok (.aload_n 0, 1) := by decide +kernel
theorem dR_restore_44 : decode prog_9_method_31_code 44 = .ok (.getfield 106, 3) := by decide +kernel
theorem dR_restore_47 : decode prog_9_method_31_code 47 = .ok (.if_icmp .ge 24, 3) := by decide +kernel
theorem dR_restore_50 : decode prog_9_method_31_code 50 = .ok (.aload_n 0, 1) := by decide +kernel
theorem dR_restore_51 : decode prog_9_method_31_code 51 = .ok (.getfield 57, 3) := by decide +kernel
theorem dR_restore_54 : decode prog_9_method_31_code 54 = .ok (.iload_n 2, 1) := by decide +kernel
theorem dR_restore_55 : decode prog_9_method_31_code 55 = .ok (.iaload, 1) := by decide +kernel
theorem dR_restore_56 : decode prog_9_method_31_code 56 = .ok (.ifCond .ne 9, 3) := by decide +kernel
theorem dR_restore_59 : decode prog_9_method_31_code 59 = .ok (.aload_n 0, 1) := by decide +kernel
theorem dR_restore_60 : decode prog_9_method_31_code 60 = .ok (.iload_n 2, 1) := by decide +kernel
theorem dR_restore_61 : decode prog_9_method_31_code 61 = .ok (.iconst 2, 1) := by decide +kernel
theorem dR_restore_62 : decode prog_9_method_31_code 62 = .ok (.invokevirtual 159, 3) := by decide +kernel
theorem dR_restore_65 : decode prog_9_method_31_code 65 = .ok (.iinc 2 1, 3) := by decide +kernel
theorem dR_restore_68 : decode prog_9_method_31_code 68 = .ok (.goto (-26), 3) := by decide +kernel
theorem dR_restore_71 : decode prog_9_method_31_code 71 = .ok (.iconst 0, 1) := by decide +kernel
theorem dR_restore_72 : decode prog_9_method_31_code 72 = .ok (.istore_n 2, 1) := by decide +kernel
theorem dR_restore_73 : decode prog_9_method_31_code 73 = .ok (.iload_n 2, 1) := by decide +kernel
theorem dR_restore_74 : decode prog_9_method_31_code 74 = .ok (.aload_n 0, 1) := by decide +kernel
theorem dR_restore_75 : decode prog_9_method_31_code 75 = .ok (.getfield 96, 3) := by decide +kernel
theorem dR_restore_78 : decode prog_9_method_31_code 78 = .ok (.if_icmp .ge 67, 3) := by decide +kernel
theorem dR_restore_81 : decode prog_9_method_31_code 81 = .ok (.aload_n 0, 1) := by decide +kernel
theorem dR_restore_82 : decode prog_9_method_31_code 82 = .ok (.getfield 7, 3) := by decide +kernel
theorem dR_restore_85 : decode prog_9_method_31_code 85 = .ok (.iload_n 2, 1) := by decide +kernel
theorem dR_restore_86 : decode prog_9_method_31_code 86 = .ok (.aload_n 0, 1) := by decide +kernel
theorem dR_restore_87 : decode prog_9_method_31_code 87 = .ok (.getfield 72, 3) := by decide +kernel
theorem dR_restore_90 : decode prog_9_method_31_code 90 = .ok (.bipush 8, 2) := by decide +kernel
theorem dR_restore_92 : decode prog_9_method_31_code 92 = .ok (.iload_n 1, 1) := by decide +kernel
theorem dR_restore_93 : decode prog_9_method_31_code 93 = .ok (.imul, 1) := by decide +kernel
theorem dR_restore_94 : decode prog_9_method_31_code 94 = .ok (.iload_n 2, 1) := by decide +kernel
theorem dR_restore_95 : decode prog_9_method_31_code 95 = .ok (.iadd, 1) := by decide +kernel
theorem dR_restore_96 : decode prog_9_method_31_code 96 = .ok (.laload, 1) := by decide +kernel
theorem dR_restore_97 : decode prog_9_method_31_code 97 = .ok (.lastore, 1) := by decide +kernel
theorem dR_restore_98 : decode prog_9_method_31_code 98 = .ok (.aload_n 0, 1) := by decide +kernel
theorem dR_restore_99 : decode prog_9_method_31_code 99 = .ok (.getfield 13, 3) := by decide +kernel
theorem dR_restore_102 : decode prog_9_method_31_code 102 = .ok (.iload_n 2, 1) := by decide +kernel
theorem dR_restore_103 : decode prog_9_method_31_code 103 = .ok (.aload_n 0, 1) := by decide +kernel
theorem dR_restore_104 : decode prog_9_method_31_code 104 = .ok (.getfield 75, 3) := by decide +kernel
theorem dR_restore_107 : decode prog_9_method_31_code 107 = .ok (.bipush 8, 2) := by decide +kernel
theorem dR_restore_109 : decode prog_9_method_31_code 109 = .ok (.iload_n 1, 1) := by decide +kernel
theorem dR_restore_110 : decode prog_9_method_31_code 110 = .ok (.imul, 1) := by decide +kernel
theorem dR_restore_111 : decode prog_9_method_31_code 111 = .ok (.iload_n 2, 1) := by decide +kernel
theorem dR_restore_112 : decode prog_9_method_31_code 112 = .ok (.iadd, 1) := by decide +kernel
theorem dR_restore_113 : decode prog_9_method_31_code 113 = .ok (.iaload, 1) := by decide +kernel
theorem dR_restore_114 : decode prog_9_method_31_code 114 = .ok (.iastore, 1) := by decide +kernel
theorem dR_restore_115 : decode prog_9_method_31_code 115 = .ok (.aload_n 0, 1) := by decide +kernel
theorem dR_restore_116 : decode prog_9_method_31_code 116 = .ok (.getfield 17, 3) := by decide +kernel
theorem dR_restore_119 : decode prog_9_method_31_code 119 = .ok (.iload_n 2, 1) := by decide +kernel
theorem dR_restore_120 : decode prog_9_method_31_code 120 = .ok (.aload_n 0, 1) := by decide +kernel
theorem dR_restore_121 : decode prog_9_method_31_code 121 = .ok (.getfield 69, 3) := by decide +kernel
theorem dR_restore_124 : decode prog_9_method_31_code 124 = .ok (.bipush 8, 2) := by decide +kernel
theorem dR_restore_126 : decode prog_9_method_31_code 126 = .ok (.iload_n 1, 1) := by decide +kernel
theorem dR_restore_127 : decode prog_9_method_31_code 127 = .ok (.imul, 1) := by decide +kernel
theorem dR_restore_128 : decode prog_9_method_31_code 128 = .ok (.iload_n 2, 1) := by decide +kernel
theorem dR_restore_129 : decode prog_9_method_31_code 129 = .ok (.iadd, 1) := by decide +kernel
theorem dR_restore_130 : decode prog_9_method_31_code 130 = .ok (.baload, 1) := by decide +kernel
theorem dR_restore_131 : decode prog_9_method_31_code 131 = .ok (.bastore, 1) := by decide +kernel
theorem dR_restore_132 : decode prog_9_method_31_code 132 = .ok (.aload_n 0, 1) := by decide +kernel
theorem dR_restore_133 : decode prog_9_method_31_code 133 = .ok (.getfield 21, 3) := by decide +kernel
theorem dR_restore_136 : decode prog_9_method_31_code 136 = .ok (.iload_n 2, 1) := by decide +kernel
theorem dR_restore_137 : decode prog_9_method_31_code 137 = .ok (.iconst (-1), 1) := by decide +kernel
theorem dR_restore_138 : decode prog_9_method_31_code 138 = .ok (.iastore, 1) := by decide +kernel
theorem dR_restore_139 : decode prog_9_method_31_code 139 = .ok (.iinc 2 1, 3) := by decide +kernel
theorem dR_restore_142 : decode prog_9_method_31_code 142 = .ok (.goto (-69), 3) := by decide +kernel
theorem dR_restore_145 : decode prog_9_method_31_code 145 = .ok (.aload_n 0, 1) := by decide +kernel
theorem dR_restore_146 : decode prog_9_method_31_code 146 = .ok (.iconst 0, 1) := by decide +kernel
theorem dR_restore_147 : decode prog_9_method_31_code 147 = .ok (.putfield 138, 3) := by decide +kernel
theorem dR_restore_150 : decode prog_9_method_31_code 150 = .ok (.iconst 0, 1) := by decide +kernel
theorem dR_restore_151 : decode prog_9_method_31_code 151 = .ok (.istore_n 2, 1) := by decide +kernel
theorem dR_restore_152 : decode prog_9_method_31_code 152 = .ok (.iconst 0, 1) := by decide +kernel
theorem dR_restore_153 : decode prog_9_method_31_code 153 = .ok (.istore_n 3, 1) := by decide +kernel
theorem dR_restore_154 : decode prog_9_method_31_code 154 = .ok (.iload_n 3, 1) := by decide +kernel
theorem dR_restore_155 : decode prog_9_method_31_code 155 = .ok (.aload_n 0, 1) := by decide +kernel
theorem dR_restore_156 : decode prog_9_method_31_code 156 = .ok (.getfield 103, 3) := by decide +kernel
theorem dR_restore_159 : decode prog_9_method_31_code 159 = .ok (.if_icmp .ge 114, 3) := by decide +kernel
theorem dR_restore_162 : decode prog_9_method_31_code 162 = .ok (.aload_n 0, 1) := by decide +kernel
theorem dR_restore_163 : decode prog_9_method_31_code 163 = .ok (.getfield 36, 3) := by decide +kernel
theorem dR_restore_166 : decode prog_9_method_31_code 166 = .ok (.iload_n 3, 1) := by decide +kernel
theorem dR_restore_167 : decode prog_9_method_31_code 167 = .ok (.iconst 0, 1) := by decide +kernel
theorem dR_restore_168 : decode prog_9_method_31_code 168 = .ok (.iastore, 1) := by decide +kernel
theorem dR_restore_169 : decode prog_9_method_31_code 169 = .ok (.aload_n 0, 1) := by decide +kernel
theorem dR_restore_170 : decode prog_9_method_31_code 170 = .ok (.getfield 54, 3) := by decide +kernel
theorem dR_restore_173 : decode prog_9_method_31_code 173 = .ok (.iload_n 3, 1) := by decide +kernel
theorem dR_restore_174 : decode prog_9_method_31_code 174 = .ok (.iconst (-1), 1) := by decide +kernel
theorem dR_restore_175 : decode prog_9_method_31_code 175 = .ok (.iastore, 1) := by decide +kernel
theorem dR_restore_176 : decode prog_9_method_31_code 176 = .ok (.aload_n 0, 1) := by decide +kernel
theorem dR_restore_177 : decode prog_9_method_31_code 177 = .ok (.getfield 51, 3) := by decide +kernel
theorem dR_restore_180 : decode prog_9_method_31_code 180 = .ok (.iload_n 3, 1) := by decide +kernel
theorem dR_restore_181 : decode prog_9_method_31_code 181 = .ok (.aload_n 0, 1) := by decide +kernel
theorem dR_restore_182 : decode prog_9_method_31_code 182 = .ok (.getfield 17, 3) := by decide +kernel
theorem dR_restore_185 : decode prog_9_method_31_code 185 = .ok (.aload_n 0, 1) := by decide +kernel
theorem dR_restore_186 : decode prog_9_method_31_code 186 = .ok (.getfield 27, 3) := by decide +kernel
theorem dR_restore_189 : decode prog_9_method_31_code 189 = .ok (.iload_n 3, 1) := by decide +kernel
theorem dR_restore_190 : decode prog_9_method_31_code 190 = .ok (.iaload, 1) := by decide +kernel
theorem dR_restore_191 : decode prog_9_method_31_code 191 = .ok (.baload, 1) := by decide +kernel
theorem dR_restore_192 : decode prog_9_method_31_code 192 = .ok (.ifCond .ne 25, 3) := by decide +kernel
theorem dR_restore_195 : decode prog_9_method_31_code 195 = .ok (.aload_n 0, 1) := by decide +kernel
theorem dR_restore_196 : decode prog_9_method_31_code 196 = .ok (.iload_n 3, 1) := by decide +kernel
theorem dR_restore_197 : decode prog_9_method_31_code 197 = .ok (.invokevirtual 127, 3) := by decide +kernel
theorem dR_restore_200 : decode prog_9_method_31_code 200 = .ok (.ifCond .ne 21, 3) := by decide +kernel
theorem dR_restore_203 : decode prog_9_method_31_code 203 = .ok (.aload_n 0, 1) := by decide +kernel
theorem dR_restore_204 : decode prog_9_method_31_code 204 = .ok (.getfield 17, 3) := by decide +kernel
theorem dR_restore_207 : decode prog_9_method_31_code 207 = .ok (.aload_n 0, 1) := by decide +kernel
theorem dR_restore_208 : decode prog_9_method_31_code 208 = .ok (.getfield 24, 3) := by decide +kernel
theorem dR_restore_211 : decode prog_9_method_31_code 211 = .ok (.iload_n 3, 1) := by decide +kernel
theorem dR_restore_212 : decode prog_9_method_31_code 212 = .ok (.iaload, 1) := by decide +kernel
theorem dR_restore_213 : decode prog_9_method_31_code 213 = .ok (.baload, 1) := by decide +kernel
theorem dR_restore_214 : decode prog_9_method_31_code 214 = .ok (.ifCond .eq 7, 3) := by decide +kernel
theorem dR_restore_217 : decode prog_9_method_31_code 217 = .ok (.iconst 1, 1) := by decide +kernel
theorem dR_restore_218 : decode prog_9_method_31_code 218 = .ok (.goto 4, 3) := by decide +kernel
theorem dR_restore_221 : decode prog_9_method_31_code 221 = .ok (.iconst 0, 1) := by decide +kernel
theorem dR_restore_222 : decode prog_9_method_31_code 222 = .ok (.bastore, 1) := by decide +kernel
theorem dR_restore_223 : decode prog_9_method_31_code 223 = .ok (.aload_n 0, 1) := by decide +kernel
theorem dR_restore_224 : decode prog_9_method_31_code 224 = .ok (.iload_n 3, 1) := by decide +kernel
theorem dR_restore_225 : decode prog_9_method_31_code 225 = .ok (.invokevirtual 127, 3) := by decide +kernel
theorem dR_restore_228 : decode prog_9_method_31_code 228 = .ok (.ifCond .ne 6, 3) := by decide +kernel
theorem dR_restore_231 : decode prog_9_method_31_code 231 = .ok (.goto 36, 3) := by decide +kernel
theorem dR_restore_234 : decode prog_9_method_31_code 234 = .ok (.aload_n 0, 1) := by decide +kernel
theorem dR_restore_235 : decode prog_9_method_31_code 235 = .ok (.getfield 48, 3) := by decide +kernel
theorem dR_restore_238 : decode prog_9_method_31_code 238 = .ok (.iload_n 3, 1) := by decide +kernel
theorem dR_restore_239 : decode prog_9_method_31_code 239 = .ok (.aload_n 0, 1) := by decide +kernel
theorem dR_restore_240 : decode prog_9_method_31_code 240 = .ok (.getfield 60, 3) := by decide +kernel
theorem dR_restore_243 : decode prog_9_method_31_code 243 = .ok (.bipush 16, 2) := by decide +kernel
theorem dR_restore_245 : decode prog_9_method_31_code 245 = .ok (.iload_n 1, 1) := by decide +kernel
theorem dR_restore_246 : decode prog_9_method_31_code 246 = .ok (.imul, 1) := by decide +kernel
theorem dR_restore_247 : decode prog_9_method_31_code 247 = .ok (.iload_n 3, 1) := by decide +kernel
theorem dR_restore_248 : decode prog_9_method_31_code 248 = .ok (.iadd, 1) := by decide +kernel
theorem dR_restore_249 : decode prog_9_method_31_code 249 = .ok (.iaload, 1) := by decide +kernel
theorem dR_restore_250 : decode prog_9_method_31_code 250 = .ok (.iastore, 1) := by decide +kernel
theorem dR_restore_251 : decode prog_9_method_31_code 251 = .ok (.iload_n 2, 1) := by decide +kernel
theorem dR_restore_252 : decode prog_9_method_31_code 252 = .ok (.aload_n 0, 1) := by decide +kernel
theorem dR_restore_253 : decode prog_9_method_31_code 253 = .ok (.getfield 42, 3) := by decide +kernel
theorem dR_restore_256 : decode prog_9_method_31_code 256 = .ok (.iload_n 3, 1) := by decide +kernel
theorem dR_restore_257 : decode prog_9_method_31_code 257 = .ok (.iaload, 1) := by decide +kernel
theorem dR_restore_258 : decode prog_9_method_31_code 258 = .ok (.aload_n 0, 1) := by decide +kernel
theorem dR_restore_259 : decode prog_9_method_31_code 259 = .ok (.getfield 48, 3) := by decide +kernel
theorem dR_restore_262 : decode prog_9_method_31_code 262 = .ok (.iload_n 3, 1) := by decide +kernel
theorem dR_restore_263 : decode prog_9_method_31_code 263 = .ok (.iaload, 1) := by decide +kernel
theorem dR_restore_264 : decode prog_9_method_31_code 264 = .ok (.isub, 1) := by decide +kernel
theorem dR_restore_265 : decode prog_9_method_31_code 265 = .ok (.iadd, 1) := by decide +kernel
theorem dR_restore_266 : decode prog_9_method_31_code 266 = .ok (.istore_n 2, 1) := by decide +kernel
theorem dR_restore_267 : decode prog_9_method_31_code 267 = .ok (.iinc 3 1, 3) := by decide +kernel
theorem dR_restore_270 : decode prog_9_method_31_code 270 = .ok (.goto (-116), 3) := by decide +kernel
theorem dR_restore_273 : decode prog_9_method_31_code 273 = .ok (.iload_n 2, 1) := by decide +kernel
theorem dR_restore_274 : decode prog_9_method_31_code 274 = .ok (.ireturn, 1) := by decide +kernel
theorem dR_state_0 : decode prog_9_method_32_code 0 = .ok (.aload_n 0, 1) := by decide +kernel
theorem dR_state_1 : decode prog_9_method_32_code 1 = .ok (.aload_n 0, 1) := by decide +kernel
theorem dR_state_2 : decode prog_9_method_32_code 2 = .ok (.iload_n 1, 1) := by decide +kernel
theorem dR_state_3 : decode prog_9_method_32_code 3 = .ok (.invokevirtual 109, 3) := by decide +kernel
theorem dR_state_6 : decode prog_9_method_32_code 6 = .ok (.ifCond .eq 7, 3) := by decide +kernel
theorem dR_state_9 : decode prog_9_method_32_code 9 = .ok (.iconst 0, 1) := by decide +kernel
theorem dR_state_10 : decode prog_9_method_32_code 10 = .ok (.goto 4, 3) := by decide +kernel
theorem dR_state_13 : decode prog_9_method_32_code 13 = .ok (.iconst 1, 1) := by decide +kernel
theorem dR_state_14 : decode prog_9_method_32_code 14 = .ok (.putfield 100, 3) := by decide +kernel
theorem dR_state_17 : decode prog_9_method_32_code 17 = .ok (.aload_n 0, 1) := by decide +kernel
theorem dR_state_18 : decode prog_9_method_32_code 18 = .ok (.getfield 100, 3) := by decide +kernel
theorem dR_state_21 : decode prog_9_method_32_code 21 = .ok (.ifCond .le 7, 3) := by decide +kernel
theorem dR_state_24 : decode prog_9_method_32_code 24 = .ok (.lconst 0, 1) := by decide +kernel
theorem dR_state_25 : decode prog_9_method_32_code 25 = .ok (.goto 9, 3) := by decide +kernel
theorem dR_state_28 : decode prog_9_method_32_code 28 = .ok (.aload_n 0, 1) := by decide +kernel
theorem dR_state_29 : decode prog_9_method_32_code 29 = .ok (.getfield 7, 3) := by decide +kernel
theorem dR_state_32 : decode prog_9_method_32_code 32 = .ok (.iload_n 1, 1) := by decide +kernel
theorem dR_state_33 : decode prog_9_method_32_code 33 = .ok (.laload, 1) := by decide +kernel
theorem dR_state_34 : decode prog_9_method_32_code 34 = .ok (.lreturn, 1) := by decide +kernel
theorem dR_task_0 : decode prog_9_method_33_code 0 = .ok (.aload_n 0, 1) := by decide +kernel
theorem dR_task_1 : decode prog_9_method_33_code 1 = .ok (.aload_n 0, 1) := by decide +kernel
theorem dR_task_2 : decode prog_9_method_33_code 2 = .ok (.iload_n 1, 1) := by decide +kernel
theorem dR_task_3 : decode prog_9_method_33_code 3 = .ok (.invokevirtual 109, 3) := by decide +kernel
theorem dR_task_6 : decode prog_9_method_33_code 6 = .ok (.ifCond .ne 7, 3) := by decide +kernel
theorem dR_task_9 : decode prog_9_method_33_code 9 = .ok (.iconst 1, 1) := by decide +kernel
theorem dR_task_10 : decode prog_9_method_33_code 10 = .ok (.goto 17, 3) := by decide +kernel
theorem dR_task_13 : decode prog_9_method_33_code 13 = .ok (.iload_n 2, 1) := by decide +kernel
theorem dR_task_14 : decode prog_9_method_33_code 14 = .ok (.ifCond .lt 8, 3) := by decide +kernel
theorem dR_task_17 : decode prog_9_method_33_code 17 = .ok (.iload_n 2, 1) := by decide +kernel
theorem dR_task_18 : decode prog_9_method_33_code 18 = .ok (.iconst 1, 1) := by decide +kernel
theorem dR_task_19 : decode prog_9_method_33_code 19 = .ok (.if_icmp .le 7, 3) := by decide +kernel
theorem dR_task_22 : decode prog_9_method_33_code 22 = .ok (.iconst 2, 1) := by decide +kernel
theorem dR_task_23 : decode prog_9_method_33_code 23 = .ok (.goto 4, 3) := by decide +kernel
theorem dR_task_26 : decode prog_9_method_33_code 26 = .ok (.iconst 0, 1) := by decide +kernel
theorem dR_task_27 : decode prog_9_method_33_code 27 = .ok (.putfield 100, 3) := by decide +kernel
theorem dR_task_30 : decode prog_9_method_33_code 30 = .ok (.aload_n 0, 1) := by decide +kernel
theorem dR_task_31 : decode prog_9_method_33_code 31 = .ok (.getfield 100, 3) := by decide +kernel
theorem dR_task_34 : decode prog_9_method_33_code 34 = .ok (.ifCond .le 7, 3) := by decide +kernel
theorem dR_task_37 : decode prog_9_method_33_code 37 = .ok (.iconst 0, 1) := by decide +kernel
theorem dR_task_38 : decode prog_9_method_33_code 38 = .ok (.goto 30, 3) := by decide +kernel
theorem dR_task_41 : decode prog_9_method_33_code 41 = .ok (.iload_n 2, 1) := by decide +kernel
theorem dR_task_42 : decode prog_9_method_33_code 42 = .ok (.ifCond .ne 12, 3) := by decide +kernel
theorem dR_task_45 : decode prog_9_method_33_code 45 = .ok (.aload_n 0, 1) := by decide +kernel
theorem dR_task_46 : decode prog_9_method_33_code 46 = .ok (.getfield 13, 3) := by decide +kernel
theorem dR_task_49 : decode prog_9_method_33_code 49 = .ok (.iload_n 1, 1) := by decide +kernel
theorem dR_task_50 : decode prog_9_method_33_code 50 = .ok (.iaload, 1) := by decide +kernel
theorem dR_task_51 : decode prog_9_method_33_code 51 = .ok (.goto 17, 3) := by decide +kernel
theorem dR_task_54 : decode prog_9_method_33_code 54 = .ok (.aload_n 0, 1) := by decide +kernel
theorem dR_task_55 : decode prog_9_method_33_code 55 = .ok (.getfield 17, 3) := by decide +kernel
theorem dR_task_58 : decode prog_9_method_33_code 58 = .ok (.iload_n 1, 1) := by decide +kernel
theorem dR_task_59 : decode prog_9_method_33_code 59 = .ok (.baload, 1) := by decide +kernel
theorem dR_task_60 : decode prog_9_method_33_code 60 = .ok (.ifCond .eq 7, 3) := by decide +kernel
theorem dR_task_63 : decode prog_9_method_33_code 63 = .ok (.iconst 1, 1) := by decide +kernel
theorem dR_task_64 : decode prog_9_method_33_code 64 = .ok (.goto 4, 3) := by decide +kernel
theorem dR_task_67 : decode prog_9_method_33_code 67 = .ok (.iconst 0, 1) := by decide +kernel
theorem dR_task_68 : decode prog_9_method_33_code 68 = .ok (.ireturn, 1) := by decide +kernel
theorem dR_kept_0 : decode prog_9_method_34_code 0 = .ok (.aload_n 0, 1) := by decide +kernel
theorem dR_kept_1 : decode prog_9_method_34_code 1 = .ok (.aload_n 0, 1) := by decide +kernel
theorem dR_kept_2 : decode prog_9_method_34_code 2 = .ok (.iload_n 1, 1) := by decide +kernel
theorem dR_kept_3 : decode prog_9_method_34_code 3 = .ok (.invokevirtual 182, 3) := by decide +kernel
theorem dR_kept_6 : decode prog_9_method_34_code 6 = .ok (.ifCond .eq 11, 3) := by decide +kernel
theorem dR_kept_9 : decode prog_9_method_34_code 9 = .ok (.aload_n 0, 1) := by decide +kernel
theorem dR_kept_10 : decode prog_9_method_34_code 10 = .ok (.iload_n 2, 1) := by decide +kernel
theorem dR_kept_11 : decode prog_9_method_34_code 11 = .ok (.invokevirtual 109, 3) := by decide +kernel
theorem dR_kept_14 : decode prog_9_method_34_code 14 = .ok (.ifCond .ne 7, 3) := by decide +kernel
theorem dR_kept_17 : decode prog_9_method_34_code 17 = .ok (.iconst 1, 1) := by decide +kernel
theorem dR_kept_18 : decode prog_9_method_34_code 18 = .ok (.goto 22, 3) := by decide +kernel
theorem dR_kept_21 : decode prog_9_method_34_code 21 = .ok (.aload_n 0, 1) := by decide +kernel
theorem dR_kept_22 : decode prog_9_method_34_code 22 = .ok (.getfield 66, 3) := by decide +kernel
theorem dR_kept_25 : decode prog_9_method_34_code 25 = .ok (.bipush 8, 2) := by decide +kernel
theorem dR_kept_27 : decode prog_9_method_34_code 27 = .ok (.iload_n 1, 1) := by decide +kernel
theorem dR_kept_28 : decode prog_9_method_34_code 28 = .ok (.imul, 1) := by decide +kernel
theorem dR_kept_29 : decode prog_9_method_34_code 29 = .ok (.iload_n 2, 1) := by decide +kernel
theorem dR_kept_30 : decode prog_9_method_34_code 30 = .ok (.iadd, 1) := by decide +kernel
theorem dR_kept_31 : decode prog_9_method_34_code 31 = .ok (.baload, 1) := by decide +kernel
theorem dR_kept_32 : decode prog_9_method_34_code 32 = .ok (.ifCond .ne 7, 3) := by decide +kernel
theorem dR_kept_35 : decode prog_9_method_34_code 35 = .ok (.iconst 2, 1) := by decide +kernel
theorem dR_kept_36 : decode prog_9_method_34_code 36 = .ok (.goto 4, 3) := by decide +kernel
theorem dR_kept_39 : decode prog_9_method_34_code 39 = .ok (.iconst 0, 1) := by decide +kernel
theorem dR_kept_40 : decode prog_9_method_34_code 40 = .ok (.putfield 100, 3) := by decide +kernel
theorem dR_kept_43 : decode prog_9_method_34_code 43 = .ok (.aload_n 0, 1) := by decide +kernel
theorem dR_kept_44 : decode prog_9_method_34_code 44 = .ok (.getfield 100, 3) := by decide +kernel
theorem dR_kept_47 : decode prog_9_method_34_code 47 = .ok (.ifCond .le 7, 3) := by decide +kernel
theorem dR_kept_50 : decode prog_9_method_34_code 50 = .ok (.lconst 0, 1) := by decide +kernel
theorem dR_kept_51 : decode prog_9_method_34_code 51 = .ok (.goto 14, 3) := by decide +kernel
theorem dR_kept_54 : decode prog_9_method_34_code 54 = .ok (.aload_n 0, 1) := by decide +kernel
theorem dR_kept_55 : decode prog_9_method_34_code 55 = .ok (.getfield 72, 3) := by decide +kernel
theorem dR_kept_58 : decode prog_9_method_34_code 58 = .ok (.bipush 8, 2) := by decide +kernel
theorem dR_kept_60 : decode prog_9_method_34_code 60 = .ok (.iload_n 1, 1) := by decide +kernel
theorem dR_kept_61 : decode prog_9_method_34_code 61 = .ok (.imul, 1) := by decide +kernel
theorem dR_kept_62 : decode prog_9_method_34_code 62 = .ok (.iload_n 2, 1) := by decide +kernel
theorem dR_kept_63 : decode prog_9_method_34_code 63 = .ok (.iadd, 1) := by decide +kernel
theorem dR_kept_64 : decode prog_9_method_34_code 64 = .ok (.laload, 1) := by decide +kernel
theorem dR_kept_65 : decode prog_9_method_34_code 65 = .ok (.lreturn, 1) := by decide +kernel
theorem dR_keptRows_0 : decode prog_9_method_35_code 0 = .ok (.aload_n 0, 1) := by decide +kernel
theorem dR_keptRows_1 : decode prog_9_method_35_code 1 = .ok (.aload_n 0, 1) := by decide +kernel
theorem dR_keptRows_2 : decode prog_9_method_35_code 2 = .ok (.iload_n 1, 1) := by decide +kernel
theorem dR_keptRows_3 : decode prog_9_method_35_code 3 = .ok (.invokevirtual 182, 3) := by decide +kernel
theorem dR_keptRows_6 : decode prog_9_method_35_code 6 = .ok (.ifCond .eq 11, 3) := by decide +kernel
theorem dR_keptRows_9 : decode prog_9_method_35_code 9 = .ok (.aload_n 0, 1) := by decide +kernel
theorem dR_keptRows_10 : decode prog_9_method_35_code 10 = .ok (.iload_n 2, 1) := by decide +kernel
theorem dR_keptRows_11 : decode prog_9_method_35_code 11 = .ok (.invokevirtual 109, 3) := by decide +kernel
theorem dR_keptRows_14 : decode prog_9_method_35_code 14 = .ok (.ifCond .ne 7, 3) := by decide +kernel
theorem dR_keptRows_17 : decode prog_9_method_35_code 17 = .ok (.iconst 1, 1) := by decide +kernel
theorem dR_keptRows_18 : decode prog_9_method_35_code 18 = .ok (.goto 22, 3) := by decide +kernel
theorem dR_keptRows_21 : decode prog_9_method_35_code 21 = .ok (.aload_n 0, 1) := by decide +kernel
theorem dR_keptRows_22 : decode prog_9_method_35_code 22 = .ok (.getfield 66, 3) := by decide +kernel
theorem dR_keptRows_25 : decode prog_9_method_35_code 25 = .ok (.bipush 8, 2) := by decide +kernel
theorem dR_keptRows_27 : decode prog_9_method_35_code 27 = .ok (.iload_n 1, 1) := by decide +kernel
theorem dR_keptRows_28 : decode prog_9_method_35_code 28 = .ok (.imul, 1) := by decide +kernel
theorem dR_keptRows_29 : decode prog_9_method_35_code 29 = .ok (.iload_n 2, 1) := by decide +kernel
theorem dR_keptRows_30 : decode prog_9_method_35_code 30 = .ok (.iadd, 1) := by decide +kernel
theorem dR_keptRows_31 : decode prog_9_method_35_code 31 = .ok (.baload, 1) := by decide +kernel
theorem dR_keptRows_32 : decode prog_9_method_35_code 32 = .ok (.ifCond .ne 7, 3) := by decide +kernel
theorem dR_keptRows_35 : decode prog_9_method_35_code 35 = .ok (.iconst 2, 1) := by decide +kernel
theorem dR_keptRows_36 : decode prog_9_method_35_code 36 = .ok (.goto 4, 3) := by decide +kernel
theorem dR_keptRows_39 : decode prog_9_method_35_code 39 = .ok (.iconst 0, 1) := by decide +kernel
theorem dR_keptRows_40 : decode prog_9_method_35_code 40 = .ok (.putfield 100, 3) := by decide +kernel
theorem dR_keptRows_43 : decode prog_9_method_35_code 43 = .ok (.aload_n 0, 1) := by decide +kernel
theorem dR_keptRows_44 : decode prog_9_method_35_code 44 = .ok (.getfield 100, 3) := by decide +kernel
theorem dR_keptRows_47 : decode prog_9_method_35_code 47 = .ok (.ifCond .le 7, 3) := by decide +kernel
theorem dR_keptRows_50 : decode prog_9_method_35_code 50 = .ok (.iconst 0, 1) := by decide +kernel
theorem dR_keptRows_51 : decode prog_9_method_35_code 51 = .ok (.goto 14, 3) := by decide +kernel
theorem dR_keptRows_54 : decode prog_9_method_35_code 54 = .ok (.aload_n 0, 1) := by decide +kernel
theorem dR_keptRows_55 : decode prog_9_method_35_code 55 = .ok (.getfield 75, 3) := by decide +kernel
theorem dR_keptRows_58 : decode prog_9_method_35_code 58 = .ok (.bipush 8, 2) := by decide +kernel
theorem dR_keptRows_60 : decode prog_9_method_35_code 60 = .ok (.iload_n 1, 1) := by decide +kernel
theorem dR_keptRows_61 : decode prog_9_method_35_code 61 = .ok (.imul, 1) := by decide +kernel
theorem dR_keptRows_62 : decode prog_9_method_35_code 62 = .ok (.iload_n 2, 1) := by decide +kernel
theorem dR_keptRows_63 : decode prog_9_method_35_code 63 = .ok (.iadd, 1) := by decide +kernel
theorem dR_keptRows_64 : decode prog_9_method_35_code 64 = .ok (.iaload, 1) := by decide +kernel
theorem dR_keptRows_65 : decode prog_9_method_35_code 65 = .ok (.ireturn, 1) := by decide +kernel
theorem dR_position_0 : decode prog_9_method_36_code 0 = .ok (.aload_n 0, 1) := by decide +kernel
theorem dR_position_1 : decode prog_9_method_36_code 1 = .ok (.aload_n 0, 1) := by decide +kernel
theorem dR_position_2 : decode prog_9_method_36_code 2 = .ok (.iload_n 1, 1) := by decide +kernel
theorem dR_position_3 : decode prog_9_method_36_code 3 = .ok (.invokevirtual 182, 3) := by decide +kernel
theorem dR_position_6 : decode prog_9_method_36_code 6 = .ok (.ifCond .eq 19, 3) := by decide +kernel
theorem dR_position_9 : decode prog_9_method_36_code 9 = .ok (.aload_n 0, 1) := by decide +kernel
theorem dR_position_10 : decode prog_9_method_36_code 10 = .ok (.iload_n 2, 1) := by decide +kernel
theorem dR_position_11 : decode prog_9_method_36_code 11 = .ok (.invokevirtual 124, 3) := by decide +kernel
theorem dR_position_14 : decode prog_9_method_36_code 14 = .ok (.ifCond .eq 11, 3) := by decide +kernel
theorem dR_position_17 : decode prog_9_method_36_code 17 = .ok (.aload_n 0, 1) := by decide +kernel
theorem dR_position_18 : decode prog_9_method_36_code 18 = .ok (.iload_n 2, 1) := by decide +kernel
theorem dR_position_19 : decode prog_9_method_36_code 19 = .ok (.invokevirtual 127, 3) := by decide +kernel
theorem dR_position_22 : decode prog_9_method_36_code 22 = .ok (.ifCond .ne 7, 3) := by decide +kernel
theorem dR_position_25 : decode prog_9_method_36_code 25 = .ok (.iconst 1, 1) := by decide +kernel
theorem dR_position_26 : decode prog_9_method_36_code 26 = .ok (.goto 4, 3) := by decide +kernel
theorem dR_position_29 : decode prog_9_method_36_code 29 = .ok (.iconst 0, 1) := by decide +kernel
theorem dR_position_30 : decode prog_9_method_36_code 30 = .ok (.putfield 100, 3) := by decide +kernel
theorem dR_position_33 : decode prog_9_method_36_code 33 = .ok (.aload_n 0, 1) := by decide +kernel
theorem dR_position_34 : decode prog_9_method_36_code 34 = .ok (.getfield 100, 3) := by decide +kernel
theorem dR_position_37 : decode prog_9_method_36_code 37 = .ok (.ifCond .le 7, 3) := by decide +kernel
theorem dR_position_40 : decode prog_9_method_36_code 40 = .ok (.iconst 0, 1) := by decide +kernel
theorem dR_position_41 : decode prog_9_method_36_code 41 = .ok (.goto 14, 3) := by decide +kernel
theorem dR_position_44 : decode prog_9_method_36_code 44 = .ok (.aload_n 0, 1) := by decide +kernel
theorem dR_position_45 : decode prog_9_method_36_code 45 = .ok (.getfield 60, 3) := by decide +kernel
theorem dR_position_48 : decode prog_9_method_36_code 48 = .ok (.bipush 16, 2) := by decide +kernel
theorem dR_position_50 : decode prog_9_method_36_code 50 = .ok (.iload_n 1, 1) := by decide +kernel
theorem dR_position_51 : decode prog_9_method_36_code 51 = .ok (.imul, 1) := by decide +kernel
theorem dR_position_52 : decode prog_9_method_36_code 52 = .ok (.iload_n 2, 1) := by decide +kernel
theorem dR_position_53 : decode prog_9_method_36_code 53 = .ok (.iadd, 1) := by decide +kernel
theorem dR_position_54 : decode prog_9_method_36_code 54 = .ok (.iaload, 1) := by decide +kernel
theorem dR_position_55 : decode prog_9_method_36_code 55 = .ok (.ireturn, 1) := by decide +kernel
theorem dR_condition_0 : decode prog_9_method_37_code 0 = .ok (.aload_n 0, 1) := by decide +kernel
theorem dR_condition_1 : decode prog_9_method_37_code 1 = .ok (.aload_n 0, 1) := by decide +kernel
theorem dR_condition_2 : decode prog_9_method_37_code 2 = .ok (.iload_n 1, 1) := by decide +kernel
theorem dR_condition_3 : decode prog_9_method_37_code 3 = .ok (.invokevirtual 182, 3) := by decide +kernel
theorem dR_condition_6 : decode prog_9_method_37_code 6 = .ok (.ifCond .eq 7, 3) := by decide +kernel
theorem dR_condition_9 : decode prog_9_method_37_code 9 = .ok (.iconst 0, 1) := by decide +kernel
theorem dR_condition_10 : decode prog_9_method_37_code 10 = .ok (.goto 4, 3) := by decide +kernel
theorem dR_condition_13 : decode prog_9_method_37_code 13 = .ok (.iconst 1, 1) := by decide +kernel
theorem dR_condition_14 : decode prog_9_method_37_code 14 = .ok (.putfield 100, 3) := by decide +kernel
theorem dR_condition_17 : decode prog_9_method_37_code 17 = .ok (.aload_n 0, 1) := by decide +kernel
theorem dR_condition_18 : decode prog_9_method_37_code 18 = .ok (.getfield 100, 3) := by decide +kernel
theorem dR_condition_21 : decode prog_9_method_37_code 21 = .ok (.ifCond .le 7, 3) := by decide +kernel
theorem dR_condition_24 : decode prog_9_method_37_code 24 = .ok (.iconst 0, 1) := by decide +kernel
theorem dR_condition_25 : decode prog_9_method_37_code 25 = .ok (.goto 9, 3) := by decide +kernel
theorem dR_condition_28 : decode prog_9_method_37_code 28 = .ok (.aload_n 0, 1) := by decide +kernel
theorem dR_condition_29 : decode prog_9_method_37_code 29 = .ok (.getfield 57, 3) := by decide +kernel
theorem dR_condition_32 : decode prog_9_method_37_code 32 = .ok (.iload_n 1, 1) := by decide +kernel
theorem dR_condition_33 : decode prog_9_method_37_code 33 = .ok (.iaload, 1) := by decide +kernel
theorem dR_condition_34 : decode prog_9_method_37_code 34 = .ok (.ireturn, 1) := by decide +kernel
theorem dR_acknowledged_0 : decode prog_9_method_38_code 0 = .ok (.aload_n 0, 1) := by decide +kernel
theorem dR_acknowledged_1 : decode prog_9_method_38_code 1 = .ok (.aload_n 0, 1) := by decide +kernel
theorem dR_acknowledged_2 : decode prog_9_method_38_code 2 = .ok (.iload_n 1, 1) := by decide +kernel
theorem dR_acknowledged_3 : decode prog_9_method_38_code 3 = .ok (.invokevirtual 182, 3) := by decide +kernel
theorem dR_acknowledged_6 : decode prog_9_method_38_code 6 = .ok (.ifCond .eq 7, 3) := by decide +kernel
theorem dR_acknowledged_9 : decode prog_9_method_38_code 9 = .ok (.iconst 0, 1) := by decide +kernel
theorem dR_acknowledged_10 : decode prog_9_method_38_code 10 = .ok (.goto 4, 3) := by decide +kernel
theorem dR_acknowledged_13 : decode prog_9_method_38_code 13 = .ok (.iconst 1, 1) := by decide +kernel
theorem dR_acknowledged_14 : decode prog_9_method_38_code 14 = .ok (.putfield 100, 3) := by decide +kernel
theorem dR_acknowledged_17 : decode prog_9_method_38_code 17 = .ok (.aload_n 0, 1) := by decide +kernel
theorem dR_acknowledged_18 : decode prog_9_method_38_code 18 = .ok (.getfield 100, 3) := by decide +kernel
theorem dR_acknowledged_21 : decode prog_9_method_38_code 21 = .ok (.ifCond .le 7, 3) := by decide +kernel
theorem dR_acknowledged_24 : decode prog_9_method_38_code 24 = .ok (.iconst 0, 1) := by decide +kernel
theorem dR_acknowledged_25 : decode prog_9_method_38_code 25 = .ok (.goto 8, 3) := by decide +kernel
theorem dR_acknowledged_28 : decode prog_9_method_38_code 28 = .ok (.aload_n 0, 1) := by decide +kernel
theorem dR_acknowledged_29 : decode prog_9_method_38_code 29 = .ok (.iload_n 1, 1) := by decide +kernel
theorem dR_acknowledged_30 : decode prog_9_method_38_code 30 = .ok (.invokevirtual 156, 3) := by decide +kernel
theorem dR_acknowledged_33 : decode prog_9_method_38_code 33 = .ok (.ireturn, 1) := by decide +kernel
theorem dR_carried_0 : decode prog_9_method_40_code 0 = .ok (.lconst 0, 1) := by decide +kernel
theorem dR_carried_1 : decode prog_9_method_40_code 1 = .ok (.lstore_n 3, 1) := by decide +kernel
theorem dR_carried_2 : decode prog_9_method_40_code 2 = .ok (.lconst 0, 1) := by decide +kernel
theorem dR_carried_3 : decode prog_9_method_40_code 3 = .ok (.lstore 5, 2) := by decide +kernel
theorem dR_carried_5 : decode prog_9_method_40_code 5 = .ok (.iconst 0, 1) := by decide +kernel
theorem dR_carried_6 : decode prog_9_method_40_code 6 = .ok (.istore 7, 2) := by decide +kernel
theorem dR_carried_8 : decode prog_9_method_40_code 8 = .ok (.iload 7, 2) := by decide +kernel
theorem dR_carried_10 : decode prog_9_method_40_code 10 = .ok (.aload_n 0, 1) := by decide +kernel
theorem dR_carried_11 : decode prog_9_method_40_code 11 = .ok (.getfield 103, 3) := by decide +kernel
theorem dR_carried_14 : decode prog_9_method_40_code 14 = .ok (.if_icmp .ge 154, 3) := by decide +kernel
theorem dR_carried_17 : decode prog_9_method_40_code 17 = .ok (.aload_n 0, 1) := by decide +kernel
theorem dR_carried_18 : decode prog_9_method_40_code 18 = .ok (.getfield 27, 3) := by decide +kernel
theorem dR_carried_21 : decode prog_9_method_40_code 21 = .ok (.iload 7, 2) := by decide +kernel
theorem dR_carried_23 : decode prog_9_method_40_code 23 = .ok (.iaload, 1) := by decide +kernel
theorem dR_carried_24 : decode prog_9_method_40_code 24 = .ok (.iload_n 2, 1) := by decide +kernel
theorem dR_carried_25 : decode prog_9_method_40_code 25 = .ok (.if_icmp .eq 6, 3) := by decide +kernel
theorem dR_carried_28 : decode prog_9_method_40_code 28 = .ok (.goto 134, 3) := by decide +kernel
theorem dR_carried_31 : decode prog_9_method_40_code 31 = .ok (.aload_n 0, 1) := by decide +kernel
theorem dR_carried_32 : decode prog_9_method_40_code 32 = .ok (.iload 7, 2) := by decide +kernel
theorem dR_carried_34 : decode prog_9_method_40_code 34 = .ok (.invokevirtual 127, 3) := by decide +kernel
theorem dR_carried_37 : decode prog_9_method_40_code 37 = .ok (.ifCond .eq 67, 3) := by decide +kernel
theorem dR_carried_40 : decode prog_9_method_40_code 40 = .ok (.iconst 0, 1) := by decide +kernel
theorem dR_carried_41 : decode prog_9_method_40_code 41 = .ok (.istore 8, 2) := by decide +kernel
theorem dR_carried_43 : decode prog_9_method_40_code 43 = .ok (.iload 8, 2) := by decide +kernel
theorem dR_carried_45 : decode prog_9_method_40_code 45 = .ok (.aload_n 0, 1) := by decide +kernel
theorem dR_carried_46 : decode prog_9_method_40_code 46 = .ok (.getfield 60, 3) := by decide +kernel
theorem dR_carried_49 : decode prog_9_method_40_code 49 = .ok (.bipush 16, 2) := by decide +kernel
theorem dR_carried_51 : decode prog_9_method_40_code 51 = .ok (.iload_n 1, 1) := by decide +kernel
theorem dR_carried_52 : decode prog_9_method_40_code 52 = .ok (.imul, 1) := by decide +kernel
theorem dR_carried_53 : decode prog_9_method_40_code 53 = .ok (.iload 7, 2) := by decide +kernel
theorem dR_carried_55 : decode prog_9_method_40_code 55 = .ok (.iadd, 1) := by decide +kernel
theorem dR_carried_56 : decode prog_9_method_40_code 56 = .ok (.iaload, 1) := by decide +kernel
theorem dR_carried_57 : decode prog_9_method_40_code 57 = .ok (.if_icmp .ge 26, 3) := by decide +kernel
theorem dR_carried_60 : decode prog_9_method_40_code 60 = .ok (.lload_n 3, 1) := by decide +kernel
theorem dR_carried_61 : decode prog_9_method_40_code 61 = .ok (.aload_n 0, 1) := by decide +kernel
theorem dR_carried_62 : decode prog_9_method_40_code 62 = .ok (.getfield 39, 3) := by decide +kernel
theorem dR_carried_65 : decode prog_9_method_40_code 65 = .ok (.sipush 200, 3) := by decide +kernel
theorem dR_carried_68 : decode prog_9_method_40_code 68 = .ok (.iload 7, 2) := by decide +kernel
theorem dR_carried_70 : decode prog_9_method_40_code 70 = .ok (.imul, 1) := by decide +kernel
theorem dR_carried_71 : decode prog_9_method_40_code 71 = .ok (.iload 8, 2) := by decide +kernel
theorem dR_carried_73 : decode prog_9_method_40_code 73 = .ok (.iadd, 1) := by decide +kernel
theorem dR_carried_74 : decode prog_9_method_40_code 74 = .ok (.laload, 1) := by decide +kernel
theorem dR_carried_75 : decode prog_9_method_40_code 75 = .ok (.ladd, 1) := by decide +kernel
theorem dR_carried_76 : decode prog_9_method_40_code 76 = .ok (.lstore_n 3, 1) := by decide +kernel
theorem dR_carried_77 : decode prog_9_method_40_code 77 = .ok (.iinc 8 1, 3) := by decide +kernel
theorem dR_carried_80 : decode prog_9_method_40_code 80 = .ok (.goto (-37), 3) := by decide +kernel
theorem dR_carried_83 : decode prog_9_method_40_code 83 = .ok (.lload 5, 2) := by decide +kernel
theorem dR_carried_85 : decode prog_9_method_40_code 85 = .ok (.aload_n 0, 1) := by decide +kernel
theorem dR_carried_86 : decode prog_9_method_40_code 86 = .ok (.getfield 60, 3) := by decide +kernel
theorem dR_carried_89 : decode prog_9_method_40_code 89 = .ok (.bipush 16, 2) := by decide +kernel
theorem dR_carried_91 : decode prog_9_method_40_code 91 = .ok (.iload_n 1, 1) := by decide +kernel
theorem dR_carried_92 : decode prog_9_method_40_code 92 = .ok (.imul, 1) := by decide +kernel
theorem dR_carried_93 : decode prog_9_method_40_code 93 = .ok (.iload 7, 2) := by decide +kernel
theorem dR_carried_95 : decode prog_9_method_40_code 95 = .ok (.iadd, 1) := by decide +kernel
theorem dR_carried_96 : decode prog_9_method_40_code 96 = .ok (.iaload, 1) := by decide +kernel
theorem dR_carried_97 : decode prog_9_method_40_code 97 = .ok (.i2l, 1) := by decide +kernel
theorem dR_carried_98 : decode prog_9_method_40_code 98 = .ok (.ladd, 1) := by decide +kernel
theorem dR_carried_99 : decode prog_9_method_40_code 99 = .ok (.lstore 5, 2) := by decide +kernel
theorem dR_carried_101 : decode prog_9_method_40_code 101 = .ok (.goto 61, 3) := by decide +kernel
theorem dR_carried_104 : decode prog_9_method_40_code 104 = .ok (.lload_n 3, 1) := by decide +kernel
theorem dR_carried_105 : decode prog_9_method_40_code 105 = .ok (.ldc2_w 176, 3) := by decide +kernel
theorem dR_carried_108 : decode prog_9_method_40_code 108 = .ok (.aload_n 0, 1) := by decide +kernel
theorem dR_carried_109 : decode prog_9_method_40_code 109 = .ok (.getfield 90, 3) := by decide +kernel
theorem dR_carried_112 : decode prog_9_method_40_code 112 = .ok (.aload_n 0, 1) := by decide +kernel
theorem dR_carried_113 : decode prog_9_method_40_code 113 = .ok (.getfield 24, 3) := by decide +kernel
theorem dR_carried_116 : decode prog_9_method_40_code 116 = .ok (.iload 7, 2) := by decide +kernel
theorem dR_carried_118 : decode prog_9_method_40_code 118 = .ok (.iaload, 1) := by decide +kernel
theorem dR_carried_119 : decode prog_9_method_40_code 119 = .ok (.laload, 1) := by decide +kernel
theorem dR_carried_120 : decode prog_9_method_40_code 120 = .ok (.lmul, 1) := by decide +kernel
theorem dR_carried_121 : decode prog_9_method_40_code 121 = .ok (.aload_n 0, 1) := by decide +kernel
theorem dR_carried_122 : decode prog_9_method_40_code 122 = .ok (.getfield 24, 3) := by decide +kernel
theorem dR_carried_125 : decode prog_9_method_40_code 125 = .ok (.iload 7, 2) := by decide +kernel
theorem dR_carried_127 : decode prog_9_method_40_code 127 = .ok (.iaload, 1) := by decide +kernel
theorem dR_carried_128 : decode prog_9_method_40_code 128 = .ok (.i2l, 1) := by decide +kernel
theorem dR_carried_129 : decode prog_9_method_40_code 129 = .ok (.aload_n 0, 1) := by decide +kernel
theorem dR_carried_130 : decode prog_9_method_40_code 130 = .ok (.getfield 93, 3) := by decide +kernel
theorem dR_carried_133 : decode prog_9_method_40_code 133 = .ok (.aload_n 0, 1) := by decide +kernel
theorem dR_carried_134 : decode prog_9_method_40_code 134 = .ok (.getfield 24, 3) := by decide +kernel
theorem dR_carried_137 : decode prog_9_method_40_code 137 = .ok (.iload 7, 2) := by decide +kernel
theorem dR_carried_139 : decode prog_9_method_40_code 139 = .ok (.iaload, 1) := by decide +kernel
theorem dR_carried_140 : decode prog_9_method_40_code 140 = .ok (.laload, 1) := by decide +kernel
theorem dR_carried_141 : decode prog_9_method_40_code 141 = .ok (.lmul, 1) := by decide +kernel
theorem dR_carried_142 : decode prog_9_method_40_code 142 = .ok (.ladd, 1) := by decide +kernel
theorem dR_carried_143 : decode prog_9_method_40_code 143 = .ok (.ladd, 1) := by decide +kernel
theorem dR_carried_144 : decode prog_9_method_40_code 144 = .ok (.lstore_n 3, 1) := by decide +kernel
theorem dR_carried_145 : decode prog_9_method_40_code 145 = .ok (.lload 5, 2) := by decide +kernel
theorem dR_carried_147 : decode prog_9_method_40_code 147 = .ok (.aload_n 0, 1) := by decide +kernel
theorem dR_carried_148 : decode prog_9_method_40_code 148 = .ok (.getfield 93, 3) := by decide +kernel
theorem dR_carried_151 : decode prog_9_method_40_code 151 = .ok (.aload_n 0, 1) := by decide +kernel
theorem dR_carried_152 : decode prog_9_method_40_code 152 = .ok (.getfield 24, 3) := by decide +kernel
theorem dR_carried_155 : decode prog_9_method_40_code 155 = .ok (.iload 7, 2) := by decide +kernel
theorem dR_carried_157 : decode prog_9_method_40_code 157 = .ok (.iaload, 1) := by decide +kernel
theorem dR_carried_158 : decode prog_9_method_40_code 158 = .ok (.laload, 1) := by decide +kernel
theorem dR_carried_159 : decode prog_9_method_40_code 159 = .ok (.ladd, 1) := by decide +kernel
theorem dR_carried_160 : decode prog_9_method_40_code 160 = .ok (.lstore 5, 2) := by decide +kernel
theorem dR_carried_162 : decode prog_9_method_40_code 162 = .ok (.iinc 7 1, 3) := by decide +kernel
theorem dR_carried_165 : decode prog_9_method_40_code 165 = .ok (.goto (-157), 3) := by decide +kernel
theorem dR_carried_168 : decode prog_9_method_40_code 168 = .ok (.aload_n 0, 1) := by decide +kernel
theorem dR_carried_169 : decode prog_9_method_40_code 169 = .ok (.getfield 90, 3) := by decide +kernel
theorem dR_carried_172 : decode prog_9_method_40_code 172 = .ok (.iload_n 2, 1) := by decide +kernel
theorem dR_carried_173 : decode prog_9_method_40_code 173 = .ok (.lload_n 3, 1) := by decide +kernel
theorem dR_carried_174 : decode prog_9_method_40_code 174 = .ok (.lastore, 1) := by decide +kernel
theorem dR_carried_175 : decode prog_9_method_40_code 175 = .ok (.aload_n 0, 1) := by decide +kernel
theorem dR_carried_176 : decode prog_9_method_40_code 176 = .ok (.getfield 93, 3) := by decide +kernel
theorem dR_carried_179 : decode prog_9_method_40_code 179 = .ok (.iload_n 2, 1) := by decide +kernel
theorem dR_carried_180 : decode prog_9_method_40_code 180 = .ok (.lload 5, 2) := by decide +kernel
theorem dR_carried_182 : decode prog_9_method_40_code 182 = .ok (.lastore, 1) := by decide +kernel
theorem dR_carried_183 : decode prog_9_method_40_code 183 = .ok (.return_, 1) := by decide +kernel
theorem dR_exact_0 : decode prog_9_method_39_code 0 = .ok (.aload_n 0, 1) := by decide +kernel
theorem dR_exact_1 : decode prog_9_method_39_code 1 = .ok (.aload_n 0, 1) := by decide +kernel
theorem dR_exact_2 : decode prog_9_method_39_code 2 = .ok (.iload_n 1, 1) := by decide +kernel
theorem dR_exact_3 : decode prog_9_method_39_code 3 = .ok (.invokevirtual 182, 3) := by decide +kernel
theorem dR_exact_6 : decode prog_9_method_39_code 6 = .ok (.ifCond .ne 7, 3) := by decide +kernel
theorem dR_exact_9 : decode prog_9_method_39_code 9 = .ok (.iconst 1, 1) := by decide +kernel
theorem dR_exact_10 : decode prog_9_method_39_code 10 = .ok (.goto 18, 3) := by decide +kernel
theorem dR_exact_13 : decode prog_9_method_39_code 13 = .ok (.aload_n 0, 1) := by decide +kernel
theorem dR_exact_14 : decode prog_9_method_39_code 14 = .ok (.getfield 57, 3) := by decide +kernel
theorem dR_exact_17 : decode prog_9_method_39_code 17 = .ok (.iload_n 1, 1) := by decide +kernel
theorem dR_exact_18 : decode prog_9_method_39_code 18 = .ok (.iaload, 1) := by decide +kernel
theorem dR_exact_19 : decode prog_9_method_39_code 19 = .ok (.iconst 1, 1) := by decide +kernel
theorem dR_exact_20 : decode prog_9_method_39_code 20 = .ok (.if_icmp .eq 7, 3) := by decide +kernel
theorem dR_exact_23 : decode prog_9_method_39_code 23 = .ok (.iconst 2, 1) := by decide +kernel
theorem dR_exact_24 : decode prog_9_method_39_code 24 = .ok (.goto 4, 3) := by decide +kernel
theorem dR_exact_27 : decode prog_9_method_39_code 27 = .ok (.iconst 0, 1) := by decide +kernel
theorem dR_exact_28 : decode prog_9_method_39_code 28 = .ok (.putfield 100, 3) := by decide +kernel
theorem dR_exact_31 : decode prog_9_method_39_code 31 = .ok (.aload_n 0, 1) := by decide +kernel
theorem dR_exact_32 : decode prog_9_method_39_code 32 = .ok (.getfield 100, 3) := by decide +kernel
theorem dR_exact_35 : decode prog_9_method_39_code 35 = .ok (.ifCond .le 5, 3) := by decide +kernel
theorem dR_exact_38 : decode prog_9_method_39_code 38 = .ok (.iconst 0, 1) := by decide +kernel
theorem dR_exact_39 : decode prog_9_method_39_code 39 = .ok (.ireturn, 1) := by decide +kernel
theorem dR_exact_40 : decode prog_9_method_39_code 40 = .ok (.iconst 0, 1) := by decide +kernel
theorem dR_exact_41 : decode prog_9_method_39_code 41 = .ok (.istore_n 2, 1) := by decide +kernel
theorem dR_exact_42 : decode prog_9_method_39_code 42 = .ok (.iload_n 2, 1) := by decide +kernel
theorem dR_exact_43 : decode prog_9_method_39_code 43 = .ok (.aload_n 0, 1) := by decide +kernel
theorem dR_exact_44 : decode prog_9_method_39_code 44 = .ok (.getfield 96, 3) := by decide +kernel
theorem dR_exact_47 : decode prog_9_method_39_code 47 = .ok (.if_icmp .ge 23, 3) := by decide +kernel
theorem dR_exact_50 : decode prog_9_method_39_code 50 = .ok (.aload_n 0, 1) := by decide +kernel
theorem dR_exact_51 : decode prog_9_method_39_code 51 = .ok (.getfield 90, 3) := by decide +kernel
theorem dR_exact_54 : decode prog_9_method_39_code 54 = .ok (.iload_n 2, 1) := by decide +kernel
theorem dR_exact_55 : decode prog_9_method_39_code 55 = .ok (.lconst 0, 1) := by decide +kernel
theorem dR_exact_56 : decode prog_9_method_39_code 56 = .ok (.lastore, 1) := by decide +kernel
theorem dR_exact_57 : decode prog_9_method_39_code 57 = .ok (.aload_n 0, 1) := by decide +kernel
theorem dR_exact_58 : decode prog_9_method_39_code 58 = .ok (.getfield 93, 3) := by decide +kernel
theorem dR_exact_61 : decode prog_9_method_39_code 61 = .ok (.iload_n 2, 1) := by decide +kernel
theorem dR_exact_62 : decode prog_9_method_39_code 62 = .ok (.lconst 0, 1) := by decide +kernel
theorem dR_exact_63 : decode prog_9_method_39_code 63 = .ok (.lastore, 1) := by decide +kernel
theorem dR_exact_64 : decode prog_9_method_39_code 64 = .ok (.iinc 2 1, 3) := by decide +kernel
theorem dR_exact_67 : decode prog_9_method_39_code 67 = .ok (.goto (-25), 3) := by decide +kernel
theorem dR_exact_70 : decode prog_9_method_39_code 70 = .ok (.iconst 0, 1) := by decide +kernel
theorem dR_exact_71 : decode prog_9_method_39_code 71 = .ok (.istore_n 2, 1) := by decide +kernel
theorem dR_exact_72 : decode prog_9_method_39_code 72 = .ok (.iload_n 2, 1) := by decide +kernel
theorem dR_exact_73 : decode prog_9_method_39_code 73 = .ok (.aload_n 0, 1) := by decide +kernel
theorem dR_exact_74 : decode prog_9_method_39_code 74 = .ok (.getfield 96, 3) := by decide +kernel
theorem dR_exact_77 : decode prog_9_method_39_code 77 = .ok (.if_icmp .ge 31, 3) := by decide +kernel
theorem dR_exact_80 : decode prog_9_method_39_code 80 = .ok (.iconst 0, 1) := by decide +kernel
theorem dR_exact_81 : decode prog_9_method_39_code 81 = .ok (.istore_n 3, 1) := by decide +kernel
theorem dR_exact_82 : decode prog_9_method_39_code 82 = .ok (.iload_n 3, 1) := by decide +kernel
theorem dR_exact_83 : decode prog_9_method_39_code 83 = .ok (.aload_n 0, 1) := by decide +kernel
theorem dR_exact_84 : decode prog_9_method_39_code 84 = .ok (.getfield 96, 3) := by decide +kernel
theorem dR_exact_87 : decode prog_9_method_39_code 87 = .ok (.if_icmp .ge 15, 3) := by decide +kernel
theorem dR_exact_90 : decode prog_9_method_39_code 90 = .ok (.aload_n 0, 1) := by decide +kernel
theorem dR_exact_91 : decode prog_9_method_39_code 91 = .ok (.iload_n 1, 1) := by decide +kernel
theorem dR_exact_92 : decode prog_9_method_39_code 92 = .ok (.iload_n 3, 1) := by decide +kernel
theorem dR_exact_93 : decode prog_9_method_39_code 93 = .ok (.invokevirtual 185, 3) := by decide +kernel
theorem dR_exact_96 : decode prog_9_method_39_code 96 = .ok (.iinc 3 1, 3) := by decide +kernel
theorem dR_exact_99 : decode prog_9_method_39_code 99 = .ok (.goto (-17), 3) := by decide +kernel
theorem dR_exact_102 : decode prog_9_method_39_code 102 = .ok (.iinc 2 1, 3) := by decide +kernel
theorem dR_exact_105 : decode prog_9_method_39_code 105 = .ok (.goto (-33), 3) := by decide +kernel
theorem dR_exact_108 : decode prog_9_method_39_code 108 = .ok (.iconst 1, 1) := by decide +kernel
theorem dR_exact_109 : decode prog_9_method_39_code 109 = .ok (.istore_n 2, 1) := by decide +kernel
theorem dR_exact_110 : decode prog_9_method_39_code 110 = .ok (.iconst 0, 1) := by decide +kernel
theorem dR_exact_111 : decode prog_9_method_39_code 111 = .ok (.istore_n 3, 1) := by decide +kernel
theorem dR_exact_112 : decode prog_9_method_39_code 112 = .ok (.iload_n 3, 1) := by decide +kernel
theorem dR_exact_113 : decode prog_9_method_39_code 113 = .ok (.aload_n 0, 1) := by decide +kernel
theorem dR_exact_114 : decode prog_9_method_39_code 114 = .ok (.getfield 96, 3) := by decide +kernel
theorem dR_exact_117 : decode prog_9_method_39_code 117 = .ok (.if_icmp .ge 60, 3) := by decide +kernel
theorem dR_exact_120 : decode prog_9_method_39_code 120 = .ok (.iload_n 2, 1) := by decide +kernel
theorem dR_exact_121 : decode prog_9_method_39_code 121 = .ok (.aload_n 0, 1) := by decide +kernel
theorem dR_exact_122 : decode prog_9_method_39_code 122 = .ok (.getfield 90, 3) := by decide +kernel
theorem dR_exact_125 : decode prog_9_method_39_code 125 = .ok (.iload_n 3, 1) := by decide +kernel
theorem dR_exact_126 : decode prog_9_method_39_code 126 = .ok (.laload, 1) := by decide +kernel
theorem dR_exact_127 : decode prog_9_method_39_code 127 = .ok (.aload_n 0, 1) := by decide +kernel
theorem dR_exact_128 : decode prog_9_method_39_code 128 = .ok (.getfield 72, 3) := by decide +kernel
theorem dR_exact_131 : decode prog_9_method_39_code 131 = .ok (.bipush 8, 2) := by decide +kernel
theorem dR_exact_133 : decode prog_9_method_39_code 133 = .ok (.iload_n 1, 1) := by decide +kernel
theorem dR_exact_134 : decode prog_9_method_39_code 134 = .ok (.imul, 1) := by decide +kernel
theorem dR_exact_135 : decode prog_9_method_39_code 135 = .ok (.iload_n 3, 1) := by decide +kernel
theorem dR_exact_136 : decode prog_9_method_39_code 136 = .ok (.iadd, 1) := by decide +kernel
theorem dR_exact_137 : decode prog_9_method_39_code 137 = .ok (.laload, 1) := by decide +kernel
theorem dR_exact_138 : decode prog_9_method_39_code 138 = .ok (.lcmp, 1) := by decide +kernel
theorem dR_exact_139 : decode prog_9_method_39_code 139 = .ok (.ifCond .ne 29, 3) := by decide +kernel
theorem dR_exact_142 : decode prog_9_method_39_code 142 = .ok (.aload_n 0, 1) := by decide +kernel
theorem dR_exact_143 : decode prog_9_method_39_code 143 = .ok (.getfield 93, 3) := by decide +kernel
theorem dR_exact_146 : decode prog_9_method_39_code 146 = .ok (.iload_n 3, 1) := by decide +kernel
theorem dR_exact_147 : decode prog_9_method_39_code 147 = .ok (.laload, 1) := by decide +kernel
theorem dR_exact_148 : decode prog_9_method_39_code 148 = .ok (.aload_n 0, 1) := by decide +kernel
theorem dR_exact_149 : decode prog_9_method_39_code 149 = .ok (.getfield 75, 3) := by decide +kernel
theorem dR_exact_152 : decode prog_9_method_39_code 152 = .ok (.bipush 8, 2) := by decide +kernel
theorem dR_exact_154 : decode prog_9_method_39_code 154 = .ok (.iload_n 1, 1) := by decide +kernel
theorem dR_exact_155 : decode prog_9_method_39_code 155 = .ok (.imul, 1) := by decide +kernel
