theorem dK_init_0 : decode prog_2_method_1_code 0 = .ok (.aload_n 0, 1) := by decide +kernel
theorem dK_init_1 : decode prog_2_method_1_code 1 = .ok (.invokespecial 3, 3) := by decide +kernel
theorem dK_init_4 : decode prog_2_method_1_code 4 = .ok (.aload_n 0, 1) := by decide +kernel
theorem dK_init_5 : decode prog_2_method_1_code 5 = .ok (.sipush 520, 3) := by decide +kernel
theorem dK_init_8 : decode prog_2_method_1_code 8 = .ok (.newarray .int, 2) := by decide +kernel
theorem dK_init_10 : decode prog_2_method_1_code 10 = .ok (.putfield 9, 3) := by decide +kernel
theorem dK_init_13 : decode prog_2_method_1_code 13 = .ok (.aload_n 0, 1) := by decide +kernel
theorem dK_init_14 : decode prog_2_method_1_code 14 = .ok (.sipush 520, 3) := by decide +kernel
theorem dK_init_17 : decode prog_2_method_1_code 17 = .ok (.newarray .int, 2) := by decide +kernel
theorem dK_init_19 : decode prog_2_method_1_code 19 = .ok (.putfield 15, 3) := by decide +kernel
theorem dK_init_22 : decode prog_2_method_1_code 22 = .ok (.return_, 1) := by decide +kernel
theorem dK_add_0 : decode prog_2_method_2_code 0 = .ok (.aload_n 0, 1) := by decide +kernel
theorem dK_add_1 : decode prog_2_method_2_code 1 = .ok (.getfield 18, 3) := by decide +kernel
theorem dK_add_4 : decode prog_2_method_2_code 4 = .ok (.sipush 520, 3) := by decide +kernel
theorem dK_add_7 : decode prog_2_method_2_code 7 = .ok (.if_icmp .ge 50, 3) := by decide +kernel
theorem dK_add_10 : decode prog_2_method_2_code 10 = .ok (.aload_n 0, 1) := by decide +kernel
theorem dK_add_11 : decode prog_2_method_2_code 11 = .ok (.getfield 22, 3) := by decide +kernel
theorem dK_add_14 : decode prog_2_method_2_code 14 = .ok (.aload_n 0, 1) := by decide +kernel
theorem dK_add_15 : decode prog_2_method_2_code 15 = .ok (.getfield 18, 3) := by decide +kernel
theorem dK_add_18 : decode prog_2_method_2_code 18 = .ok (.iadd, 1) := by decide +kernel
theorem dK_add_19 : decode prog_2_method_2_code 19 = .ok (.istore_n 3, 1) := by decide +kernel
theorem dK_add_20 : decode prog_2_method_2_code 20 = .ok (.iload_n 3, 1) := by decide +kernel
theorem dK_add_21 : decode prog_2_method_2_code 21 = .ok (.sipush 520, 3) := by decide +kernel
theorem dK_add_24 : decode prog_2_method_2_code 24 = .ok (.if_icmp .lt 9, 3) := by decide +kernel
theorem dK_add_27 : decode prog_2_method_2_code 27 = .ok (.iinc 3 (-520), 6) := by decide +kernel
theorem dK_add_33 : decode prog_2_method_2_code 33 = .ok (.aload_n 0, 1) := by decide +kernel
theorem dK_add_34 : decode prog_2_method_2_code 34 = .ok (.getfield 9, 3) := by decide +kernel
theorem dK_add_37 : decode prog_2_method_2_code 37 = .ok (.iload_n 3, 1) := by decide +kernel
theorem dK_add_38 : decode prog_2_method_2_code 38 = .ok (.iload_n 1, 1) := by decide +kernel
theorem dK_add_39 : decode prog_2_method_2_code 39 = .ok (.iastore, 1) := by decide +kernel
theorem dK_add_40 : decode prog_2_method_2_code 40 = .ok (.aload_n 0, 1) := by decide +kernel
theorem dK_add_41 : decode prog_2_method_2_code 41 = .ok (.getfield 15, 3) := by decide +kernel
theorem dK_add_44 : decode prog_2_method_2_code 44 = .ok (.iload_n 3, 1) := by decide +kernel
theorem dK_add_45 : decode prog_2_method_2_code 45 = .ok (.iload_n 2, 1) := by decide +kernel
theorem dK_add_46 : decode prog_2_method_2_code 46 = .ok (.iastore, 1) := by decide +kernel
theorem dK_add_47 : decode prog_2_method_2_code 47 = .ok (.aload_n 0, 1) := by decide +kernel
theorem dK_add_48 : decode prog_2_method_2_code 48 = .ok (.dup, 1) := by decide +kernel
theorem dK_add_49 : decode prog_2_method_2_code 49 = .ok (.getfield 18, 3) := by decide +kernel
theorem dK_add_52 : decode prog_2_method_2_code 52 = .ok (.iconst 1, 1) := by decide +kernel
theorem dK_add_53 : decode prog_2_method_2_code 53 = .ok (.iadd, 1) := by decide +kernel
theorem dK_add_54 : decode prog_2_method_2_code 54 = .ok (.putfield 18, 3) := by decide +kernel
theorem dK_add_57 : decode prog_2_method_2_code 57 = .ok (.return_, 1) := by decide +kernel
theorem dK_firstMark_0 : decode prog_2_method_3_code 0 = .ok (.aload_n 0, 1) := by decide +kernel
theorem dK_firstMark_1 : decode prog_2_method_3_code 1 = .ok (.getfield 9, 3) := by decide +kernel
theorem dK_firstMark_4 : decode prog_2_method_3_code 4 = .ok (.aload_n 0, 1) := by decide +kernel
theorem dK_firstMark_5 : decode prog_2_method_3_code 5 = .ok (.getfield 22, 3) := by decide +kernel
theorem dK_firstMark_8 : decode prog_2_method_3_code 8 = .ok (.iaload, 1) := by decide +kernel
theorem dK_firstMark_9 : decode prog_2_method_3_code 9 = .ok (.ireturn, 1) := by decide +kernel
theorem dK_firstTask_0 : decode prog_2_method_4_code 0 = .ok (.aload_n 0, 1) := by decide +kernel
theorem dK_firstTask_1 : decode prog_2_method_4_code 1 = .ok (.getfield 15, 3) := by decide +kernel
theorem dK_firstTask_4 : decode prog_2_method_4_code 4 = .ok (.aload_n 0, 1) := by decide +kernel
theorem dK_firstTask_5 : decode prog_2_method_4_code 5 = .ok (.getfield 22, 3) := by decide +kernel
theorem dK_firstTask_8 : decode prog_2_method_4_code 8 = .ok (.iaload, 1) := by decide +kernel
theorem dK_firstTask_9 : decode prog_2_method_4_code 9 = .ok (.ireturn, 1) := by decide +kernel
theorem dK_dropFirst_0 : decode prog_2_method_5_code 0 = .ok (.aload_n 0, 1) := by decide +kernel
theorem dK_dropFirst_1 : decode prog_2_method_5_code 1 = .ok (.getfield 18, 3) := by decide +kernel
theorem dK_dropFirst_4 : decode prog_2_method_5_code 4 = .ok (.ifCond .le 39, 3) := by decide +kernel
theorem dK_dropFirst_7 : decode prog_2_method_5_code 7 = .ok (.aload_n 0, 1) := by decide +kernel
theorem dK_dropFirst_8 : decode prog_2_method_5_code 8 = .ok (.dup, 1) := by decide +kernel
theorem dK_dropFirst_9 : decode prog_2_method_5_code 9 = .ok (.getfield 18, 3) := by decide +kernel
theorem dK_dropFirst_12 : decode prog_2_method_5_code 12 = .ok (.iconst 1, 1) := by decide +kernel
theorem dK_dropFirst_13 : decode prog_2_method_5_code 13 = .ok (.isub, 1) := by decide +kernel
theorem dK_dropFirst_14 : decode prog_2_method_5_code 14 = .ok (.putfield 18, 3) := by decide +kernel
theorem dK_dropFirst_17 : decode prog_2_method_5_code 17 = .ok (.aload_n 0, 1) := by decide +kernel
theorem dK_dropFirst_18 : decode prog_2_method_5_code 18 = .ok (.aload_n 0, 1) := by decide +kernel
theorem dK_dropFirst_19 : decode prog_2_method_5_code 19 = .ok (.getfield 22, 3) := by decide +kernel
theorem dK_dropFirst_22 : decode prog_2_method_5_code 22 = .ok (.iconst 1, 1) := by decide +kernel
theorem dK_dropFirst_23 : decode prog_2_method_5_code 23 = .ok (.iadd, 1) := by decide +kernel
theorem dK_dropFirst_24 : decode prog_2_method_5_code 24 = .ok (.sipush 520, 3) := by decide +kernel
theorem dK_dropFirst_27 : decode prog_2_method_5_code 27 = .ok (.if_icmp .ge 12, 3) := by decide +kernel
theorem dK_dropFirst_30 : decode prog_2_method_5_code 30 = .ok (.aload_n 0, 1) := by decide +kernel
theorem dK_dropFirst_31 : decode prog_2_method_5_code 31 = .ok (.getfield 22, 3) := by decide +kernel
theorem dK_dropFirst_34 : decode prog_2_method_5_code 34 = .ok (.iconst 1, 1) := by decide +kernel
theorem dK_dropFirst_35 : decode prog_2_method_5_code 35 = .ok (.iadd, 1) := by decide +kernel
theorem dK_dropFirst_36 : decode prog_2_method_5_code 36 = .ok (.goto 4, 3) := by decide +kernel
theorem dK_dropFirst_39 : decode prog_2_method_5_code 39 = .ok (.iconst 0, 1) := by decide +kernel
theorem dK_dropFirst_40 : decode prog_2_method_5_code 40 = .ok (.putfield 22, 3) := by decide +kernel
theorem dK_dropFirst_43 : decode prog_2_method_5_code 43 = .ok (.return_, 1) := by decide +kernel
theorem dK_clear_0 : decode prog_2_method_6_code 0 = .ok (.aload_n 0, 1) := by decide +kernel
theorem dK_clear_1 : decode prog_2_method_6_code 1 = .ok (.iconst 0, 1) := by decide +kernel
theorem dK_clear_2 : decode prog_2_method_6_code 2 = .ok (.putfield 22, 3) := by decide +kernel
theorem dK_clear_5 : decode prog_2_method_6_code 5 = .ok (.aload_n 0, 1) := by decide +kernel
theorem dK_clear_6 : decode prog_2_method_6_code 6 = .ok (.iconst 0, 1) := by decide +kernel
theorem dK_clear_7 : decode prog_2_method_6_code 7 = .ok (.putfield 18, 3) := by decide +kernel
theorem dK_clear_10 : decode prog_2_method_6_code 10 = .ok (.return_, 1) := by decide +kernel
theorem dCh_init_0 : decode prog_3_method_1_code 0 = .ok (.aload_n 0, 1) := by decide +kernel
theorem dCh_init_1 : decode prog_3_method_1_code 1 = .ok (.invokespecial 3, 3) := by decide +kernel
theorem dCh_init_4 : decode prog_3_method_1_code 4 = .ok (.aload_n 0, 1) := by decide +kernel
theorem dCh_init_5 : decode prog_3_method_1_code 5 = .ok (.iconst (-1), 1) := by decide +kernel
theorem dCh_init_6 : decode prog_3_method_1_code 6 = .ok (.putfield 9, 3) := by decide +kernel
theorem dCh_init_9 : decode prog_3_method_1_code 9 = .ok (.aload_n 0, 1) := by decide +kernel
theorem dCh_init_10 : decode prog_3_method_1_code 10 = .ok (.iload_n 1, 1) := by decide +kernel
theorem dCh_init_11 : decode prog_3_method_1_code 11 = .ok (.putfield 15, 3) := by decide +kernel
theorem dCh_init_14 : decode prog_3_method_1_code 14 = .ok (.aload_n 0, 1) := by decide +kernel
theorem dCh_init_15 : decode prog_3_method_1_code 15 = .ok (.iload_n 2, 1) := by decide +kernel
theorem dCh_init_16 : decode prog_3_method_1_code 16 = .ok (.putfield 18, 3) := by decide +kernel
theorem dCh_init_19 : decode prog_3_method_1_code 19 = .ok (.return_, 1) := by decide +kernel
theorem dS_init_0 : decode prog_6_method_1_code 0 = .ok (.aload_n 0, 1) := by decide +kernel
theorem dS_init_1 : decode prog_6_method_1_code 1 = .ok (.iconst (-1), 1) := by decide +kernel
theorem dS_init_2 : decode prog_6_method_1_code 2 = .ok (.iload_n 1, 1) := by decide +kernel
theorem dS_init_3 : decode prog_6_method_1_code 3 = .ok (.invokespecial 3, 3) := by decide +kernel
theorem dS_init_6 : decode prog_6_method_1_code 6 = .ok (.aload_n 0, 1) := by decide +kernel
theorem dS_init_7 : decode prog_6_method_1_code 7 = .ok (.sipush 200, 3) := by decide +kernel
theorem dS_init_10 : decode prog_6_method_1_code 10 = .ok (.newarray .long, 2) := by decide +kernel
theorem dS_init_12 : decode prog_6_method_1_code 12 = .ok (.putfield 9, 3) := by decide +kernel
theorem dS_init_15 : decode prog_6_method_1_code 15 = .ok (.aload_n 0, 1) := by decide +kernel
theorem dS_init_16 : decode prog_6_method_1_code 16 = .ok (.bipush 40, 2) := by decide +kernel
theorem dS_init_18 : decode prog_6_method_1_code 18 = .ok (.newarray .int, 2) := by decide +kernel
theorem dS_init_20 : decode prog_6_method_1_code 20 = .ok (.putfield 15, 3) := by decide +kernel
theorem dS_init_23 : decode prog_6_method_1_code 23 = .ok (.aload_n 0, 1) := by decide +kernel
theorem dS_init_24 : decode prog_6_method_1_code 24 = .ok (.bipush 40, 2) := by decide +kernel
theorem dS_init_26 : decode prog_6_method_1_code 26 = .ok (.newarray .long, 2) := by decide +kernel
theorem dS_init_28 : decode prog_6_method_1_code 28 = .ok (.putfield 19, 3) := by decide +kernel
theorem dS_init_31 : decode prog_6_method_1_code 31 = .ok (.aload_n 0, 1) := by decide +kernel
theorem dS_init_32 : decode prog_6_method_1_code 32 = .ok (.iconst 3, 1) := by decide +kernel
theorem dS_init_33 : decode prog_6_method_1_code 33 = .ok (.newarray .int, 2) := by decide +kernel
theorem dS_init_35 : decode prog_6_method_1_code 35 = .ok (.putfield 22, 3) := by decide +kernel
theorem dS_init_38 : decode prog_6_method_1_code 38 = .ok (.return_, 1) := by decide +kernel
theorem dS_addRow_0 : decode prog_6_method_2_code 0 = .ok (.aload_n 0, 1) := by decide +kernel
theorem dS_addRow_1 : decode prog_6_method_2_code 1 = .ok (.getfield 25, 3) := by decide +kernel
theorem dS_addRow_4 : decode prog_6_method_2_code 4 = .ok (.aload_n 0, 1) := by decide +kernel
theorem dS_addRow_5 : decode prog_6_method_2_code 5 = .ok (.getfield 9, 3) := by decide +kernel
theorem dS_addRow_8 : decode prog_6_method_2_code 8 = .ok (.arraylength, 1) := by decide +kernel
theorem dS_addRow_9 : decode prog_6_method_2_code 9 = .ok (.if_icmp .ge 33, 3) := by decide +kernel
theorem dS_addRow_12 : decode prog_6_method_2_code 12 = .ok (.aload_n 0, 1) := by decide +kernel
theorem dS_addRow_13 : decode prog_6_method_2_code 13 = .ok (.getfield 9, 3) := by decide +kernel
theorem dS_addRow_16 : decode prog_6_method_2_code 16 = .ok (.aload_n 0, 1) := by decide +kernel
theorem dS_addRow_17 : decode prog_6_method_2_code 17 = .ok (.getfield 25, 3) := by decide +kernel
theorem dS_addRow_20 : decode prog_6_method_2_code 20 = .ok (.lload_n 1, 1) := by decide +kernel
theorem dS_addRow_21 : decode prog_6_method_2_code 21 = .ok (.lastore, 1) := by decide +kernel
theorem dS_addRow_22 : decode prog_6_method_2_code 22 = .ok (.aload_n 0, 1) := by decide +kernel
theorem dS_addRow_23 : decode prog_6_method_2_code 23 = .ok (.dup, 1) := by decide +kernel
theorem dS_addRow_24 : decode prog_6_method_2_code 24 = .ok (.getfield 25, 3) := by decide +kernel
theorem dS_addRow_27 : decode prog_6_method_2_code 27 = .ok (.iconst 1, 1) := by decide +kernel
theorem dS_addRow_28 : decode prog_6_method_2_code 28 = .ok (.iadd, 1) := by decide +kernel
theorem dS_addRow_29 : decode prog_6_method_2_code 29 = .ok (.putfield 25, 3) := by decide +kernel
theorem dS_addRow_32 : decode prog_6_method_2_code 32 = .ok (.aload_n 0, 1) := by decide +kernel
theorem dS_addRow_33 : decode prog_6_method_2_code 33 = .ok (.dup, 1) := by decide +kernel
theorem dS_addRow_34 : decode prog_6_method_2_code 34 = .ok (.getfield 29, 3) := by decide +kernel
theorem dS_addRow_37 : decode prog_6_method_2_code 37 = .ok (.lload_n 1, 1) := by decide +kernel
theorem dS_addRow_38 : decode prog_6_method_2_code 38 = .ok (.ladd, 1) := by decide +kernel
theorem dS_addRow_39 : decode prog_6_method_2_code 39 = .ok (.putfield 29, 3) := by decide +kernel
theorem dS_addRow_42 : decode prog_6_method_2_code 42 = .ok (.return_, 1) := by decide +kernel
theorem dS_beginMark_0 : decode prog_6_method_8_code 0 = .ok (.iload_n 1, 1) := by decide +kernel
theorem dS_beginMark_1 : decode prog_6_method_8_code 1 = .ok (.ifCond .lt 64, 3) := by decide +kernel
theorem dS_beginMark_4 : decode prog_6_method_8_code 4 = .ok (.iload_n 1, 1) := by decide +kernel
theorem dS_beginMark_5 : decode prog_6_method_8_code 5 = .ok (.aload_n 0, 1) := by decide +kernel
theorem dS_beginMark_6 : decode prog_6_method_8_code 6 = .ok (.getfield 15, 3) := by decide +kernel
theorem dS_beginMark_9 : decode prog_6_method_8_code 9 = .ok (.arraylength, 1) := by decide +kernel
theorem dS_beginMark_10 : decode prog_6_method_8_code 10 = .ok (.if_icmp .ge 55, 3) := by decide +kernel
theorem dS_beginMark_13 : decode prog_6_method_8_code 13 = .ok (.aload_n 0, 1) := by decide +kernel
theorem dS_beginMark_14 : decode prog_6_method_8_code 14 = .ok (.getfield 33, 3) := by decide +kernel
theorem dS_beginMark_17 : decode prog_6_method_8_code 17 = .ok (.aload_n 0, 1) := by decide +kernel
theorem dS_beginMark_18 : decode prog_6_method_8_code 18 = .ok (.getfield 22, 3) := by decide +kernel
theorem dS_beginMark_21 : decode prog_6_method_8_code 21 = .ok (.arraylength, 1) := by decide +kernel
theorem dS_beginMark_22 : decode prog_6_method_8_code 22 = .ok (.if_icmp .ge 43, 3) := by decide +kernel
theorem dS_beginMark_25 : decode prog_6_method_8_code 25 = .ok (.aload_n 0, 1) := by decide +kernel
theorem dS_beginMark_26 : decode prog_6_method_8_code 26 = .ok (.getfield 15, 3) := by decide +kernel
theorem dS_beginMark_29 : decode prog_6_method_8_code 29 = .ok (.iload_n 1, 1) := by decide +kernel
theorem dS_beginMark_30 : decode prog_6_method_8_code 30 = .ok (.aload_n 0, 1) := by decide +kernel
theorem dS_beginMark_31 : decode prog_6_method_8_code 31 = .ok (.getfield 25, 3) := by decide +kernel
theorem dS_beginMark_34 : decode prog_6_method_8_code 34 = .ok (.iastore, 1) := by decide +kernel
theorem dS_beginMark_35 : decode prog_6_method_8_code 35 = .ok (.aload_n 0, 1) := by decide +kernel
theorem dS_beginMark_36 : decode prog_6_method_8_code 36 = .ok (.getfield 19, 3) := by decide +kernel
theorem dS_beginMark_39 : decode prog_6_method_8_code 39 = .ok (.iload_n 1, 1) := by decide +kernel
theorem dS_beginMark_40 : decode prog_6_method_8_code 40 = .ok (.aload_n 0, 1) := by decide +kernel
theorem dS_beginMark_41 : decode prog_6_method_8_code 41 = .ok (.getfield 29, 3) := by decide +kernel
theorem dS_beginMark_44 : decode prog_6_method_8_code 44 = .ok (.lastore, 1) := by decide +kernel
theorem dS_beginMark_45 : decode prog_6_method_8_code 45 = .ok (.aload_n 0, 1) := by decide +kernel
theorem dS_beginMark_46 : decode prog_6_method_8_code 46 = .ok (.getfield 22, 3) := by decide +kernel
theorem dS_beginMark_49 : decode prog_6_method_8_code 49 = .ok (.aload_n 0, 1) := by decide +kernel
theorem dS_beginMark_50 : decode prog_6_method_8_code 50 = .ok (.getfield 33, 3) := by decide +kernel
theorem dS_beginMark_53 : decode prog_6_method_8_code 53 = .ok (.iload_n 1, 1) := by decide +kernel
theorem dS_beginMark_54 : decode prog_6_method_8_code 54 = .ok (.iastore, 1) := by decide +kernel
theorem dS_beginMark_55 : decode prog_6_method_8_code 55 = .ok (.aload_n 0, 1) := by decide +kernel
theorem dS_beginMark_56 : decode prog_6_method_8_code 56 = .ok (.dup, 1) := by decide +kernel
theorem dS_beginMark_57 : decode prog_6_method_8_code 57 = .ok (.getfield 33, 3) := by decide +kernel
theorem dS_beginMark_60 : decode prog_6_method_8_code 60 = .ok (.iconst 1, 1) := by decide +kernel
theorem dS_beginMark_61 : decode prog_6_method_8_code 61 = .ok (.iadd, 1) := by decide +kernel
theorem dS_beginMark_62 : decode prog_6_method_8_code 62 = .ok (.putfield 33, 3) := by decide +kernel
theorem dS_beginMark_65 : decode prog_6_method_8_code 65 = .ok (.return_, 1) := by decide +kernel
theorem dS_dropBarrier_0 : decode prog_6_method_9_code 0 = .ok (.iconst 0, 1) := by decide +kernel
theorem dS_dropBarrier_1 : decode prog_6_method_9_code 1 = .ok (.istore_n 2, 1) := by decide +kernel
theorem dS_dropBarrier_2 : decode prog_6_method_9_code 2 = .ok (.iconst 0, 1) := by decide +kernel
theorem dS_dropBarrier_3 : decode prog_6_method_9_code 3 = .ok (.istore_n 3, 1) := by decide +kernel
theorem dS_dropBarrier_4 : decode prog_6_method_9_code 4 = .ok (.iload_n 3, 1) := by decide +kernel
theorem dS_dropBarrier_5 : decode prog_6_method_9_code 5 = .ok (.aload_n 0, 1) := by decide +kernel
theorem dS_dropBarrier_6 : decode prog_6_method_9_code 6 = .ok (.getfield 33, 3) := by decide +kernel
theorem dS_dropBarrier_9 : decode prog_6_method_9_code 9 = .ok (.if_icmp .ge 34, 3) := by decide +kernel
theorem dS_dropBarrier_12 : decode prog_6_method_9_code 12 = .ok (.aload_n 0, 1) := by decide +kernel
theorem dS_dropBarrier_13 : decode prog_6_method_9_code 13 = .ok (.getfield 22, 3) := by decide +kernel
theorem dS_dropBarrier_16 : decode prog_6_method_9_code 16 = .ok (.iload_n 3, 1) := by decide +kernel
theorem dS_dropBarrier_17 : decode prog_6_method_9_code 17 = .ok (.iaload, 1) := by decide +kernel
theorem dS_dropBarrier_18 : decode prog_6_method_9_code 18 = .ok (.iload_n 1, 1) := by decide +kernel
theorem dS_dropBarrier_19 : decode prog_6_method_9_code 19 = .ok (.if_icmp .eq 18, 3) := by decide +kernel
theorem dS_dropBarrier_22 : decode prog_6_method_9_code 22 = .ok (.aload_n 0, 1) := by decide +kernel
theorem dS_dropBarrier_23 : decode prog_6_method_9_code 23 = .ok (.getfield 22, 3) := by decide +kernel
theorem dS_dropBarrier_26 : decode prog_6_method_9_code 26 = .ok (.iload_n 2, 1) := by decide +kernel
theorem dS_dropBarrier_27 : decode prog_6_method_9_code 27 = .ok (.aload_n 0, 1) := by decide +kernel
theorem dS_dropBarrier_28 : decode prog_6_method_9_code 28 = .ok (.getfield 22, 3) := by decide +kernel
theorem dS_dropBarrier_31 : decode prog_6_method_9_code 31 = .ok (.iload_n 3, 1) := by decide +kernel
theorem dS_dropBarrier_32 : decode prog_6_method_9_code 32 = .ok (.iaload, 1) := by decide +kernel
theorem dS_dropBarrier_33 : decode prog_6_method_9_code 33 = .ok (.iastore, 1) := by decide +kernel
theorem dS_dropBarrier_34 : decode prog_6_method_9_code 34 = .ok (.iinc 2 1, 3) := by decide +kernel
theorem dS_dropBarrier_37 : decode prog_6_method_9_code 37 = .ok (.iinc 3 1, 3) := by decide +kernel
theorem dS_dropBarrier_40 : decode prog_6_method_9_code 40 = .ok (.goto (-36), 3) := by decide +kernel
theorem dS_dropBarrier_43 : decode prog_6_method_9_code 43 = .ok (.aload_n 0, 1) := by decide +kernel
theorem dS_dropBarrier_44 : decode prog_6_method_9_code 44 = .ok (.iload_n 2, 1) := by decide +kernel
theorem dS_dropBarrier_45 : decode prog_6_method_9_code 45 = .ok (.putfield 33, 3) := by decide +kernel
theorem dS_dropBarrier_48 : decode prog_6_method_9_code 48 = .ok (.return_, 1) := by decide +kernel
theorem dS_barrierIsNext_0 : decode prog_6_method_3_code 0 = .ok (.aload_n 0, 1) := by decide +kernel
theorem dS_barrierIsNext_1 : decode prog_6_method_3_code 1 = .ok (.getfield 33, 3) := by decide +kernel
theorem dS_barrierIsNext_4 : decode prog_6_method_3_code 4 = .ok (.ifCond .le 25, 3) := by decide +kernel
theorem dS_barrierIsNext_7 : decode prog_6_method_3_code 7 = .ok (.aload_n 0, 1) := by decide +kernel
theorem dS_barrierIsNext_8 : decode prog_6_method_3_code 8 = .ok (.getfield 15, 3) := by decide +kernel
theorem dS_barrierIsNext_11 : decode prog_6_method_3_code 11 = .ok (.aload_n 0, 1) := by decide +kernel
theorem dS_barrierIsNext_12 : decode prog_6_method_3_code 12 = .ok (.getfield 22, 3) := by decide +kernel
theorem dS_barrierIsNext_15 : decode prog_6_method_3_code 15 = .ok (.iconst 0, 1) := by decide +kernel
theorem dS_barrierIsNext_16 : decode prog_6_method_3_code 16 = .ok (.iaload, 1) := by decide +kernel
theorem dS_barrierIsNext_17 : decode prog_6_method_3_code 17 = .ok (.iaload, 1) := by decide +kernel
theorem dS_barrierIsNext_18 : decode prog_6_method_3_code 18 = .ok (.aload_n 0, 1) := by decide +kernel
theorem dS_barrierIsNext_19 : decode prog_6_method_3_code 19 = .ok (.getfield 36, 3) := by decide +kernel
theorem dS_barrierIsNext_22 : decode prog_6_method_3_code 22 = .ok (.if_icmp .ne 7, 3) := by decide +kernel
theorem dS_barrierIsNext_25 : decode prog_6_method_3_code 25 = .ok (.iconst 1, 1) := by decide +kernel
theorem dS_barrierIsNext_26 : decode prog_6_method_3_code 26 = .ok (.goto 4, 3) := by decide +kernel
theorem dS_barrierIsNext_29 : decode prog_6_method_3_code 29 = .ok (.iconst 0, 1) := by decide +kernel
theorem dS_barrierIsNext_30 : decode prog_6_method_3_code 30 = .ok (.ireturn, 1) := by decide +kernel
theorem dS_nextKind_0 : decode prog_6_method_4_code 0 = .ok (.aload_n 0, 1) := by decide +kernel
theorem dS_nextKind_1 : decode prog_6_method_4_code 1 = .ok (.getfield 39, 3) := by decide +kernel
theorem dS_nextKind_4 : decode prog_6_method_4_code 4 = .ok (.ifCond .eq 5, 3) := by decide +kernel
theorem dS_nextKind_7 : decode prog_6_method_4_code 7 = .ok (.iconst (-1), 1) := by decide +kernel
theorem dS_nextKind_8 : decode prog_6_method_4_code 8 = .ok (.ireturn, 1) := by decide +kernel
theorem dS_nextKind_9 : decode prog_6_method_4_code 9 = .ok (.aload_n 0, 1) := by decide +kernel
theorem dS_nextKind_10 : decode prog_6_method_4_code 10 = .ok (.invokevirtual 43, 3) := by decide +kernel
theorem dS_nextKind_13 : decode prog_6_method_4_code 13 = .ok (.ifCond .eq 5, 3) := by decide +kernel
theorem dS_nextKind_16 : decode prog_6_method_4_code 16 = .ok (.iconst 1, 1) := by decide +kernel
theorem dS_nextKind_17 : decode prog_6_method_4_code 17 = .ok (.ireturn, 1) := by decide +kernel
theorem dS_nextKind_18 : decode prog_6_method_4_code 18 = .ok (.aload_n 0, 1) := by decide +kernel
theorem dS_nextKind_19 : decode prog_6_method_4_code 19 = .ok (.getfield 36, 3) := by decide +kernel
theorem dS_nextKind_22 : decode prog_6_method_4_code 22 = .ok (.aload_n 0, 1) := by decide +kernel
theorem dS_nextKind_23 : decode prog_6_method_4_code 23 = .ok (.getfield 25, 3) := by decide +kernel
theorem dS_nextKind_26 : decode prog_6_method_4_code 26 = .ok (.if_icmp .ge 5, 3) := by decide +kernel
theorem dS_nextKind_29 : decode prog_6_method_4_code 29 = .ok (.iconst 0, 1) := by decide +kernel
theorem dS_nextKind_30 : decode prog_6_method_4_code 30 = .ok (.ireturn, 1) := by decide +kernel
theorem dS_nextKind_31 : decode prog_6_method_4_code 31 = .ok (.aload_n 0, 1) := by decide +kernel
theorem dS_nextKind_32 : decode prog_6_method_4_code 32 = .ok (.getfield 47, 3) := by decide +kernel
theorem dS_nextKind_35 : decode prog_6_method_4_code 35 = .ok (.ifCond .eq 7, 3) := by decide +kernel
theorem dS_nextKind_38 : decode prog_6_method_4_code 38 = .ok (.iconst 2, 1) := by decide +kernel
theorem dS_nextKind_39 : decode prog_6_method_4_code 39 = .ok (.goto 4, 3) := by decide +kernel
theorem dS_nextKind_42 : decode prog_6_method_4_code 42 = .ok (.iconst (-1), 1) := by decide +kernel
theorem dS_nextKind_43 : decode prog_6_method_4_code 43 = .ok (.ireturn, 1) := by decide +kernel
theorem dS_nextValue_0 : decode prog_6_method_5_code 0 = .ok (.aload_n 0, 1) := by decide +kernel
theorem dS_nextValue_1 : decode prog_6_method_5_code 1 = .ok (.invokevirtual 43, 3) := by decide +kernel
theorem dS_nextValue_4 : decode prog_6_method_5_code 4 = .ok (.ifCond .eq 11, 3) := by decide +kernel
theorem dS_nextValue_7 : decode prog_6_method_5_code 7 = .ok (.aload_n 0, 1) := by decide +kernel
theorem dS_nextValue_8 : decode prog_6_method_5_code 8 = .ok (.getfield 22, 3) := by decide +kernel
theorem dS_nextValue_11 : decode prog_6_method_5_code 11 = .ok (.iconst 0, 1) := by decide +kernel
theorem dS_nextValue_12 : decode prog_6_method_5_code 12 = .ok (.iaload, 1) := by decide +kernel
theorem dS_nextValue_13 : decode prog_6_method_5_code 13 = .ok (.i2l, 1) := by decide +kernel
theorem dS_nextValue_14 : decode prog_6_method_5_code 14 = .ok (.lreturn, 1) := by decide +kernel
theorem dS_nextValue_15 : decode prog_6_method_5_code 15 = .ok (.aload_n 0, 1) := by decide +kernel
theorem dS_nextValue_16 : decode prog_6_method_5_code 16 = .ok (.getfield 36, 3) := by decide +kernel
theorem dS_nextValue_19 : decode prog_6_method_5_code 19 = .ok (.aload_n 0, 1) := by decide +kernel
theorem dS_nextValue_20 : decode prog_6_method_5_code 20 = .ok (.getfield 25, 3) := by decide +kernel
theorem dS_nextValue_23 : decode prog_6_method_5_code 23 = .ok (.if_icmp .ge 15, 3) := by decide +kernel
theorem dS_nextValue_26 : decode prog_6_method_5_code 26 = .ok (.aload_n 0, 1) := by decide +kernel
theorem dS_nextValue_27 : decode prog_6_method_5_code 27 = .ok (.getfield 9, 3) := by decide +kernel
theorem dS_nextValue_30 : decode prog_6_method_5_code 30 = .ok (.aload_n 0, 1) := by decide +kernel
theorem dS_nextValue_31 : decode prog_6_method_5_code 31 = .ok (.getfield 36, 3) := by decide +kernel
theorem dS_nextValue_34 : decode prog_6_method_5_code 34 = .ok (.laload, 1) := by decide +kernel
theorem dS_nextValue_35 : decode prog_6_method_5_code 35 = .ok (.goto 4, 3) := by decide +kernel
theorem dS_nextValue_38 : decode prog_6_method_5_code 38 = .ok (.lconst 0, 1) := by decide +kernel
theorem dS_nextValue_39 : decode prog_6_method_5_code 39 = .ok (.lreturn, 1) := by decide +kernel
theorem dS_passNext_0 : decode prog_6_method_6_code 0 = .ok (.aload_n 0, 1) := by decide +kernel
theorem dS_passNext_1 : decode prog_6_method_6_code 1 = .ok (.invokevirtual 43, 3) := by decide +kernel
theorem dS_passNext_4 : decode prog_6_method_6_code 4 = .ok (.ifCond .eq 16, 3) := by decide +kernel
theorem dS_passNext_7 : decode prog_6_method_6_code 7 = .ok (.aload_n 0, 1) := by decide +kernel
theorem dS_passNext_8 : decode prog_6_method_6_code 8 = .ok (.aload_n 0, 1) := by decide +kernel
theorem dS_passNext_9 : decode prog_6_method_6_code 9 = .ok (.getfield 22, 3) := by decide +kernel
theorem dS_passNext_12 : decode prog_6_method_6_code 12 = .ok (.iconst 0, 1) := by decide +kernel
theorem dS_passNext_13 : decode prog_6_method_6_code 13 = .ok (.iaload, 1) := by decide +kernel
theorem dS_passNext_14 : decode prog_6_method_6_code 14 = .ok (.invokevirtual 50, 3) := by decide +kernel
theorem dS_passNext_17 : decode prog_6_method_6_code 17 = .ok (.goto 24, 3) := by decide +kernel
theorem dS_passNext_20 : decode prog_6_method_6_code 20 = .ok (.aload_n 0, 1) := by decide +kernel
theorem dS_passNext_21 : decode prog_6_method_6_code 21 = .ok (.getfield 36, 3) := by decide +kernel
theorem dS_passNext_24 : decode prog_6_method_6_code 24 = .ok (.aload_n 0, 1) := by decide +kernel
theorem dS_passNext_25 : decode prog_6_method_6_code 25 = .ok (.getfield 25, 3) := by decide +kernel
theorem dS_passNext_28 : decode prog_6_method_6_code 28 = .ok (.if_icmp .ge 13, 3) := by decide +kernel
theorem dS_passNext_31 : decode prog_6_method_6_code 31 = .ok (.aload_n 0, 1) := by decide +kernel
theorem dS_passNext_32 : decode prog_6_method_6_code 32 = .ok (.dup, 1) := by decide +kernel
theorem dS_passNext_33 : decode prog_6_method_6_code 33 = .ok (.getfield 36, 3) := by decide +kernel
theorem dS_passNext_36 : decode prog_6_method_6_code 36 = .ok (.iconst 1, 1) := by decide +kernel
theorem dS_passNext_37 : decode prog_6_method_6_code 37 = .ok (.iadd, 1) := by decide +kernel
theorem dS_passNext_38 : decode prog_6_method_6_code 38 = .ok (.putfield 36, 3) := by decide +kernel
theorem dS_passNext_41 : decode prog_6_method_6_code 41 = .ok (.return_, 1) := by decide +kernel
theorem dS_goBack_0 : decode prog_6_method_10_code 0 = .ok (.iload_n 1, 1) := by decide +kernel
theorem dS_goBack_1 : decode prog_6_method_10_code 1 = .ok (.ifCond .lt 22, 3) := by decide +kernel
theorem dS_goBack_4 : decode prog_6_method_10_code 4 = .ok (.iload_n 1, 1) := by decide +kernel
theorem dS_goBack_5 : decode prog_6_method_10_code 5 = .ok (.aload_n 0, 1) := by decide +kernel
theorem dS_goBack_6 : decode prog_6_method_10_code 6 = .ok (.getfield 15, 3) := by decide +kernel
theorem dS_goBack_9 : decode prog_6_method_10_code 9 = .ok (.arraylength, 1) := by decide +kernel
theorem dS_goBack_10 : decode prog_6_method_10_code 10 = .ok (.if_icmp .ge 13, 3) := by decide +kernel
theorem dS_goBack_13 : decode prog_6_method_10_code 13 = .ok (.aload_n 0, 1) := by decide +kernel
theorem dS_goBack_14 : decode prog_6_method_10_code 14 = .ok (.aload_n 0, 1) := by decide +kernel
theorem dS_goBack_15 : decode prog_6_method_10_code 15 = .ok (.getfield 15, 3) := by decide +kernel
theorem dS_goBack_18 : decode prog_6_method_10_code 18 = .ok (.iload_n 1, 1) := by decide +kernel
theorem dS_goBack_19 : decode prog_6_method_10_code 19 = .ok (.iaload, 1) := by decide +kernel
theorem dS_goBack_20 : decode prog_6_method_10_code 20 = .ok (.putfield 36, 3) := by decide +kernel
theorem dS_goBack_23 : decode prog_6_method_10_code 23 = .ok (.return_, 1) := by decide +kernel
theorem dS_left_0 : decode prog_6_method_7_code 0 = .ok (.aload_n 0, 1) := by decide +kernel
theorem dS_left_1 : decode prog_6_method_7_code 1 = .ok (.getfield 25, 3) := by decide +kernel
theorem dS_left_4 : decode prog_6_method_7_code 4 = .ok (.aload_n 0, 1) := by decide +kernel
theorem dS_left_5 : decode prog_6_method_7_code 5 = .ok (.getfield 36, 3) := by decide +kernel
theorem dS_left_8 : decode prog_6_method_7_code 8 = .ok (.isub, 1) := by decide +kernel
theorem dS_left_9 : decode prog_6_method_7_code 9 = .ok (.ireturn, 1) := by decide +kernel
theorem dL_init_0 : decode prog_4_method_1_code 0 = .ok (.aload_n 0, 1) := by decide +kernel
theorem dL_init_1 : decode prog_4_method_1_code 1 = .ok (.iload_n 1, 1) := by decide +kernel
theorem dL_init_2 : decode prog_4_method_1_code 2 = .ok (.iload_n 2, 1) := by decide +kernel
theorem dL_init_3 : decode prog_4_method_1_code 3 = .ok (.invokespecial 3, 3) := by decide +kernel
theorem dL_init_6 : decode prog_4_method_1_code 6 = .ok (.aload_n 0, 1) := by decide +kernel
theorem dL_init_7 : decode prog_4_method_1_code 7 = .ok (.bipush 9, 2) := by decide +kernel
theorem dL_init_9 : decode prog_4_method_1_code 9 = .ok (.newarray .int, 2) := by decide +kernel
theorem dL_init_11 : decode prog_4_method_1_code 11 = .ok (.putfield 9, 3) := by decide +kernel
theorem dL_init_14 : decode prog_4_method_1_code 14 = .ok (.aload_n 0, 1) := by decide +kernel
theorem dL_init_15 : decode prog_4_method_1_code 15 = .ok (.bipush 9, 2) := by decide +kernel
theorem dL_init_17 : decode prog_4_method_1_code 17 = .ok (.newarray .long, 2) := by decide +kernel
theorem dL_init_19 : decode prog_4_method_1_code 19 = .ok (.putfield 15, 3) := by decide +kernel
theorem dL_init_22 : decode prog_4_method_1_code 22 = .ok (.return_, 1) := by decide +kernel
theorem dL_beginMark_0 : decode prog_4_method_7_code 0 = .ok (.return_, 1) := by decide +kernel
theorem dL_dropBarrier_0 : decode prog_4_method_8_code 0 = .ok (.iconst 0, 1) := by decide +kernel
theorem dL_dropBarrier_1 : decode prog_4_method_8_code 1 = .ok (.istore_n 2, 1) := by decide +kernel
theorem dL_dropBarrier_2 : decode prog_4_method_8_code 2 = .ok (.iconst 0, 1) := by decide +kernel
theorem dL_dropBarrier_3 : decode prog_4_method_8_code 3 = .ok (.istore_n 3, 1) := by decide +kernel
theorem dL_dropBarrier_4 : decode prog_4_method_8_code 4 = .ok (.iload_n 3, 1) := by decide +kernel
theorem dL_dropBarrier_5 : decode prog_4_method_8_code 5 = .ok (.aload_n 0, 1) := by decide +kernel
theorem dL_dropBarrier_6 : decode prog_4_method_8_code 6 = .ok (.getfield 19, 3) := by decide +kernel
theorem dL_dropBarrier_9 : decode prog_4_method_8_code 9 = .ok (.if_icmp .ge 58, 3) := by decide +kernel
theorem dL_dropBarrier_12 : decode prog_4_method_8_code 12 = .ok (.aload_n 0, 1) := by decide +kernel
theorem dL_dropBarrier_13 : decode prog_4_method_8_code 13 = .ok (.getfield 9, 3) := by decide +kernel
theorem dL_dropBarrier_16 : decode prog_4_method_8_code 16 = .ok (.iload_n 3, 1) := by decide +kernel
theorem dL_dropBarrier_17 : decode prog_4_method_8_code 17 = .ok (.iaload, 1) := by decide +kernel
theorem dL_dropBarrier_18 : decode prog_4_method_8_code 18 = .ok (.iconst 1, 1) := by decide +kernel
theorem dL_dropBarrier_19 : decode prog_4_method_8_code 19 = .ok (.if_icmp .ne 15, 3) := by decide +kernel
theorem dL_dropBarrier_22 : decode prog_4_method_8_code 22 = .ok (.aload_n 0, 1) := by decide +kernel
theorem dL_dropBarrier_23 : decode prog_4_method_8_code 23 = .ok (.getfield 15, 3) := by decide +kernel
theorem dL_dropBarrier_26 : decode prog_4_method_8_code 26 = .ok (.iload_n 3, 1) := by decide +kernel
theorem dL_dropBarrier_27 : decode prog_4_method_8_code 27 = .ok (.laload, 1) := by decide +kernel
theorem dL_dropBarrier_28 : decode prog_4_method_8_code 28 = .ok (.iload_n 1, 1) := by decide +kernel
theorem dL_dropBarrier_29 : decode prog_4_method_8_code 29 = .ok (.i2l, 1) := by decide +kernel
theorem dL_dropBarrier_30 : decode prog_4_method_8_code 30 = .ok (.lcmp, 1) := by decide +kernel
theorem dL_dropBarrier_31 : decode prog_4_method_8_code 31 = .ok (.ifCond .eq 30, 3) := by decide +kernel
theorem dL_dropBarrier_34 : decode prog_4_method_8_code 34 = .ok (.aload_n 0, 1) := by decide +kernel
theorem dL_dropBarrier_35 : decode prog_4_method_8_code 35 = .ok (.getfield 9, 3) := by decide +kernel
theorem dL_dropBarrier_38 : decode prog_4_method_8_code 38 = .ok (.iload_n 2, 1) := by decide +kernel
theorem dL_dropBarrier_39 : decode prog_4_method_8_code 39 = .ok (.aload_n 0, 1) := by decide +kernel
theorem dL_dropBarrier_40 : decode prog_4_method_8_code 40 = .ok (.getfield 9, 3) := by decide +kernel
theorem dL_dropBarrier_43 : decode prog_4_method_8_code 43 = .ok (.iload_n 3, 1) := by decide +kernel
theorem dL_dropBarrier_44 : decode prog_4_method_8_code 44 = .ok (.iaload, 1) := by decide +kernel
theorem dL_dropBarrier_45 : decode prog_4_method_8_code 45 = .ok (.iastore, 1) := by decide +kernel
theorem dL_dropBarrier_46 : decode prog_4_method_8_code 46 = .ok (.aload_n 0, 1) := by decide +kernel
theorem dL_dropBarrier_47 : decode prog_4_method_8_code 47 = .ok (.getfield 15, 3) := by decide +kernel
theorem dL_dropBarrier_50 : decode prog_4_method_8_code 50 = .ok (.iload_n 2, 1) := by decide +kernel
theorem dL_dropBarrier_51 : decode prog_4_method_8_code 51 = .ok (.aload_n 0, 1) := by decide +kernel
theorem dL_dropBarrier_52 : decode prog_4_method_8_code 52 = .ok (.getfield 15, 3) := by decide +kernel
theorem dL_dropBarrier_55 : decode prog_4_method_8_code 55 = .ok (.iload_n 3, 1) := by decide +kernel
theorem dL_dropBarrier_56 : decode prog_4_method_8_code 56 = .ok (.laload, 1) := by decide +kernel
theorem dL_dropBarrier_57 : decode prog_4_method_8_code 57 = .ok (.lastore, 1) := by decide +kernel
theorem dL_dropBarrier_58 : decode prog_4_method_8_code 58 = .ok (.iinc 2 1, 3) := by decide +kernel
theorem dL_dropBarrier_61 : decode prog_4_method_8_code 61 = .ok (.iinc 3 1, 3) := by decide +kernel
theorem dL_dropBarrier_64 : decode prog_4_method_8_code 64 = .ok (.goto (-60), 3) := by decide +kernel
theorem dL_dropBarrier_67 : decode prog_4_method_8_code 67 = .ok (.aload_n 0, 1) := by decide +kernel
theorem dL_dropBarrier_68 : decode prog_4_method_8_code 68 = .ok (.iload_n 2, 1) := by decide +kernel
theorem dL_dropBarrier_69 : decode prog_4_method_8_code 69 = .ok (.putfield 19, 3) := by decide +kernel
theorem dL_dropBarrier_72 : decode prog_4_method_8_code 72 = .ok (.return_, 1) := by decide +kernel
theorem dL_nextKind_0 : decode prog_4_method_3_code 0 = .ok (.aload_n 0, 1) := by decide +kernel
theorem dL_nextKind_1 : decode prog_4_method_3_code 1 = .ok (.getfield 19, 3) := by decide +kernel
theorem dL_nextKind_4 : decode prog_4_method_3_code 4 = .ok (.ifCond .le 12, 3) := by decide +kernel
theorem dL_nextKind_7 : decode prog_4_method_3_code 7 = .ok (.aload_n 0, 1) := by decide +kernel
theorem dL_nextKind_8 : decode prog_4_method_3_code 8 = .ok (.getfield 9, 3) := by decide +kernel
theorem dL_nextKind_11 : decode prog_4_method_3_code 11 = .ok (.iconst 0, 1) := by decide +kernel
theorem dL_nextKind_12 : decode prog_4_method_3_code 12 = .ok (.iaload, 1) := by decide +kernel
theorem dL_nextKind_13 : decode prog_4_method_3_code 13 = .ok (.goto 4, 3) := by decide +kernel
theorem dL_nextKind_16 : decode prog_4_method_3_code 16 = .ok (.iconst (-1), 1) := by decide +kernel
theorem dL_nextKind_17 : decode prog_4_method_3_code 17 = .ok (.ireturn, 1) := by decide +kernel
theorem dL_nextValue_0 : decode prog_4_method_4_code 0 = .ok (.aload_n 0, 1) := by decide +kernel
theorem dL_nextValue_1 : decode prog_4_method_4_code 1 = .ok (.getfield 19, 3) := by decide +kernel
theorem dL_nextValue_4 : decode prog_4_method_4_code 4 = .ok (.ifCond .le 12, 3) := by decide +kernel
theorem dL_nextValue_7 : decode prog_4_method_4_code 7 = .ok (.aload_n 0, 1) := by decide +kernel
theorem dL_nextValue_8 : decode prog_4_method_4_code 8 = .ok (.getfield 15, 3) := by decide +kernel
theorem dL_nextValue_11 : decode prog_4_method_4_code 11 = .ok (.iconst 0, 1) := by decide +kernel
theorem dL_nextValue_12 : decode prog_4_method_4_code 12 = .ok (.laload, 1) := by decide +kernel
theorem dL_nextValue_13 : decode prog_4_method_4_code 13 = .ok (.goto 4, 3) := by decide +kernel
theorem dL_nextValue_16 : decode prog_4_method_4_code 16 = .ok (.lconst 0, 1) := by decide +kernel
theorem dL_nextValue_17 : decode prog_4_method_4_code 17 = .ok (.lreturn, 1) := by decide +kernel
theorem dL_passNext_0 : decode prog_4_method_5_code 0 = .ok (.aload_n 0, 1) := by decide +kernel
theorem dL_passNext_1 : decode prog_4_method_5_code 1 = .ok (.getfield 19, 3) := by decide +kernel
theorem dL_passNext_4 : decode prog_4_method_5_code 4 = .ok (.ifCond .le 47, 3) := by decide +kernel
theorem dL_passNext_7 : decode prog_4_method_5_code 7 = .ok (.aload_n 0, 1) := by decide +kernel
theorem dL_passNext_8 : decode prog_4_method_5_code 8 = .ok (.dup, 1) := by decide +kernel
theorem dL_passNext_9 : decode prog_4_method_5_code 9 = .ok (.getfield 19, 3) := by decide +kernel
theorem dL_passNext_12 : decode prog_4_method_5_code 12 = .ok (.iconst 1, 1) := by decide +kernel
theorem dL_passNext_13 : decode prog_4_method_5_code 13 = .ok (.isub, 1) := by decide +kernel
theorem dL_passNext_14 : decode prog_4_method_5_code 14 = .ok (.putfield 19, 3) := by decide +kernel
theorem dL_passNext_17 : decode prog_4_method_5_code 17 = .ok (.aload_n 0, 1) := by decide +kernel
theorem dL_passNext_18 : decode prog_4_method_5_code 18 = .ok (.getfield 9, 3) := by decide +kernel
theorem dL_passNext_21 : decode prog_4_method_5_code 21 = .ok (.iconst 1, 1) := by decide +kernel
theorem dL_passNext_22 : decode prog_4_method_5_code 22 = .ok (.aload_n 0, 1) := by decide +kernel
theorem dL_passNext_23 : decode prog_4_method_5_code 23 = .ok (.getfield 9, 3) := by decide +kernel
theorem dL_passNext_26 : decode prog_4_method_5_code 26 = .ok (.iconst 0, 1) := by decide +kernel
theorem dL_passNext_27 : decode prog_4_method_5_code 27 = .ok (.aload_n 0, 1) := by decide +kernel
theorem dL_passNext_28 : decode prog_4_method_5_code 28 = .ok (.getfield 19, 3) := by decide +kernel
theorem dL_passNext_31 : decode prog_4_method_5_code 31 = .ok (.invokestatic 23, 3) := by decide +kernel
theorem dL_passNext_34 : decode prog_4_method_5_code 34 = .ok (.aload_n 0, 1) := by decide +kernel
theorem dL_passNext_35 : decode prog_4_method_5_code 35 = .ok (.getfield 15, 3) := by decide +kernel
theorem dL_passNext_38 : decode prog_4_method_5_code 38 = .ok (.iconst 1, 1) := by decide +kernel
theorem dL_passNext_39 : decode prog_4_method_5_code 39 = .ok (.aload_n 0, 1) := by decide +kernel
theorem dL_passNext_40 : decode prog_4_method_5_code 40 = .ok (.getfield 15, 3) := by decide +kernel
theorem dL_passNext_43 : decode prog_4_method_5_code 43 = .ok (.iconst 0, 1) := by decide +kernel
theorem dL_passNext_44 : decode prog_4_method_5_code 44 = .ok (.aload_n 0, 1) := by decide +kernel
theorem dL_passNext_45 : decode prog_4_method_5_code 45 = .ok (.getfield 19, 3) := by decide +kernel
theorem dL_passNext_48 : decode prog_4_method_5_code 48 = .ok (.invokestatic 23, 3) := by decide +kernel
theorem dL_passNext_51 : decode prog_4_method_5_code 51 = .ok (.return_, 1) := by decide +kernel
theorem dL_put_0 : decode prog_4_method_2_code 0 = .ok (.aload_n 0, 1) := by decide +kernel
theorem dL_put_1 : decode prog_4_method_2_code 1 = .ok (.getfield 19, 3) := by decide +kernel
theorem dL_put_4 : decode prog_4_method_2_code 4 = .ok (.aload_n 0, 1) := by decide +kernel
theorem dL_put_5 : decode prog_4_method_2_code 5 = .ok (.getfield 9, 3) := by decide +kernel
theorem dL_put_8 : decode prog_4_method_2_code 8 = .ok (.arraylength, 1) := by decide +kernel
theorem dL_put_9 : decode prog_4_method_2_code 9 = .ok (.if_icmp .ge 33, 3) := by decide +kernel
theorem dL_put_12 : decode prog_4_method_2_code 12 = .ok (.aload_n 0, 1) := by decide +kernel
theorem dL_put_13 : decode prog_4_method_2_code 13 = .ok (.getfield 9, 3) := by decide +kernel
theorem dL_put_16 : decode prog_4_method_2_code 16 = .ok (.aload_n 0, 1) := by decide +kernel
theorem dL_put_17 : decode prog_4_method_2_code 17 = .ok (.getfield 19, 3) := by decide +kernel
theorem dL_put_20 : decode prog_4_method_2_code 20 = .ok (.iload_n 1, 1) := by decide +kernel
theorem dL_put_21 : decode prog_4_method_2_code 21 = .ok (.iastore, 1) := by decide +kernel
theorem dL_put_22 : decode prog_4_method_2_code 22 = .ok (.aload_n 0, 1) := by decide +kernel
theorem dL_put_23 : decode prog_4_method_2_code 23 = .ok (.getfield 15, 3) := by decide +kernel
theorem dL_put_26 : decode prog_4_method_2_code 26 = .ok (.aload_n 0, 1) := by decide +kernel
theorem dL_put_27 : decode prog_4_method_2_code 27 = .ok (.getfield 19, 3) := by decide +kernel
theorem dL_put_30 : decode prog_4_method_2_code 30 = .ok (.lload_n 2, 1) := by decide +kernel
theorem dL_put_31 : decode prog_4_method_2_code 31 = .ok (.lastore, 1) := by decide +kernel
theorem dL_put_32 : decode prog_4_method_2_code 32 = .ok (.aload_n 0, 1) := by decide +kernel
theorem dL_put_33 : decode prog_4_method_2_code 33 = .ok (.dup, 1) := by decide +kernel
theorem dL_put_34 : decode prog_4_method_2_code 34 = .ok (.getfield 19, 3) := by decide +kernel
theorem dL_put_37 : decode prog_4_method_2_code 37 = .ok (.iconst 1, 1) := by decide +kernel
theorem dL_put_38 : decode prog_4_method_2_code 38 = .ok (.iadd, 1) := by decide +kernel
theorem dL_put_39 : decode prog_4_method_2_code 39 = .ok (.putfield 19, 3) := by decide +kernel
theorem dL_put_42 : decode prog_4_method_2_code 42 = .ok (.return_, 1) := by decide +kernel
theorem dL_goBack_0 : decode prog_4_method_9_code 0 = .ok (.aload_n 0, 1) := by decide +kernel
theorem dL_goBack_1 : decode prog_4_method_9_code 1 = .ok (.iconst 0, 1) := by decide +kernel
theorem dL_goBack_2 : decode prog_4_method_9_code 2 = .ok (.putfield 19, 3) := by decide +kernel
theorem dL_goBack_5 : decode prog_4_method_9_code 5 = .ok (.return_, 1) := by decide +kernel
theorem dL_left_0 : decode prog_4_method_6_code 0 = .ok (.aload_n 0, 1) := by decide +kernel
theorem dL_left_1 : decode prog_4_method_6_code 1 = .ok (.getfield 19, 3) := by decide +kernel
theorem dL_left_4 : decode prog_4_method_6_code 4 = .ok (.ireturn, 1) := by decide +kernel
theorem dM_init_0 : decode prog_5_method_1_code 0 = .ok (.aload_n 0, 1) := by decide +kernel
theorem dM_init_1 : decode prog_5_method_1_code 1 = .ok (.invokespecial 3, 3) := by decide +kernel
theorem dM_init_4 : decode prog_5_method_1_code 4 = .ok (.aload_n 0, 1) := by decide +kernel
theorem dM_init_5 : decode prog_5_method_1_code 5 = .ok (.iconst 0, 1) := by decide +kernel
theorem dM_init_6 : decode prog_5_method_1_code 6 = .ok (.putfield 9, 3) := by decide +kernel
theorem dM_init_9 : decode prog_5_method_1_code 9 = .ok (.iload_n 2, 1) := by decide +kernel
theorem dM_init_10 : decode prog_5_method_1_code 10 = .ok (.iconst 0, 1) := by decide +kernel
theorem dM_init_11 : decode prog_5_method_1_code 11 = .ok (.invokestatic 15, 3) := by decide +kernel
theorem dM_init_14 : decode prog_5_method_1_code 14 = .ok (.istore_n 3, 1) := by decide +kernel
theorem dM_init_15 : decode prog_5_method_1_code 15 = .ok (.aload_n 0, 1) := by decide +kernel
theorem dM_init_16 : decode prog_5_method_1_code 16 = .ok (.iload_n 1, 1) := by decide +kernel
theorem dM_init_17 : decode prog_5_method_1_code 17 = .ok (.putfield 21, 3) := by decide +kernel
theorem dM_init_20 : decode prog_5_method_1_code 20 = .ok (.aload_n 0, 1) := by decide +kernel
theorem dM_init_21 : decode prog_5_method_1_code 21 = .ok (.iload_n 3, 1) := by decide +kernel
theorem dM_init_22 : decode prog_5_method_1_code 22 = .ok (.newarray .boolean, 2) := by decide +kernel
theorem dM_init_24 : decode prog_5_method_1_code 24 = .ok (.putfield 24, 3) := by decide +kernel
theorem dM_init_27 : decode prog_5_method_1_code 27 = .ok (.aload_n 0, 1) := by decide +kernel
theorem dM_init_28 : decode prog_5_method_1_code 28 = .ok (.iload_n 3, 1) := by decide +kernel
theorem dM_init_29 : decode prog_5_method_1_code 29 = .ok (.newarray .boolean, 2) := by decide +kernel
theorem dM_init_31 : decode prog_5_method_1_code 31 = .ok (.putfield 28, 3) := by decide +kernel
theorem dM_init_34 : decode prog_5_method_1_code 34 = .ok (.aload_n 0, 1) := by decide +kernel
theorem dM_init_35 : decode prog_5_method_1_code 35 = .ok (.iload_n 3, 1) := by decide +kernel
theorem dM_init_36 : decode prog_5_method_1_code 36 = .ok (.newarray .boolean, 2) := by decide +kernel
theorem dM_init_38 : decode prog_5_method_1_code 38 = .ok (.putfield 31, 3) := by decide +kernel
theorem dM_init_41 : decode prog_5_method_1_code 41 = .ok (.aload_n 0, 1) := by decide +kernel
theorem dM_init_42 : decode prog_5_method_1_code 42 = .ok (.iload_n 3, 1) := by decide +kernel
theorem dM_init_43 : decode prog_5_method_1_code 43 = .ok (.newarray .long, 2) := by decide +kernel
theorem dM_init_45 : decode prog_5_method_1_code 45 = .ok (.putfield 34, 3) := by decide +kernel
theorem dM_init_48 : decode prog_5_method_1_code 48 = .ok (.aload_n 0, 1) := by decide +kernel
theorem dM_init_49 : decode prog_5_method_1_code 49 = .ok (.iload_n 3, 1) := by decide +kernel
theorem dM_init_50 : decode prog_5_method_1_code 50 = .ok (.newarray .int, 2) := by decide +kernel
theorem dM_init_52 : decode prog_5_method_1_code 52 = .ok (.putfield 38, 3) := by decide +kernel
theorem dM_init_55 : decode prog_5_method_1_code 55 = .ok (.aload_n 0, 1) := by decide +kernel
theorem dM_init_56 : decode prog_5_method_1_code 56 = .ok (.iload_n 3, 1) := by decide +kernel
theorem dM_init_57 : decode prog_5_method_1_code 57 = .ok (.newarray .boolean, 2) := by decide +kernel
theorem dM_init_59 : decode prog_5_method_1_code 59 = .ok (.putfield 42, 3) := by decide +kernel
theorem dM_init_62 : decode prog_5_method_1_code 62 = .ok (.return_, 1) := by decide +kernel
theorem dM_keepStateOf_0 : decode prog_5_method_2_code 0 = .ok (.aload_n 1, 1) := by decide +kernel
theorem dM_keepStateOf_1 : decode prog_5_method_2_code 1 = .ok (.getfield 45, 3) := by decide +kernel
theorem dM_keepStateOf_4 : decode prog_5_method_2_code 4 = .ok (.istore_n 2, 1) := by decide +kernel
theorem dM_keepStateOf_5 : decode prog_5_method_2_code 5 = .ok (.iload_n 2, 1) := by decide +kernel
theorem dM_keepStateOf_6 : decode prog_5_method_2_code 6 = .ok (.ifCond .lt 49, 3) := by decide +kernel
theorem dM_keepStateOf_9 : decode prog_5_method_2_code 9 = .ok (.iload_n 2, 1) := by decide +kernel
theorem dM_keepStateOf_10 : decode prog_5_method_2_code 10 = .ok (.aload_n 0, 1) := by decide +kernel
theorem dM_keepStateOf_11 : decode prog_5_method_2_code 11 = .ok (.getfield 24, 3) := by decide +kernel
theorem dM_keepStateOf_14 : decode prog_5_method_2_code 14 = .ok (.arraylength, 1) := by decide +kernel
theorem dM_keepStateOf_15 : decode prog_5_method_2_code 15 = .ok (.if_icmp .ge 40, 3) := by decide +kernel
theorem dM_keepStateOf_18 : decode prog_5_method_2_code 18 = .ok (.aload_n 0, 1) := by decide +kernel
theorem dM_keepStateOf_19 : decode prog_5_method_2_code 19 = .ok (.getfield 24, 3) := by decide +kernel
theorem dM_keepStateOf_22 : decode prog_5_method_2_code 22 = .ok (.iload_n 2, 1) := by decide +kernel
theorem dM_keepStateOf_23 : decode prog_5_method_2_code 23 = .ok (.iconst 1, 1) := by decide +kernel
theorem dM_keepStateOf_24 : decode prog_5_method_2_code 24 = .ok (.bastore, 1) := by decide +kernel
theorem dM_keepStateOf_25 : decode prog_5_method_2_code 25 = .ok (.aload_n 0, 1) := by decide +kernel
theorem dM_keepStateOf_26 : decode prog_5_method_2_code 26 = .ok (.getfield 34, 3) := by decide +kernel
theorem dM_keepStateOf_29 : decode prog_5_method_2_code 29 = .ok (.iload_n 2, 1) := by decide +kernel
theorem dM_keepStateOf_30 : decode prog_5_method_2_code 30 = .ok (.aload_n 1, 1) := by decide +kernel
theorem dM_keepStateOf_31 : decode prog_5_method_2_code 31 = .ok (.getfield 48, 3) := by decide +kernel
theorem dM_keepStateOf_34 : decode prog_5_method_2_code 34 = .ok (.lastore, 1) := by decide +kernel
theorem dM_keepStateOf_35 : decode prog_5_method_2_code 35 = .ok (.aload_n 0, 1) := by decide +kernel
theorem dM_keepStateOf_36 : decode prog_5_method_2_code 36 = .ok (.getfield 38, 3) := by decide +kernel
theorem dM_keepStateOf_39 : decode prog_5_method_2_code 39 = .ok (.iload_n 2, 1) := by decide +kernel
theorem dM_keepStateOf_40 : decode prog_5_method_2_code 40 = .ok (.aload_n 1, 1) := by decide +kernel
theorem dM_keepStateOf_41 : decode prog_5_method_2_code 41 = .ok (.getfield 52, 3) := by decide +kernel
theorem dM_keepStateOf_44 : decode prog_5_method_2_code 44 = .ok (.iastore, 1) := by decide +kernel
theorem dM_keepStateOf_45 : decode prog_5_method_2_code 45 = .ok (.aload_n 0, 1) := by decide +kernel
theorem dM_keepStateOf_46 : decode prog_5_method_2_code 46 = .ok (.getfield 42, 3) := by decide +kernel
theorem dM_keepStateOf_49 : decode prog_5_method_2_code 49 = .ok (.iload_n 2, 1) := by decide +kernel
theorem dM_keepStateOf_50 : decode prog_5_method_2_code 50 = .ok (.aload_n 1, 1) := by decide +kernel
theorem dM_keepStateOf_51 : decode prog_5_method_2_code 51 = .ok (.getfield 54, 3) := by decide +kernel
theorem dM_keepStateOf_54 : decode prog_5_method_2_code 54 = .ok (.bastore, 1) := by decide +kernel
theorem dM_keepStateOf_55 : decode prog_5_method_2_code 55 = .ok (.return_, 1) := by decide +kernel
theorem dT_init_0 : decode prog_7_method_1_code 0 = .ok (.aload_n 0, 1) := by decide +kernel
theorem dT_init_1 : decode prog_7_method_1_code 1 = .ok (.invokespecial 3, 3) := by decide +kernel
theorem dT_init_4 : decode prog_7_method_1_code 4 = .ok (.aload_n 0, 1) := by decide +kernel
theorem dT_init_5 : decode prog_7_method_1_code 5 = .ok (.bipush 16, 2) := by decide +kernel
theorem dT_init_7 : decode prog_7_method_1_code 7 = .ok (.anewarray 9, 3) := by decide +kernel
theorem dT_init_10 : decode prog_7_method_1_code 10 = .ok (.putfield 11, 3) := by decide +kernel
theorem dT_init_13 : decode prog_7_method_1_code 13 = .ok (.aload_n 0, 1) := by decide +kernel
theorem dT_init_14 : decode prog_7_method_1_code 14 = .ok (.bipush 16, 2) := by decide +kernel
theorem dT_init_16 : decode prog_7_method_1_code 16 = .ok (.anewarray 17, 3) := by decide +kernel
theorem dT_init_19 : decode prog_7_method_1_code 19 = .ok (.putfield 19, 3) := by decide +kernel
theorem dT_init_22 : decode prog_7_method_1_code 22 = .ok (.aload_n 0, 1) := by decide +kernel
theorem dT_init_23 : decode prog_7_method_1_code 23 = .ok (.iload_n 1, 1) := by decide +kernel
theorem dT_init_24 : decode prog_7_method_1_code 24 = .ok (.putfield 23, 3) := by decide +kernel
theorem dT_init_27 : decode prog_7_method_1_code 27 = .ok (.return_, 1) := by decide +kernel
theorem dT_addInto_0 : decode prog_7_method_2_code 0 = .ok (.aload_n 0, 1) := by decide +kernel
theorem dT_addInto_1 : decode prog_7_method_2_code 1 = .ok (.getfield 27, 3) := by decide +kernel
theorem dT_addInto_4 : decode prog_7_method_2_code 4 = .ok (.aload_n 0, 1) := by decide +kernel
theorem dT_addInto_5 : decode prog_7_method_2_code 5 = .ok (.getfield 11, 3) := by decide +kernel
theorem dT_addInto_8 : decode prog_7_method_2_code 8 = .ok (.arraylength, 1) := by decide +kernel
theorem dT_addInto_9 : decode prog_7_method_2_code 9 = .ok (.if_icmp .ge 23, 3) := by decide +kernel
theorem dT_addInto_12 : decode prog_7_method_2_code 12 = .ok (.aload_n 0, 1) := by decide +kernel
theorem dT_addInto_13 : decode prog_7_method_2_code 13 = .ok (.getfield 11, 3) := by decide +kernel
theorem dT_addInto_16 : decode prog_7_method_2_code 16 = .ok (.aload_n 0, 1) := by decide +kernel
theorem dT_addInto_17 : decode prog_7_method_2_code 17 = .ok (.getfield 27, 3) := by decide +kernel
theorem dT_addInto_20 : decode prog_7_method_2_code 20 = .ok (.aload_n 1, 1) := by decide +kernel
theorem dT_addInto_21 : decode prog_7_method_2_code 21 = .ok (.aastore, 1) := by decide +kernel
theorem dT_addInto_22 : decode prog_7_method_2_code 22 = .ok (.aload_n 0, 1) := by decide +kernel
theorem dT_addInto_23 : decode prog_7_method_2_code 23 = .ok (.dup, 1) := by decide +kernel
theorem dT_addInto_24 : decode prog_7_method_2_code 24 = .ok (.getfield 27, 3) := by decide +kernel
theorem dT_addInto_27 : decode prog_7_method_2_code 27 = .ok (.iconst 1, 1) := by decide +kernel
theorem dT_addInto_28 : decode prog_7_method_2_code 28 = .ok (.iadd, 1) := by decide +kernel
theorem dT_addInto_29 : decode prog_7_method_2_code 29 = .ok (.putfield 27, 3) := by decide +kernel
theorem dT_addInto_32 : decode prog_7_method_2_code 32 = .ok (.return_, 1) := by decide +kernel
theorem dT_addOut_0 : decode prog_7_method_3_code 0 = .ok (.aload_n 0, 1) := by decide +kernel
theorem dT_addOut_1 : decode prog_7_method_3_code 1 = .ok (.getfield 30, 3) := by decide +kernel
theorem dT_addOut_4 : decode prog_7_method_3_code 4 = .ok (.aload_n 0, 1) := by decide +kernel
theorem dT_addOut_5 : decode prog_7_method_3_code 5 = .ok (.getfield 19, 3) := by decide +kernel
theorem dT_addOut_8 : decode prog_7_method_3_code 8 = .ok (.arraylength, 1) := by decide +kernel
theorem dT_addOut_9 : decode prog_7_method_3_code 9 = .ok (.if_icmp .ge 23, 3) := by decide +kernel
theorem dT_addOut_12 : decode prog_7_method_3_code 12 = .ok (.aload_n 0, 1) := by decide +kernel
theorem dT_addOut_13 : decode prog_7_method_3_code 13 = .ok (.getfield 19, 3) := by decide +kernel
theorem dT_addOut_16 : decode prog_7_method_3_code 16 = .ok (.aload_n 0, 1) := by decide +kernel
theorem dT_addOut_17 : decode prog_7_method_3_code 17 = .ok (.getfield 30, 3) := by decide +kernel
theorem dT_addOut_20 : decode prog_7_method_3_code 20 = .ok (.aload_n 1, 1) := by decide +kernel
theorem dT_addOut_21 : decode prog_7_method_3_code 21 = .ok (.aastore, 1) := by decide +kernel
theorem dT_addOut_22 : decode prog_7_method_3_code 22 = .ok (.aload_n 0, 1) := by decide +kernel
theorem dT_addOut_23 : decode prog_7_method_3_code 23 = .ok (.dup, 1) := by decide +kernel
theorem dT_addOut_24 : decode prog_7_method_3_code 24 = .ok (.getfield 30, 3) := by decide +kernel
theorem dT_addOut_27 : decode prog_7_method_3_code 27 = .ok (.iconst 1, 1) := by decide +kernel
theorem dT_addOut_28 : decode prog_7_method_3_code 28 = .ok (.iadd, 1) := by decide +kernel
theorem dT_addOut_29 : decode prog_7_method_3_code 29 = .ok (.putfield 30, 3) := by decide +kernel
theorem dT_addOut_32 : decode prog_7_method_3_code 32 = .ok (.return_, 1) := by decide +kernel
theorem dT_hasOpen_0 : decode prog_7_method_4_code 0 = .ok (.iconst 0, 1) := by decide +kernel
theorem dT_hasOpen_1 : decode prog_7_method_4_code 1 = .ok (.istore_n 1, 1) := by decide +kernel
theorem dT_hasOpen_2 : decode prog_7_method_4_code 2 = .ok (.iload_n 1, 1) := by decide +kernel
theorem dT_hasOpen_3 : decode prog_7_method_4_code 3 = .ok (.aload_n 0, 1) := by decide +kernel
theorem dT_hasOpen_4 : decode prog_7_method_4_code 4 = .ok (.getfield 27, 3) := by decide +kernel
theorem dT_hasOpen_7 : decode prog_7_method_4_code 7 = .ok (.if_icmp .ge 36, 3) := by decide +kernel
theorem dT_hasOpen_10 : decode prog_7_method_4_code 10 = .ok (.aload_n 0, 1) := by decide +kernel
theorem dT_hasOpen_11 : decode prog_7_method_4_code 11 = .ok (.getfield 11, 3) := by decide +kernel
theorem dT_hasOpen_14 : decode prog_7_method_4_code 14 = .ok (.iload_n 1, 1) := by decide +kernel
theorem dT_hasOpen_15 : decode prog_7_method_4_code 15 = .ok (.aaload, 1) := by decide +kernel
theorem dT_hasOpen_16 : decode prog_7_method_4_code 16 = .ok (.getfield 33, 3) := by decide +kernel
theorem dT_hasOpen_19 : decode prog_7_method_4_code 19 = .ok (.iconst (-1), 1) := by decide +kernel
theorem dT_hasOpen_20 : decode prog_7_method_4_code 20 = .ok (.if_icmp .ne 17, 3) := by decide +kernel
theorem dT_hasOpen_23 : decode prog_7_method_4_code 23 = .ok (.aload_n 0, 1) := by decide +kernel
theorem dT_hasOpen_24 : decode prog_7_method_4_code 24 = .ok (.getfield 11, 3) := by decide +kernel
theorem dT_hasOpen_27 : decode prog_7_method_4_code 27 = .ok (.iload_n 1, 1) := by decide +kernel
theorem dT_hasOpen_28 : decode prog_7_method_4_code 28 = .ok (.aaload, 1) := by decide +kernel
theorem dT_hasOpen_29 : decode prog_7_method_4_code 29 = .ok (.getfield 36, 3) := by decide +kernel
theorem dT_hasOpen_32 : decode prog_7_method_4_code 32 = .ok (.ifCond .ne 5, 3) := by decide +kernel
theorem dT_hasOpen_35 : decode prog_7_method_4_code 35 = .ok (.iconst 1, 1) := by decide +kernel
theorem dT_hasOpen_36 : decode prog_7_method_4_code 36 = .ok (.ireturn, 1) := by decide +kernel
theorem dT_hasOpen_37 : decode prog_7_method_4_code 37 = .ok (.iinc 1 1, 3) := by decide +kernel
theorem dT_hasOpen_40 : decode prog_7_method_4_code 40 = .ok (.goto (-38), 3) := by decide +kernel
theorem dT_hasOpen_43 : decode prog_7_method_4_code 43 = .ok (.iconst 0, 1) := by decide +kernel
theorem dT_hasOpen_44 : decode prog_7_method_4_code 44 = .ok (.ireturn, 1) := by decide +kernel
theorem dT_nextOffer_0 : decode prog_7_method_7_code 0 = .ok (.iconst 0, 1) := by decide +kernel
theorem dT_nextOffer_1 : decode prog_7_method_7_code 1 = .ok (.istore_n 1, 1) := by decide +kernel
theorem dT_nextOffer_2 : decode prog_7_method_7_code 2 = .ok (.iload_n 1, 1) := by decide +kernel
theorem dT_nextOffer_3 : decode prog_7_method_7_code 3 = .ok (.aload_n 0, 1) := by decide +kernel
theorem dT_nextOffer_4 : decode prog_7_method_7_code 4 = .ok (.getfield 27, 3) := by decide +kernel
theorem dT_nextOffer_7 : decode prog_7_method_7_code 7 = .ok (.if_icmp .ge 59, 3) := by decide +kernel
theorem dT_nextOffer_10 : decode prog_7_method_7_code 10 = .ok (.aload_n 0, 1) := by decide +kernel
theorem dT_nextOffer_11 : decode prog_7_method_7_code 11 = .ok (.getfield 40, 3) := by decide +kernel
theorem dT_nextOffer_14 : decode prog_7_method_7_code 14 = .ok (.iload_n 1, 1) := by decide +kernel
theorem dT_nextOffer_15 : decode prog_7_method_7_code 15 = .ok (.iadd, 1) := by decide +kernel
theorem dT_nextOffer_16 : decode prog_7_method_7_code 16 = .ok (.istore_n 2, 1) := by decide +kernel
theorem dT_nextOffer_17 : decode prog_7_method_7_code 17 = .ok (.iload_n 2, 1) := by decide +kernel
theorem dT_nextOffer_18 : decode prog_7_method_7_code 18 = .ok (.aload_n 0, 1) := by decide +kernel
theorem dT_nextOffer_19 : decode prog_7_method_7_code 19 = .ok (.getfield 27, 3) := by decide +kernel
theorem dT_nextOffer_22 : decode prog_7_method_7_code 22 = .ok (.if_icmp .lt 10, 3) := by decide +kernel
theorem dT_nextOffer_25 : decode prog_7_method_7_code 25 = .ok (.iload_n 2, 1) := by decide +kernel
theorem dT_nextOffer_26 : decode prog_7_method_7_code 26 = .ok (.aload_n 0, 1) := by decide +kernel
theorem dT_nextOffer_27 : decode prog_7_method_7_code 27 = .ok (.getfield 27, 3) := by decide +kernel
theorem dT_nextOffer_30 : decode prog_7_method_7_code 30 = .ok (.isub, 1) := by decide +kernel
theorem dT_nextOffer_31 : decode prog_7_method_7_code 31 = .ok (.istore_n 2, 1) := by decide +kernel
theorem dT_nextOffer_32 : decode prog_7_method_7_code 32 = .ok (.aload_n 0, 1) := by decide +kernel
theorem dT_nextOffer_33 : decode prog_7_method_7_code 33 = .ok (.getfield 11, 3) := by decide +kernel
theorem dT_nextOffer_36 : decode prog_7_method_7_code 36 = .ok (.iload_n 2, 1) := by decide +kernel
theorem dT_nextOffer_37 : decode prog_7_method_7_code 37 = .ok (.aaload, 1) := by decide +kernel
theorem dT_nextOffer_38 : decode prog_7_method_7_code 38 = .ok (.getfield 33, 3) := by decide +kernel
theorem dT_nextOffer_41 : decode prog_7_method_7_code 41 = .ok (.iconst (-1), 1) := by decide +kernel
theorem dT_nextOffer_42 : decode prog_7_method_7_code 42 = .ok (.if_icmp .ne 18, 3) := by decide +kernel
theorem dT_nextOffer_45 : decode prog_7_method_7_code 45 = .ok (.aload_n 0, 1) := by decide +kernel
theorem dT_nextOffer_46 : decode prog_7_method_7_code 46 = .ok (.getfield 11, 3) := by decide +kernel
theorem dT_nextOffer_49 : decode prog_7_method_7_code 49 = .ok (.iload_n 2, 1) := by decide +kernel
theorem dT_nextOffer_50 : decode prog_7_method_7_code 50 = .ok (.aaload, 1) := by decide +kernel
theorem dT_nextOffer_51 : decode prog_7_method_7_code 51 = .ok (.invokevirtual 43, 3) := by decide +kernel
theorem dT_nextOffer_54 : decode prog_7_method_7_code 54 = .ok (.iconst (-1), 1) := by decide +kernel
theorem dT_nextOffer_55 : decode prog_7_method_7_code 55 = .ok (.if_icmp .eq 5, 3) := by decide +kernel
theorem dT_nextOffer_58 : decode prog_7_method_7_code 58 = .ok (.iload_n 2, 1) := by decide +kernel
theorem dT_nextOffer_59 : decode prog_7_method_7_code 59 = .ok (.ireturn, 1) := by decide +kernel
theorem dT_nextOffer_60 : decode prog_7_method_7_code 60 = .ok (.iinc 1 1, 3) := by decide +kernel
theorem dT_nextOffer_63 : decode prog_7_method_7_code 63 = .ok (.goto (-61), 3) := by decide +kernel
theorem dT_nextOffer_66 : decode prog_7_method_7_code 66 = .ok (.iconst (-1), 1) := by decide +kernel
theorem dT_nextOffer_67 : decode prog_7_method_7_code 67 = .ok (.ireturn, 1) := by decide +kernel
theorem dT_hasCredits_0 : decode prog_7_method_9_code 0 = .ok (.iconst 0, 1) := by decide +kernel
theorem dT_hasCredits_1 : decode prog_7_method_9_code 1 = .ok (.istore_n 1, 1) := by decide +kernel
theorem dT_hasCredits_2 : decode prog_7_method_9_code 2 = .ok (.iload_n 1, 1) := by decide +kernel
theorem dT_hasCredits_3 : decode prog_7_method_9_code 3 = .ok (.aload_n 0, 1) := by decide +kernel
theorem dT_hasCredits_4 : decode prog_7_method_9_code 4 = .ok (.getfield 30, 3) := by decide +kernel
theorem dT_hasCredits_7 : decode prog_7_method_9_code 7 = .ok (.if_icmp .ge 25, 3) := by decide +kernel
theorem dT_hasCredits_10 : decode prog_7_method_9_code 10 = .ok (.aload_n 0, 1) := by decide +kernel
theorem dT_hasCredits_11 : decode prog_7_method_9_code 11 = .ok (.getfield 19, 3) := by decide +kernel
theorem dT_hasCredits_14 : decode prog_7_method_9_code 14 = .ok (.iload_n 1, 1) := by decide +kernel
theorem dT_hasCredits_15 : decode prog_7_method_9_code 15 = .ok (.aaload, 1) := by decide +kernel
theorem dT_hasCredits_16 : decode prog_7_method_9_code 16 = .ok (.getfield 47, 3) := by decide +kernel
theorem dT_hasCredits_19 : decode prog_7_method_9_code 19 = .ok (.bipush 8, 2) := by decide +kernel
theorem dT_hasCredits_21 : decode prog_7_method_9_code 21 = .ok (.if_icmp .lt 5, 3) := by decide +kernel
theorem dT_hasCredits_24 : decode prog_7_method_9_code 24 = .ok (.iconst 0, 1) := by decide +kernel
theorem dT_hasCredits_25 : decode prog_7_method_9_code 25 = .ok (.ireturn, 1) := by decide +kernel
theorem dT_hasCredits_26 : decode prog_7_method_9_code 26 = .ok (.iinc 1 1, 3) := by decide +kernel
theorem dT_hasCredits_29 : decode prog_7_method_9_code 29 = .ok (.goto (-27), 3) := by decide +kernel
theorem dT_hasCredits_32 : decode prog_7_method_9_code 32 = .ok (.iconst 1, 1) := by decide +kernel
theorem dT_hasCredits_33 : decode prog_7_method_9_code 33 = .ok (.ireturn, 1) := by decide +kernel
theorem dT_lookFromBehind_0 : decode prog_7_method_8_code 0 = .ok (.aload_n 0, 1) := by decide +kernel
theorem dT_lookFromBehind_1 : decode prog_7_method_8_code 1 = .ok (.iload_n 1, 1) := by decide +kernel
theorem dT_lookFromBehind_2 : decode prog_7_method_8_code 2 = .ok (.iconst 1, 1) := by decide +kernel
theorem dT_lookFromBehind_3 : decode prog_7_method_8_code 3 = .ok (.iadd, 1) := by decide +kernel
theorem dT_lookFromBehind_4 : decode prog_7_method_8_code 4 = .ok (.aload_n 0, 1) := by decide +kernel
theorem dT_lookFromBehind_5 : decode prog_7_method_8_code 5 = .ok (.getfield 27, 3) := by decide +kernel
theorem dT_lookFromBehind_8 : decode prog_7_method_8_code 8 = .ok (.if_icmp .ge 9, 3) := by decide +kernel
theorem dT_lookFromBehind_11 : decode prog_7_method_8_code 11 = .ok (.iload_n 1, 1) := by decide +kernel
theorem dT_lookFromBehind_12 : decode prog_7_method_8_code 12 = .ok (.iconst 1, 1) := by decide +kernel
theorem dT_lookFromBehind_13 : decode prog_7_method_8_code 13 = .ok (.iadd, 1) := by decide +kernel
theorem dT_lookFromBehind_14 : decode prog_7_method_8_code 14 = .ok (.goto 4, 3) := by decide +kernel
theorem dT_lookFromBehind_17 : decode prog_7_method_8_code 17 = .ok (.iconst 0, 1) := by decide +kernel
theorem dT_lookFromBehind_18 : decode prog_7_method_8_code 18 = .ok (.putfield 40, 3) := by decide +kernel
theorem dT_lookFromBehind_21 : decode prog_7_method_8_code 21 = .ok (.return_, 1) := by decide +kernel
theorem dT_putOut_0 : decode prog_7_method_10_code 0 = .ok (.iconst 0, 1) := by decide +kernel
theorem dT_putOut_1 : decode prog_7_method_10_code 1 = .ok (.istore 4, 2) := by decide +kernel
theorem dT_putOut_3 : decode prog_7_method_10_code 3 = .ok (.iload 4, 2) := by decide +kernel
theorem dT_putOut_5 : decode prog_7_method_10_code 5 = .ok (.aload_n 0, 1) := by decide +kernel
theorem dT_putOut_6 : decode prog_7_method_10_code 6 = .ok (.getfield 30, 3) := by decide +kernel
theorem dT_putOut_9 : decode prog_7_method_10_code 9 = .ok (.if_icmp .ge 21, 3) := by decide +kernel
theorem dT_putOut_12 : decode prog_7_method_10_code 12 = .ok (.aload_n 0, 1) := by decide +kernel
theorem dT_putOut_13 : decode prog_7_method_10_code 13 = .ok (.getfield 19, 3) := by decide +kernel
theorem dT_putOut_16 : decode prog_7_method_10_code 16 = .ok (.iload 4, 2) := by decide +kernel
theorem dT_putOut_18 : decode prog_7_method_10_code 18 = .ok (.aaload, 1) := by decide +kernel
theorem dT_putOut_19 : decode prog_7_method_10_code 19 = .ok (.iload_n 1, 1) := by decide +kernel
theorem dT_putOut_20 : decode prog_7_method_10_code 20 = .ok (.lload_n 2, 1) := by decide +kernel
theorem dT_putOut_21 : decode prog_7_method_10_code 21 = .ok (.invokevirtual 50, 3) := by decide +kernel
theorem dT_putOut_24 : decode prog_7_method_10_code 24 = .ok (.iinc 4 1, 3) := by decide +kernel
theorem dT_putOut_27 : decode prog_7_method_10_code 27 = .ok (.goto (-24), 3) := by decide +kernel
theorem dT_putOut_30 : decode prog_7_method_10_code 30 = .ok (.return_, 1) := by decide +kernel
theorem dT_heldFor_0 : decode prog_7_method_5_code 0 = .ok (.iconst 0, 1) := by decide +kernel
theorem dT_heldFor_1 : decode prog_7_method_5_code 1 = .ok (.istore_n 1, 1) := by decide +kernel
theorem dT_heldFor_2 : decode prog_7_method_5_code 2 = .ok (.iload_n 1, 1) := by decide +kernel
theorem dT_heldFor_3 : decode prog_7_method_5_code 3 = .ok (.aload_n 0, 1) := by decide +kernel
theorem dT_heldFor_4 : decode prog_7_method_5_code 4 = .ok (.getfield 27, 3) := by decide +kernel
theorem dT_heldFor_7 : decode prog_7_method_5_code 7 = .ok (.if_icmp .ge 32, 3) := by decide +kernel
theorem dT_heldFor_10 : decode prog_7_method_5_code 10 = .ok (.aload_n 0, 1) := by decide +kernel
theorem dT_heldFor_11 : decode prog_7_method_5_code 11 = .ok (.getfield 11, 3) := by decide +kernel
theorem dT_heldFor_14 : decode prog_7_method_5_code 14 = .ok (.iload_n 1, 1) := by decide +kernel
