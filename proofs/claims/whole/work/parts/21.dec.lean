theorem dK_init_0 : decode prog_2_method_1_code 0 = .ok (.aload_n 0, 1) := by decide +kernel
theorem dK_init_1 : decode prog_2_method_1_code 1 = .ok (.invokespecial 3, 3) := by decide +kernel
theorem dK_init_4 : decode prog_2_method_1_code 4 = .ok (.aload_n 0, 1) := by decide +kernel
theorem dK_init_5 : decode prog_2_method_1_code 5 = .ok (.sipush 520, 3) := by decide +kernel
theorem dK_init_8 : decode prog_2_method_1_code 8 = .ok (.newarray .int, 2) := by decide +kernel
theorem dK_init_10 : decode prog_2_method_1_code 10 = .ok (.putfield 9, 3) := by decide +kernel
theorem dK_init_13 : decode prog_2_method_1_code 13 = .ok (.aload_n 0, 1) := by decide +kernel
theorem dK_init_14 : decode prog_2_method_1_code 14 = .ok (.sipush 520, 3) := by decide +kernel
theorem dK_init_17 : decode prog_2_method_1_code 17 = .ok (.newarray .int, 2) := by decide +kernel
theorem dK_init_19 : decode prog_2_method_1_code 19 = .ok (.putfield 15, 3) := by decide +kernel
theorem dK_init_22 : decode prog_2_method_1_code 22 = .ok (.return_, 1) := by decide +kernel
theorem dK_add_0 : decode prog_2_method_2_code 0 = .ok (.aload_n 0, 1) := by decide +kernel
theorem dK_add_1 : decode prog_2_method_2_code 1 = .ok (.getfield 18, 3) := by decide +kernel
theorem dK_add_4 : decode prog_2_method_2_code 4 = .ok (.sipush 520, 3) := by decide +kernel
theorem dK_add_7 : decode prog_2_method_2_code 7 = .ok (.if_icmp .ge 50, 3) := by decide +kernel
theorem dK_add_10 : decode prog_2_method_2_code 10 = .ok (.aload_n 0, 1) := by decide +kernel
theorem dK_add_11 : decode prog_2_method_2_code 11 = .ok (.getfield 22, 3) := by decide +kernel
theorem dK_add_14 : decode prog_2_method_2_code 14 = .ok (.aload_n 0, 1) := by decide +kernel
theorem dK_add_15 : decode prog_2_method_2_code 15 = .ok (.getfield 18, 3) := by decide +kernel
theorem dK_add_18 : decode prog_2_method_2_code 18 = .ok (.iadd, 1) := by decide +kernel
theorem dK_add_19 : decode prog_2_method_2_code 19 = .ok (.istore_n 3, 1) := by decide +kernel
theorem dK_add_20 : decode prog_2_method_2_code 20 = .ok (.iload_n 3, 1) := by decide +kernel
theorem dK_add_21 : decode prog_2_method_2_code 21 = .ok (.sipush 520, 3) := by decide +kernel
theorem dK_add_24 : decode prog_2_method_2_code 24 = .ok (.if_icmp .lt 9, 3) := by decide +kernel
theorem dK_add_27 : decode prog_2_method_2_code 27 = .ok (.iinc 3 (-520), 6) := by decide +kernel
theorem dK_add_33 : decode prog_2_method_2_code 33 = .ok (.aload_n 0, 1) := by decide +kernel
theorem dK_add_34 : decode prog_2_method_2_code 34 = .ok (.getfield 9, 3) := by decide +kernel
theorem dK_add_37 : decode prog_2_method_2_code 37 = .ok (.iload_n 3, 1) := by decide +kernel
theorem dK_add_38 : decode prog_2_method_2_code 38 = .ok (.iload_n 1, 1) := by decide +kernel
theorem dK_add_39 : decode prog_2_method_2_code 39 = .ok (.iastore, 1) := by decide +kernel
theorem dK_add_40 : decode prog_2_method_2_code 40 = .ok (.aload_n 0, 1) := by decide +kernel
theorem dK_add_41 : decode prog_2_method_2_code 41 = .ok (.getfield 15, 3) := by decide +kernel
theorem dK_add_44 : decode prog_2_method_2_code 44 = .ok (.iload_n 3, 1) := by decide +kernel
theorem dK_add_45 : decode prog_2_method_2_code 45 = .ok (.iload_n 2, 1) := by decide +kernel
theorem dK_add_46 : decode prog_2_method_2_code 46 = .ok (.iastore, 1) := by decide +kernel
theorem dK_add_47 : decode prog_2_method_2_code 47 = .ok (.aload_n 0, 1) := by decide +kernel
theorem dK_add_48 : decode prog_2_method_2_code 48 = .ok (.dup, 1) := by decide +kernel
theorem dK_add_49 : decode prog_2_method_2_code 49 = .ok (.getfield 18, 3) := by decide +kernel
theorem dK_add_52 : decode prog_2_method_2_code 52 = .ok (.iconst 1, 1) := by decide +kernel
theorem dK_add_53 : decode prog_2_method_2_code 53 = .ok (.iadd, 1) := by decide +kernel
theorem dK_add_54 : decode prog_2_method_2_code 54 = .ok (.putfield 18, 3) := by decide +kernel
theorem dK_add_57 : decode prog_2_method_2_code 57 = .ok (.return_, 1) := by decide +kernel
theorem dK_firstMark_0 : decode prog_2_method_3_code 0 = .ok (.aload_n 0, 1) := by decide +kernel
theorem dK_firstMark_1 : decode prog_2_method_3_code 1 = .ok (.getfield 9, 3) := by decide +kernel
theorem dK_firstMark_4 : decode prog_2_method_3_code 4 = .ok (.aload_n 0, 1) := by decide +kernel
theorem dK_firstMark_5 : decode prog_2_method_3_code 5 = .ok (.getfield 22, 3) := by decide +kernel
theorem dK_firstMark_8 : decode prog_2_method_3_code 8 = .ok (.iaload, 1) := by decide +kernel
theorem dK_firstMark_9 : decode prog_2_method_3_code 9 = .ok (.ireturn, 1) := by decide +kernel
theorem dK_firstTask_0 : decode prog_2_method_4_code 0 = .ok (.aload_n 0, 1) := by decide +kernel
theorem dK_firstTask_1 : decode prog_2_method_4_code 1 = .ok (.getfield 15, 3) := by decide +kernel
theorem dK_firstTask_4 : decode prog_2_method_4_code 4 = .ok (.aload_n 0, 1) := by decide +kernel
theorem dK_firstTask_5 : decode prog_2_method_4_code 5 = .ok (.getfield 22, 3) := by decide +kernel
theorem dK_firstTask_8 : decode prog_2_method_4_code 8 = .ok (.iaload, 1) := by decide +kernel
theorem dK_firstTask_9 : decode prog_2_method_4_code 9 = .ok (.ireturn, 1) := by decide +kernel
theorem dK_dropFirst_0 : decode prog_2_method_5_code 0 = .ok (.aload_n 0, 1) := by decide +kernel
theorem dK_dropFirst_1 : decode prog_2_method_5_code 1 = .ok (.getfield 18, 3) := by decide +kernel
theorem dK_dropFirst_4 : decode prog_2_method_5_code 4 = .ok (.ifCond .le 39, 3) := by decide +kernel
theorem dK_dropFirst_7 : decode prog_2_method_5_code 7 = .ok (.aload_n 0, 1) := by decide +kernel
theorem dK_dropFirst_8 : decode prog_2_method_5_code 8 = .ok (.dup, 1) := by decide +kernel
theorem dK_dropFirst_9 : decode prog_2_method_5_code 9 = .ok (.getfield 18, 3) := by decide +kernel
theorem dK_dropFirst_12 : decode prog_2_method_5_code 12 = .ok (.iconst 1, 1) := by decide +kernel
theorem dK_dropFirst_13 : decode prog_2_method_5_code 13 = .ok (.isub, 1) := by decide +kernel
theorem dK_dropFirst_14 : decode prog_2_method_5_code 14 = .ok (.putfield 18, 3) := by decide +kernel
theorem dK_dropFirst_17 : decode prog_2_method_5_code 17 = .ok (.aload_n 0, 1) := by decide +kernel
theorem dK_dropFirst_18 : decode prog_2_method_5_code 18 = .ok (.aload_n 0, 1) := by decide +kernel
theorem dK_dropFirst_19 : decode prog_2_method_5_code 19 = .ok (.getfield 22, 3) := by decide +kernel
theorem dK_dropFirst_22 : decode prog_2_method_5_code 22 = .ok (.iconst 1, 1) := by decide +kernel
theorem dK_dropFirst_23 : decode prog_2_method_5_code 23 = .ok (.iadd, 1) := by decide +kernel
theorem dK_dropFirst_24 : decode prog_2_method_5_code 24 = .ok (.sipush 520, 3) := by decide +kernel
theorem dK_dropFirst_27 : decode prog_2_method_5_code 27 = .ok (.if_icmp .ge 12, 3) := by decide +kernel
theorem dK_dropFirst_30 : decode prog_2_method_5_code 30 = .ok (.aload_n 0, 1) := by decide +kernel
theorem dK_dropFirst_31 : decode prog_2_method_5_code 31 = .ok (.getfield 22, 3) := by decide +kernel
theorem dK_dropFirst_34 : decode prog_2_method_5_code 34 = .ok (.iconst 1, 1) := by decide +kernel
theorem dK_dropFirst_35 : decode prog_2_method_5_code 35 = .ok (.iadd, 1) := by decide +kernel
theorem dK_dropFirst_36 : decode prog_2_method_5_code 36 = .ok (.goto 4, 3) := by decide +kernel
theorem dK_dropFirst_39 : decode prog_2_method_5_code 39 = .ok (.iconst 0, 1) := by decide +kernel
theorem dK_dropFirst_40 : decode prog_2_method_5_code 40 = .ok (.putfield 22, 3) := by decide +kernel
theorem dK_dropFirst_43 : decode prog_2_method_5_code 43 = .ok (.return_, 1) := by decide +kernel
theorem dK_clear_0 : decode prog_2_method_6_code 0 = .ok (.aload_n 0, 1) := by decide +kernel
theorem dK_clear_1 : decode prog_2_method_6_code 1 = .ok (.iconst 0, 1) := by decide +kernel
theorem dK_clear_2 : decode prog_2_method_6_code 2 = .ok (.putfield 22, 3) := by decide +kernel
theorem dK_clear_5 : decode prog_2_method_6_code 5 = .ok (.aload_n 0, 1) := by decide +kernel
theorem dK_clear_6 : decode prog_2_method_6_code 6 = .ok (.iconst 0, 1) := by decide +kernel
theorem dK_clear_7 : decode prog_2_method_6_code 7 = .ok (.putfield 18, 3) := by decide +kernel
theorem dK_clear_10 : decode prog_2_method_6_code 10 = .ok (.return_, 1) := by decide +kernel
