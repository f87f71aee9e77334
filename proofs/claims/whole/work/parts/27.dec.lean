theorem dR_exact_156 : decode prog_9_method_39_code 156 = .ok (.iload_n 3, 1) := by decide +kernel
theorem dR_exact_157 : decode prog_9_method_39_code 157 = .ok (.iadd, 1) := by decide +kernel
theorem dR_exact_158 : decode prog_9_method_39_code 158 = .ok (.iaload, 1) := by decide +kernel
theorem dR_exact_159 : decode prog_9_method_39_code 159 = .ok (.i2l, 1) := by decide +kernel
theorem dR_exact_160 : decode prog_9_method_39_code 160 = .ok (.lcmp, 1) := by decide +kernel
theorem dR_exact_161 : decode prog_9_method_39_code 161 = .ok (.ifCond .ne 7, 3) := by decide +kernel
theorem dR_exact_164 : decode prog_9_method_39_code 164 = .ok (.iconst 1, 1) := by decide +kernel
theorem dR_exact_165 : decode prog_9_method_39_code 165 = .ok (.goto 4, 3) := by decide +kernel
theorem dR_exact_168 : decode prog_9_method_39_code 168 = .ok (.iconst 0, 1) := by decide +kernel
theorem dR_exact_169 : decode prog_9_method_39_code 169 = .ok (.iand, 1) := by decide +kernel
theorem dR_exact_170 : decode prog_9_method_39_code 170 = .ok (.istore_n 2, 1) := by decide +kernel
theorem dR_exact_171 : decode prog_9_method_39_code 171 = .ok (.iinc 3 1, 3) := by decide +kernel
theorem dR_exact_174 : decode prog_9_method_39_code 174 = .ok (.goto (-62), 3) := by decide +kernel
theorem dR_exact_177 : decode prog_9_method_39_code 177 = .ok (.iload_n 2, 1) := by decide +kernel
theorem dR_exact_178 : decode prog_9_method_39_code 178 = .ok (.ireturn, 1) := by decide +kernel
theorem dR_held_0 : decode prog_9_method_41_code 0 = .ok (.aload_n 0, 1) := by decide +kernel
theorem dR_held_1 : decode prog_9_method_41_code 1 = .ok (.aload_n 0, 1) := by decide +kernel
theorem dR_held_2 : decode prog_9_method_41_code 2 = .ok (.iload_n 1, 1) := by decide +kernel
theorem dR_held_3 : decode prog_9_method_41_code 3 = .ok (.invokevirtual 124, 3) := by decide +kernel
theorem dR_held_6 : decode prog_9_method_41_code 6 = .ok (.ifCond .eq 7, 3) := by decide +kernel
theorem dR_held_9 : decode prog_9_method_41_code 9 = .ok (.iconst 0, 1) := by decide +kernel
theorem dR_held_10 : decode prog_9_method_41_code 10 = .ok (.goto 4, 3) := by decide +kernel
theorem dR_held_13 : decode prog_9_method_41_code 13 = .ok (.iconst 1, 1) := by decide +kernel
theorem dR_held_14 : decode prog_9_method_41_code 14 = .ok (.putfield 100, 3) := by decide +kernel
theorem dR_held_17 : decode prog_9_method_41_code 17 = .ok (.aload_n 0, 1) := by decide +kernel
theorem dR_held_18 : decode prog_9_method_41_code 18 = .ok (.getfield 100, 3) := by decide +kernel
theorem dR_held_21 : decode prog_9_method_41_code 21 = .ok (.ifCond .le 7, 3) := by decide +kernel
theorem dR_held_24 : decode prog_9_method_41_code 24 = .ok (.iconst 0, 1) := by decide +kernel
theorem dR_held_25 : decode prog_9_method_41_code 25 = .ok (.goto 9, 3) := by decide +kernel
theorem dR_held_28 : decode prog_9_method_41_code 28 = .ok (.aload_n 0, 1) := by decide +kernel
theorem dR_held_29 : decode prog_9_method_41_code 29 = .ok (.getfield 54, 3) := by decide +kernel
theorem dR_held_32 : decode prog_9_method_41_code 32 = .ok (.iload_n 1, 1) := by decide +kernel
theorem dR_held_33 : decode prog_9_method_41_code 33 = .ok (.iaload, 1) := by decide +kernel
theorem dR_held_34 : decode prog_9_method_41_code 34 = .ok (.ireturn, 1) := by decide +kernel
theorem dR_waiting_0 : decode prog_9_method_42_code 0 = .ok (.aload_n 0, 1) := by decide +kernel
theorem dR_waiting_1 : decode prog_9_method_42_code 1 = .ok (.aload_n 0, 1) := by decide +kernel
theorem dR_waiting_2 : decode prog_9_method_42_code 2 = .ok (.iload_n 1, 1) := by decide +kernel
theorem dR_waiting_3 : decode prog_9_method_42_code 3 = .ok (.invokevirtual 124, 3) := by decide +kernel
theorem dR_waiting_6 : decode prog_9_method_42_code 6 = .ok (.ifCond .eq 7, 3) := by decide +kernel
theorem dR_waiting_9 : decode prog_9_method_42_code 9 = .ok (.iconst 0, 1) := by decide +kernel
theorem dR_waiting_10 : decode prog_9_method_42_code 10 = .ok (.goto 4, 3) := by decide +kernel
theorem dR_waiting_13 : decode prog_9_method_42_code 13 = .ok (.iconst 1, 1) := by decide +kernel
theorem dR_waiting_14 : decode prog_9_method_42_code 14 = .ok (.putfield 100, 3) := by decide +kernel
theorem dR_waiting_17 : decode prog_9_method_42_code 17 = .ok (.aload_n 0, 1) := by decide +kernel
theorem dR_waiting_18 : decode prog_9_method_42_code 18 = .ok (.getfield 100, 3) := by decide +kernel
theorem dR_waiting_21 : decode prog_9_method_42_code 21 = .ok (.ifCond .le 7, 3) := by decide +kernel
theorem dR_waiting_24 : decode prog_9_method_42_code 24 = .ok (.iconst 0, 1) := by decide +kernel
theorem dR_waiting_25 : decode prog_9_method_42_code 25 = .ok (.goto 33, 3) := by decide +kernel
theorem dR_waiting_28 : decode prog_9_method_42_code 28 = .ok (.aload_n 0, 1) := by decide +kernel
theorem dR_waiting_29 : decode prog_9_method_42_code 29 = .ok (.iload_n 1, 1) := by decide +kernel
theorem dR_waiting_30 : decode prog_9_method_42_code 30 = .ok (.invokevirtual 127, 3) := by decide +kernel
theorem dR_waiting_33 : decode prog_9_method_42_code 33 = .ok (.ifCond .eq 19, 3) := by decide +kernel
theorem dR_waiting_36 : decode prog_9_method_42_code 36 = .ok (.aload_n 0, 1) := by decide +kernel
theorem dR_waiting_37 : decode prog_9_method_42_code 37 = .ok (.getfield 42, 3) := by decide +kernel
theorem dR_waiting_40 : decode prog_9_method_42_code 40 = .ok (.iload_n 1, 1) := by decide +kernel
theorem dR_waiting_41 : decode prog_9_method_42_code 41 = .ok (.iaload, 1) := by decide +kernel
theorem dR_waiting_42 : decode prog_9_method_42_code 42 = .ok (.aload_n 0, 1) := by decide +kernel
theorem dR_waiting_43 : decode prog_9_method_42_code 43 = .ok (.getfield 48, 3) := by decide +kernel
theorem dR_waiting_46 : decode prog_9_method_42_code 46 = .ok (.iload_n 1, 1) := by decide +kernel
theorem dR_waiting_47 : decode prog_9_method_42_code 47 = .ok (.iaload, 1) := by decide +kernel
theorem dR_waiting_48 : decode prog_9_method_42_code 48 = .ok (.isub, 1) := by decide +kernel
theorem dR_waiting_49 : decode prog_9_method_42_code 49 = .ok (.goto 9, 3) := by decide +kernel
theorem dR_waiting_52 : decode prog_9_method_42_code 52 = .ok (.aload_n 0, 1) := by decide +kernel
theorem dR_waiting_53 : decode prog_9_method_42_code 53 = .ok (.getfield 36, 3) := by decide +kernel
theorem dR_waiting_56 : decode prog_9_method_42_code 56 = .ok (.iload_n 1, 1) := by decide +kernel
theorem dR_waiting_57 : decode prog_9_method_42_code 57 = .ok (.iaload, 1) := by decide +kernel
theorem dR_waiting_58 : decode prog_9_method_42_code 58 = .ok (.ireturn, 1) := by decide +kernel
theorem dR_isThing_0 : decode prog_9_method_43_code 0 = .ok (.aload_n 0, 1) := by decide +kernel
theorem dR_isThing_1 : decode prog_9_method_43_code 1 = .ok (.iload_n 1, 1) := by decide +kernel
theorem dR_isThing_2 : decode prog_9_method_43_code 2 = .ok (.invokevirtual 124, 3) := by decide +kernel
theorem dR_isThing_5 : decode prog_9_method_43_code 5 = .ok (.ifCond .eq 29, 3) := by decide +kernel
theorem dR_isThing_8 : decode prog_9_method_43_code 8 = .ok (.aload_n 0, 1) := by decide +kernel
theorem dR_isThing_9 : decode prog_9_method_43_code 9 = .ok (.iload_n 1, 1) := by decide +kernel
theorem dR_isThing_10 : decode prog_9_method_43_code 10 = .ok (.invokevirtual 127, 3) := by decide +kernel
theorem dR_isThing_13 : decode prog_9_method_43_code 13 = .ok (.ifCond .ne 21, 3) := by decide +kernel
theorem dR_isThing_16 : decode prog_9_method_43_code 16 = .ok (.iload_n 2, 1) := by decide +kernel
theorem dR_isThing_17 : decode prog_9_method_43_code 17 = .ok (.ifCond .lt 17, 3) := by decide +kernel
theorem dR_isThing_20 : decode prog_9_method_43_code 20 = .ok (.iload_n 2, 1) := by decide +kernel
theorem dR_isThing_21 : decode prog_9_method_43_code 21 = .ok (.aload_n 0, 1) := by decide +kernel
theorem dR_isThing_22 : decode prog_9_method_43_code 22 = .ok (.getfield 36, 3) := by decide +kernel
theorem dR_isThing_25 : decode prog_9_method_43_code 25 = .ok (.iload_n 1, 1) := by decide +kernel
theorem dR_isThing_26 : decode prog_9_method_43_code 26 = .ok (.iaload, 1) := by decide +kernel
theorem dR_isThing_27 : decode prog_9_method_43_code 27 = .ok (.if_icmp .ge 7, 3) := by decide +kernel
theorem dR_isThing_30 : decode prog_9_method_43_code 30 = .ok (.iconst 1, 1) := by decide +kernel
theorem dR_isThing_31 : decode prog_9_method_43_code 31 = .ok (.goto 4, 3) := by decide +kernel
theorem dR_isThing_34 : decode prog_9_method_43_code 34 = .ok (.iconst 0, 1) := by decide +kernel
theorem dR_isThing_35 : decode prog_9_method_43_code 35 = .ok (.ireturn, 1) := by decide +kernel
theorem dR_kind_0 : decode prog_9_method_44_code 0 = .ok (.aload_n 0, 1) := by decide +kernel
theorem dR_kind_1 : decode prog_9_method_44_code 1 = .ok (.aload_n 0, 1) := by decide +kernel
theorem dR_kind_2 : decode prog_9_method_44_code 2 = .ok (.iload_n 1, 1) := by decide +kernel
theorem dR_kind_3 : decode prog_9_method_44_code 3 = .ok (.iload_n 2, 1) := by decide +kernel
theorem dR_kind_4 : decode prog_9_method_44_code 4 = .ok (.invokevirtual 188, 3) := by decide +kernel
theorem dR_kind_7 : decode prog_9_method_44_code 7 = .ok (.ifCond .eq 7, 3) := by decide +kernel
theorem dR_kind_10 : decode prog_9_method_44_code 10 = .ok (.iconst 0, 1) := by decide +kernel
theorem dR_kind_11 : decode prog_9_method_44_code 11 = .ok (.goto 4, 3) := by decide +kernel
theorem dR_kind_14 : decode prog_9_method_44_code 14 = .ok (.iconst 1, 1) := by decide +kernel
theorem dR_kind_15 : decode prog_9_method_44_code 15 = .ok (.putfield 100, 3) := by decide +kernel
theorem dR_kind_18 : decode prog_9_method_44_code 18 = .ok (.aload_n 0, 1) := by decide +kernel
theorem dR_kind_19 : decode prog_9_method_44_code 19 = .ok (.getfield 100, 3) := by decide +kernel
theorem dR_kind_22 : decode prog_9_method_44_code 22 = .ok (.ifCond .le 7, 3) := by decide +kernel
theorem dR_kind_25 : decode prog_9_method_44_code 25 = .ok (.iconst 0, 1) := by decide +kernel
theorem dR_kind_26 : decode prog_9_method_44_code 26 = .ok (.goto 14, 3) := by decide +kernel
theorem dR_kind_29 : decode prog_9_method_44_code 29 = .ok (.aload_n 0, 1) := by decide +kernel
theorem dR_kind_30 : decode prog_9_method_44_code 30 = .ok (.getfield 30, 3) := by decide +kernel
theorem dR_kind_33 : decode prog_9_method_44_code 33 = .ok (.bipush 16, 2) := by decide +kernel
theorem dR_kind_35 : decode prog_9_method_44_code 35 = .ok (.iload_n 1, 1) := by decide +kernel
theorem dR_kind_36 : decode prog_9_method_44_code 36 = .ok (.imul, 1) := by decide +kernel
theorem dR_kind_37 : decode prog_9_method_44_code 37 = .ok (.iload_n 2, 1) := by decide +kernel
theorem dR_kind_38 : decode prog_9_method_44_code 38 = .ok (.iadd, 1) := by decide +kernel
theorem dR_kind_39 : decode prog_9_method_44_code 39 = .ok (.iaload, 1) := by decide +kernel
theorem dR_kind_40 : decode prog_9_method_44_code 40 = .ok (.ireturn, 1) := by decide +kernel
theorem dR_value_0 : decode prog_9_method_45_code 0 = .ok (.aload_n 0, 1) := by decide +kernel
theorem dR_value_1 : decode prog_9_method_45_code 1 = .ok (.aload_n 0, 1) := by decide +kernel
theorem dR_value_2 : decode prog_9_method_45_code 2 = .ok (.iload_n 1, 1) := by decide +kernel
theorem dR_value_3 : decode prog_9_method_45_code 3 = .ok (.iload_n 2, 1) := by decide +kernel
theorem dR_value_4 : decode prog_9_method_45_code 4 = .ok (.invokevirtual 188, 3) := by decide +kernel
theorem dR_value_7 : decode prog_9_method_45_code 7 = .ok (.ifCond .eq 7, 3) := by decide +kernel
theorem dR_value_10 : decode prog_9_method_45_code 10 = .ok (.iconst 0, 1) := by decide +kernel
theorem dR_value_11 : decode prog_9_method_45_code 11 = .ok (.goto 4, 3) := by decide +kernel
theorem dR_value_14 : decode prog_9_method_45_code 14 = .ok (.iconst 1, 1) := by decide +kernel
theorem dR_value_15 : decode prog_9_method_45_code 15 = .ok (.putfield 100, 3) := by decide +kernel
theorem dR_value_18 : decode prog_9_method_45_code 18 = .ok (.aload_n 0, 1) := by decide +kernel
theorem dR_value_19 : decode prog_9_method_45_code 19 = .ok (.getfield 100, 3) := by decide +kernel
theorem dR_value_22 : decode prog_9_method_45_code 22 = .ok (.ifCond .le 7, 3) := by decide +kernel
theorem dR_value_25 : decode prog_9_method_45_code 25 = .ok (.lconst 0, 1) := by decide +kernel
theorem dR_value_26 : decode prog_9_method_45_code 26 = .ok (.goto 14, 3) := by decide +kernel
theorem dR_value_29 : decode prog_9_method_45_code 29 = .ok (.aload_n 0, 1) := by decide +kernel
theorem dR_value_30 : decode prog_9_method_45_code 30 = .ok (.getfield 33, 3) := by decide +kernel
theorem dR_value_33 : decode prog_9_method_45_code 33 = .ok (.bipush 16, 2) := by decide +kernel
theorem dR_value_35 : decode prog_9_method_45_code 35 = .ok (.iload_n 1, 1) := by decide +kernel
theorem dR_value_36 : decode prog_9_method_45_code 36 = .ok (.imul, 1) := by decide +kernel
theorem dR_value_37 : decode prog_9_method_45_code 37 = .ok (.iload_n 2, 1) := by decide +kernel
theorem dR_value_38 : decode prog_9_method_45_code 38 = .ok (.iadd, 1) := by decide +kernel
theorem dR_value_39 : decode prog_9_method_45_code 39 = .ok (.laload, 1) := by decide +kernel
theorem dR_value_40 : decode prog_9_method_45_code 40 = .ok (.lreturn, 1) := by decide +kernel
theorem dR_told_0 : decode prog_9_method_46_code 0 = .ok (.aload_n 0, 1) := by decide +kernel
theorem dR_told_1 : decode prog_9_method_46_code 1 = .ok (.iload_n 1, 1) := by decide +kernel
theorem dR_told_2 : decode prog_9_method_46_code 2 = .ok (.ifCond .lt 8, 3) := by decide +kernel
theorem dR_told_5 : decode prog_9_method_46_code 5 = .ok (.iload_n 1, 1) := by decide +kernel
theorem dR_told_6 : decode prog_9_method_46_code 6 = .ok (.iconst 3, 1) := by decide +kernel
theorem dR_told_7 : decode prog_9_method_46_code 7 = .ok (.if_icmp .le 7, 3) := by decide +kernel
theorem dR_told_10 : decode prog_9_method_46_code 10 = .ok (.iconst 1, 1) := by decide +kernel
theorem dR_told_11 : decode prog_9_method_46_code 11 = .ok (.goto 4, 3) := by decide +kernel
theorem dR_told_14 : decode prog_9_method_46_code 14 = .ok (.iconst 0, 1) := by decide +kernel
theorem dR_told_15 : decode prog_9_method_46_code 15 = .ok (.putfield 100, 3) := by decide +kernel
theorem dR_told_18 : decode prog_9_method_46_code 18 = .ok (.aload_n 0, 1) := by decide +kernel
theorem dR_told_19 : decode prog_9_method_46_code 19 = .ok (.getfield 100, 3) := by decide +kernel
theorem dR_told_22 : decode prog_9_method_46_code 22 = .ok (.ifCond .le 5, 3) := by decide +kernel
theorem dR_told_25 : decode prog_9_method_46_code 25 = .ok (.iconst 0, 1) := by decide +kernel
theorem dR_told_26 : decode prog_9_method_46_code 26 = .ok (.ireturn, 1) := by decide +kernel
theorem dR_told_27 : decode prog_9_method_46_code 27 = .ok (.iload_n 1, 1) := by decide +kernel
theorem dR_told_28 : decode prog_9_method_46_code 28 = .ok (.ifCond .ne 10, 3) := by decide +kernel
theorem dR_told_31 : decode prog_9_method_46_code 31 = .ok (.aload_n 0, 1) := by decide +kernel
theorem dR_told_32 : decode prog_9_method_46_code 32 = .ok (.getfield 103, 3) := by decide +kernel
theorem dR_told_35 : decode prog_9_method_46_code 35 = .ok (.goto 31, 3) := by decide +kernel
theorem dR_told_38 : decode prog_9_method_46_code 38 = .ok (.iload_n 1, 1) := by decide +kernel
theorem dR_told_39 : decode prog_9_method_46_code 39 = .ok (.iconst 1, 1) := by decide +kernel
theorem dR_told_40 : decode prog_9_method_46_code 40 = .ok (.if_icmp .ne 10, 3) := by decide +kernel
theorem dR_told_43 : decode prog_9_method_46_code 43 = .ok (.aload_n 0, 1) := by decide +kernel
theorem dR_told_44 : decode prog_9_method_46_code 44 = .ok (.getfield 106, 3) := by decide +kernel
theorem dR_told_47 : decode prog_9_method_46_code 47 = .ok (.goto 19, 3) := by decide +kernel
theorem dR_told_50 : decode prog_9_method_46_code 50 = .ok (.iload_n 1, 1) := by decide +kernel
theorem dR_told_51 : decode prog_9_method_46_code 51 = .ok (.iconst 2, 1) := by decide +kernel
theorem dR_told_52 : decode prog_9_method_46_code 52 = .ok (.if_icmp .ne 10, 3) := by decide +kernel
theorem dR_told_55 : decode prog_9_method_46_code 55 = .ok (.aload_n 0, 1) := by decide +kernel
theorem dR_told_56 : decode prog_9_method_46_code 56 = .ok (.getfield 138, 3) := by decide +kernel
theorem dR_told_59 : decode prog_9_method_46_code 59 = .ok (.goto 7, 3) := by decide +kernel
theorem dR_told_62 : decode prog_9_method_46_code 62 = .ok (.aload_n 0, 1) := by decide +kernel
theorem dR_told_63 : decode prog_9_method_46_code 63 = .ok (.invokevirtual 130, 3) := by decide +kernel
theorem dR_told_66 : decode prog_9_method_46_code 66 = .ok (.ireturn, 1) := by decide +kernel
