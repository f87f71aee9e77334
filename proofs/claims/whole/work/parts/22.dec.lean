theorem dT_heldFor_15 : decode prog_7_method_5_code 15 = .ok (.aaload, 1) := by decide +kernel
theorem dT_heldFor_16 : decode prog_7_method_5_code 16 = .ok (.getfield 33, 3) := by decide +kernel
theorem dT_heldFor_19 : decode prog_7_method_5_code 19 = .ok (.iconst (-1), 1) := by decide +kernel
theorem dT_heldFor_20 : decode prog_7_method_5_code 20 = .ok (.if_icmp .eq 13, 3) := by decide +kernel
theorem dT_heldFor_23 : decode prog_7_method_5_code 23 = .ok (.aload_n 0, 1) := by decide +kernel
theorem dT_heldFor_24 : decode prog_7_method_5_code 24 = .ok (.getfield 11, 3) := by decide +kernel
theorem dT_heldFor_27 : decode prog_7_method_5_code 27 = .ok (.iload_n 1, 1) := by decide +kernel
theorem dT_heldFor_28 : decode prog_7_method_5_code 28 = .ok (.aaload, 1) := by decide +kernel
theorem dT_heldFor_29 : decode prog_7_method_5_code 29 = .ok (.getfield 33, 3) := by decide +kernel
theorem dT_heldFor_32 : decode prog_7_method_5_code 32 = .ok (.ireturn, 1) := by decide +kernel
theorem dT_heldFor_33 : decode prog_7_method_5_code 33 = .ok (.iinc 1 1, 3) := by decide +kernel
theorem dT_heldFor_36 : decode prog_7_method_5_code 36 = .ok (.goto (-34), 3) := by decide +kernel
theorem dT_heldFor_39 : decode prog_7_method_5_code 39 = .ok (.iconst (-1), 1) := by decide +kernel
theorem dT_heldFor_40 : decode prog_7_method_5_code 40 = .ok (.ireturn, 1) := by decide +kernel
theorem dT_letGo_0 : decode prog_7_method_6_code 0 = .ok (.iconst 0, 1) := by decide +kernel
theorem dT_letGo_1 : decode prog_7_method_6_code 1 = .ok (.istore_n 1, 1) := by decide +kernel
theorem dT_letGo_2 : decode prog_7_method_6_code 2 = .ok (.iload_n 1, 1) := by decide +kernel
theorem dT_letGo_3 : decode prog_7_method_6_code 3 = .ok (.aload_n 0, 1) := by decide +kernel
theorem dT_letGo_4 : decode prog_7_method_6_code 4 = .ok (.getfield 27, 3) := by decide +kernel
theorem dT_letGo_7 : decode prog_7_method_6_code 7 = .ok (.if_icmp .ge 19, 3) := by decide +kernel
theorem dT_letGo_10 : decode prog_7_method_6_code 10 = .ok (.aload_n 0, 1) := by decide +kernel
theorem dT_letGo_11 : decode prog_7_method_6_code 11 = .ok (.getfield 11, 3) := by decide +kernel
theorem dT_letGo_14 : decode prog_7_method_6_code 14 = .ok (.iload_n 1, 1) := by decide +kernel
theorem dT_letGo_15 : decode prog_7_method_6_code 15 = .ok (.aaload, 1) := by decide +kernel
theorem dT_letGo_16 : decode prog_7_method_6_code 16 = .ok (.iconst (-1), 1) := by decide +kernel
theorem dT_letGo_17 : decode prog_7_method_6_code 17 = .ok (.putfield 33, 3) := by decide +kernel
theorem dT_letGo_20 : decode prog_7_method_6_code 20 = .ok (.iinc 1 1, 3) := by decide +kernel
theorem dT_letGo_23 : decode prog_7_method_6_code 23 = .ok (.goto (-21), 3) := by decide +kernel
theorem dT_letGo_26 : decode prog_7_method_6_code 26 = .ok (.return_, 1) := by decide +kernel
theorem dT_goBack_0 : decode prog_7_method_11_code 0 = .ok (.aload_n 0, 1) := by decide +kernel
theorem dT_goBack_1 : decode prog_7_method_11_code 1 = .ok (.aload_n 1, 1) := by decide +kernel
theorem dT_goBack_2 : decode prog_7_method_11_code 2 = .ok (.getfield 54, 3) := by decide +kernel
theorem dT_goBack_5 : decode prog_7_method_11_code 5 = .ok (.aload_n 0, 1) := by decide +kernel
theorem dT_goBack_6 : decode prog_7_method_11_code 6 = .ok (.getfield 23, 3) := by decide +kernel
theorem dT_goBack_9 : decode prog_7_method_11_code 9 = .ok (.laload, 1) := by decide +kernel
theorem dT_goBack_10 : decode prog_7_method_11_code 10 = .ok (.putfield 60, 3) := by decide +kernel
theorem dT_goBack_13 : decode prog_7_method_11_code 13 = .ok (.aload_n 0, 1) := by decide +kernel
theorem dT_goBack_14 : decode prog_7_method_11_code 14 = .ok (.aload_n 1, 1) := by decide +kernel
theorem dT_goBack_15 : decode prog_7_method_11_code 15 = .ok (.getfield 64, 3) := by decide +kernel
theorem dT_goBack_18 : decode prog_7_method_11_code 18 = .ok (.aload_n 0, 1) := by decide +kernel
theorem dT_goBack_19 : decode prog_7_method_11_code 19 = .ok (.getfield 23, 3) := by decide +kernel
theorem dT_goBack_22 : decode prog_7_method_11_code 22 = .ok (.iaload, 1) := by decide +kernel
theorem dT_goBack_23 : decode prog_7_method_11_code 23 = .ok (.putfield 68, 3) := by decide +kernel
theorem dT_goBack_26 : decode prog_7_method_11_code 26 = .ok (.aload_n 0, 1) := by decide +kernel
theorem dT_goBack_27 : decode prog_7_method_11_code 27 = .ok (.aload_n 1, 1) := by decide +kernel
theorem dT_goBack_28 : decode prog_7_method_11_code 28 = .ok (.getfield 70, 3) := by decide +kernel
theorem dT_goBack_31 : decode prog_7_method_11_code 31 = .ok (.aload_n 0, 1) := by decide +kernel
theorem dT_goBack_32 : decode prog_7_method_11_code 32 = .ok (.getfield 23, 3) := by decide +kernel
theorem dT_goBack_35 : decode prog_7_method_11_code 35 = .ok (.baload, 1) := by decide +kernel
theorem dT_goBack_36 : decode prog_7_method_11_code 36 = .ok (.putfield 73, 3) := by decide +kernel
theorem dT_goBack_39 : decode prog_7_method_11_code 39 = .ok (.aload_n 0, 1) := by decide +kernel
theorem dT_goBack_40 : decode prog_7_method_11_code 40 = .ok (.iconst 0, 1) := by decide +kernel
theorem dT_goBack_41 : decode prog_7_method_11_code 41 = .ok (.putfield 40, 3) := by decide +kernel
theorem dT_goBack_44 : decode prog_7_method_11_code 44 = .ok (.return_, 1) := by decide +kernel
theorem dB_init_0 : decode prog_1_method_1_code 0 = .ok (.aload_n 0, 1) := by decide +kernel
theorem dB_init_1 : decode prog_1_method_1_code 1 = .ok (.invokespecial 3, 3) := by decide +kernel
theorem dB_init_4 : decode prog_1_method_1_code 4 = .ok (.aload_n 0, 1) := by decide +kernel
theorem dB_init_5 : decode prog_1_method_1_code 5 = .ok (.bipush 16, 2) := by decide +kernel
theorem dB_init_7 : decode prog_1_method_1_code 7 = .ok (.anewarray 9, 3) := by decide +kernel
theorem dB_init_10 : decode prog_1_method_1_code 10 = .ok (.putfield 11, 3) := by decide +kernel
theorem dB_init_13 : decode prog_1_method_1_code 13 = .ok (.aload_n 0, 1) := by decide +kernel
theorem dB_init_14 : decode prog_1_method_1_code 14 = .ok (.bipush 40, 2) := by decide +kernel
theorem dB_init_16 : decode prog_1_method_1_code 16 = .ok (.anewarray 15, 3) := by decide +kernel
theorem dB_init_19 : decode prog_1_method_1_code 19 = .ok (.putfield 17, 3) := by decide +kernel
theorem dB_init_22 : decode prog_1_method_1_code 22 = .ok (.aload_n 0, 1) := by decide +kernel
theorem dB_init_23 : decode prog_1_method_1_code 23 = .ok (.new 21, 3) := by decide +kernel
theorem dB_init_26 : decode prog_1_method_1_code 26 = .ok (.dup, 1) := by decide +kernel
theorem dB_init_27 : decode prog_1_method_1_code 27 = .ok (.invokespecial 23, 3) := by decide +kernel
theorem dB_init_30 : decode prog_1_method_1_code 30 = .ok (.putfield 24, 3) := by decide +kernel
theorem dB_init_33 : decode prog_1_method_1_code 33 = .ok (.iconst 1, 1) := by decide +kernel
theorem dB_init_34 : decode prog_1_method_1_code 34 = .ok (.iload_n 1, 1) := by decide +kernel
theorem dB_init_35 : decode prog_1_method_1_code 35 = .ok (.bipush 8, 2) := by decide +kernel
theorem dB_init_37 : decode prog_1_method_1_code 37 = .ok (.invokestatic 28, 3) := by decide +kernel
theorem dB_init_40 : decode prog_1_method_1_code 40 = .ok (.invokestatic 34, 3) := by decide +kernel
theorem dB_init_43 : decode prog_1_method_1_code 43 = .ok (.istore_n 2, 1) := by decide +kernel
theorem dB_init_44 : decode prog_1_method_1_code 44 = .ok (.aload_n 0, 1) := by decide +kernel
theorem dB_init_45 : decode prog_1_method_1_code 45 = .ok (.iload_n 2, 1) := by decide +kernel
theorem dB_init_46 : decode prog_1_method_1_code 46 = .ok (.anewarray 37, 3) := by decide +kernel
theorem dB_init_49 : decode prog_1_method_1_code 49 = .ok (.putfield 39, 3) := by decide +kernel
theorem dB_init_52 : decode prog_1_method_1_code 52 = .ok (.iconst 0, 1) := by decide +kernel
theorem dB_init_53 : decode prog_1_method_1_code 53 = .ok (.istore_n 3, 1) := by decide +kernel
theorem dB_init_54 : decode prog_1_method_1_code 54 = .ok (.iload_n 3, 1) := by decide +kernel
theorem dB_init_55 : decode prog_1_method_1_code 55 = .ok (.iload_n 2, 1) := by decide +kernel
theorem dB_init_56 : decode prog_1_method_1_code 56 = .ok (.if_icmp .ge 23, 3) := by decide +kernel
theorem dB_init_59 : decode prog_1_method_1_code 59 = .ok (.aload_n 0, 1) := by decide +kernel
theorem dB_init_60 : decode prog_1_method_1_code 60 = .ok (.getfield 39, 3) := by decide +kernel
theorem dB_init_63 : decode prog_1_method_1_code 63 = .ok (.iload_n 3, 1) := by decide +kernel
theorem dB_init_64 : decode prog_1_method_1_code 64 = .ok (.new 37, 3) := by decide +kernel
theorem dB_init_67 : decode prog_1_method_1_code 67 = .ok (.dup, 1) := by decide +kernel
theorem dB_init_68 : decode prog_1_method_1_code 68 = .ok (.iload_n 3, 1) := by decide +kernel
theorem dB_init_69 : decode prog_1_method_1_code 69 = .ok (.invokespecial 43, 3) := by decide +kernel
theorem dB_init_72 : decode prog_1_method_1_code 72 = .ok (.aastore, 1) := by decide +kernel
theorem dB_init_73 : decode prog_1_method_1_code 73 = .ok (.iinc 3 1, 3) := by decide +kernel
theorem dB_init_76 : decode prog_1_method_1_code 76 = .ok (.goto (-22), 3) := by decide +kernel
theorem dB_init_79 : decode prog_1_method_1_code 79 = .ok (.aload_n 0, 1) := by decide +kernel
theorem dB_init_80 : decode prog_1_method_1_code 80 = .ok (.iload_n 2, 1) := by decide +kernel
theorem dB_init_81 : decode prog_1_method_1_code 81 = .ok (.newarray .long, 2) := by decide +kernel
theorem dB_init_83 : decode prog_1_method_1_code 83 = .ok (.putfield 46, 3) := by decide +kernel
theorem dB_init_86 : decode prog_1_method_1_code 86 = .ok (.aload_n 0, 1) := by decide +kernel
theorem dB_init_87 : decode prog_1_method_1_code 87 = .ok (.iload_n 2, 1) := by decide +kernel
theorem dB_init_88 : decode prog_1_method_1_code 88 = .ok (.newarray .int, 2) := by decide +kernel
theorem dB_init_90 : decode prog_1_method_1_code 90 = .ok (.putfield 50, 3) := by decide +kernel
theorem dB_init_93 : decode prog_1_method_1_code 93 = .ok (.return_, 1) := by decide +kernel
theorem dB_taskAt_0 : decode prog_1_method_25_code 0 = .ok (.iload_n 1, 1) := by decide +kernel
theorem dB_taskAt_1 : decode prog_1_method_25_code 1 = .ok (.ifCond .lt 12, 3) := by decide +kernel
theorem dB_taskAt_4 : decode prog_1_method_25_code 4 = .ok (.iload_n 1, 1) := by decide +kernel
theorem dB_taskAt_5 : decode prog_1_method_25_code 5 = .ok (.aload_n 0, 1) := by decide +kernel
theorem dB_taskAt_6 : decode prog_1_method_25_code 6 = .ok (.getfield 39, 3) := by decide +kernel
theorem dB_taskAt_9 : decode prog_1_method_25_code 9 = .ok (.arraylength, 1) := by decide +kernel
theorem dB_taskAt_10 : decode prog_1_method_25_code 10 = .ok (.if_icmp .lt 14, 3) := by decide +kernel
theorem dB_taskAt_13 : decode prog_1_method_25_code 13 = .ok (.new 240, 3) := by decide +kernel
theorem dB_taskAt_16 : decode prog_1_method_25_code 16 = .ok (.dup, 1) := by decide +kernel
theorem dB_taskAt_17 : decode prog_1_method_25_code 17 = .ok (.ldc_w 260, 3) := by decide +kernel
theorem dB_taskAt_20 : decode prog_1_method_25_code 20 = .ok (.invokespecial 244, 3) := by decide +kernel
theorem dB_taskAt_23 : decode prog_1_method_25_code 23 = .ok (.athrow, 1) := by decide +kernel
theorem dB_taskAt_24 : decode prog_1_method_25_code 24 = .ok (.aload_n 0, 1) := by decide +kernel
theorem dB_taskAt_25 : decode prog_1_method_25_code 25 = .ok (.getfield 39, 3) := by decide +kernel
theorem dB_taskAt_28 : decode prog_1_method_25_code 28 = .ok (.iload_n 1, 1) := by decide +kernel
theorem dB_taskAt_29 : decode prog_1_method_25_code 29 = .ok (.aaload, 1) := by decide +kernel
theorem dB_taskAt_30 : decode prog_1_method_25_code 30 = .ok (.areturn, 1) := by decide +kernel
theorem dB_addChannel_0 : decode prog_1_method_33_code 0 = .ok (.aload_n 0, 1) := by decide +kernel
theorem dB_addChannel_1 : decode prog_1_method_33_code 1 = .ok (.getfield 62, 3) := by decide +kernel
theorem dB_addChannel_4 : decode prog_1_method_33_code 4 = .ok (.istore_n 3, 1) := by decide +kernel
theorem dB_addChannel_5 : decode prog_1_method_33_code 5 = .ok (.iload_n 3, 1) := by decide +kernel
theorem dB_addChannel_6 : decode prog_1_method_33_code 6 = .ok (.aload_n 0, 1) := by decide +kernel
theorem dB_addChannel_7 : decode prog_1_method_33_code 7 = .ok (.getfield 11, 3) := by decide +kernel
theorem dB_addChannel_10 : decode prog_1_method_33_code 10 = .ok (.arraylength, 1) := by decide +kernel
theorem dB_addChannel_11 : decode prog_1_method_33_code 11 = .ok (.if_icmp .ge 25, 3) := by decide +kernel
theorem dB_addChannel_14 : decode prog_1_method_33_code 14 = .ok (.aload_n 0, 1) := by decide +kernel
theorem dB_addChannel_15 : decode prog_1_method_33_code 15 = .ok (.getfield 11, 3) := by decide +kernel
theorem dB_addChannel_18 : decode prog_1_method_33_code 18 = .ok (.iload_n 3, 1) := by decide +kernel
theorem dB_addChannel_19 : decode prog_1_method_33_code 19 = .ok (.aload_n 1, 1) := by decide +kernel
theorem dB_addChannel_20 : decode prog_1_method_33_code 20 = .ok (.aastore, 1) := by decide +kernel
theorem dB_addChannel_21 : decode prog_1_method_33_code 21 = .ok (.aload_n 0, 1) := by decide +kernel
theorem dB_addChannel_22 : decode prog_1_method_33_code 22 = .ok (.dup, 1) := by decide +kernel
theorem dB_addChannel_23 : decode prog_1_method_33_code 23 = .ok (.getfield 62, 3) := by decide +kernel
theorem dB_addChannel_26 : decode prog_1_method_33_code 26 = .ok (.iconst 1, 1) := by decide +kernel
theorem dB_addChannel_27 : decode prog_1_method_33_code 27 = .ok (.iadd, 1) := by decide +kernel
theorem dB_addChannel_28 : decode prog_1_method_33_code 28 = .ok (.putfield 62, 3) := by decide +kernel
theorem dB_addChannel_31 : decode prog_1_method_33_code 31 = .ok (.aload_n 2, 1) := by decide +kernel
theorem dB_addChannel_32 : decode prog_1_method_33_code 32 = .ok (.aload_n 1, 1) := by decide +kernel
theorem dB_addChannel_33 : decode prog_1_method_33_code 33 = .ok (.invokevirtual 275, 3) := by decide +kernel
theorem dB_addChannel_36 : decode prog_1_method_33_code 36 = .ok (.iload_n 3, 1) := by decide +kernel
theorem dB_addChannel_37 : decode prog_1_method_33_code 37 = .ok (.ireturn, 1) := by decide +kernel
theorem dB_leadsOnTo_0 : decode prog_1_method_34_code 0 = .ok (.iconst 1, 1) := by decide +kernel
theorem dB_leadsOnTo_1 : decode prog_1_method_34_code 1 = .ok (.iload_n 1, 1) := by decide +kernel
theorem dB_leadsOnTo_2 : decode prog_1_method_34_code 2 = .ok (.ishl, 1) := by decide +kernel
theorem dB_leadsOnTo_3 : decode prog_1_method_34_code 3 = .ok (.istore_n 3, 1) := by decide +kernel
theorem dB_leadsOnTo_4 : decode prog_1_method_34_code 4 = .ok (.iconst 0, 1) := by decide +kernel
theorem dB_leadsOnTo_5 : decode prog_1_method_34_code 5 = .ok (.istore 4, 2) := by decide +kernel
theorem dB_leadsOnTo_7 : decode prog_1_method_34_code 7 = .ok (.iload 4, 2) := by decide +kernel
theorem dB_leadsOnTo_9 : decode prog_1_method_34_code 9 = .ok (.aload_n 0, 1) := by decide +kernel
theorem dB_leadsOnTo_10 : decode prog_1_method_34_code 10 = .ok (.getfield 39, 3) := by decide +kernel
theorem dB_leadsOnTo_13 : decode prog_1_method_34_code 13 = .ok (.arraylength, 1) := by decide +kernel
theorem dB_leadsOnTo_14 : decode prog_1_method_34_code 14 = .ok (.if_icmp .ge 67, 3) := by decide +kernel
theorem dB_leadsOnTo_17 : decode prog_1_method_34_code 17 = .ok (.iconst 0, 1) := by decide +kernel
theorem dB_leadsOnTo_18 : decode prog_1_method_34_code 18 = .ok (.istore 5, 2) := by decide +kernel
theorem dB_leadsOnTo_20 : decode prog_1_method_34_code 20 = .ok (.iload 5, 2) := by decide +kernel
theorem dB_leadsOnTo_22 : decode prog_1_method_34_code 22 = .ok (.aload_n 0, 1) := by decide +kernel
theorem dB_leadsOnTo_23 : decode prog_1_method_34_code 23 = .ok (.getfield 62, 3) := by decide +kernel
theorem dB_leadsOnTo_26 : decode prog_1_method_34_code 26 = .ok (.if_icmp .ge 49, 3) := by decide +kernel
theorem dB_leadsOnTo_29 : decode prog_1_method_34_code 29 = .ok (.aload_n 0, 1) := by decide +kernel
theorem dB_leadsOnTo_30 : decode prog_1_method_34_code 30 = .ok (.getfield 11, 3) := by decide +kernel
theorem dB_leadsOnTo_33 : decode prog_1_method_34_code 33 = .ok (.iload 5, 2) := by decide +kernel
theorem dB_leadsOnTo_35 : decode prog_1_method_34_code 35 = .ok (.aaload, 1) := by decide +kernel
theorem dB_leadsOnTo_36 : decode prog_1_method_34_code 36 = .ok (.astore 6, 2) := by decide +kernel
theorem dB_leadsOnTo_38 : decode prog_1_method_34_code 38 = .ok (.aload 6, 2) := by decide +kernel
theorem dB_leadsOnTo_40 : decode prog_1_method_34_code 40 = .ok (.getfield 198, 3) := by decide +kernel
theorem dB_leadsOnTo_43 : decode prog_1_method_34_code 43 = .ok (.iconst (-1), 1) := by decide +kernel
theorem dB_leadsOnTo_44 : decode prog_1_method_34_code 44 = .ok (.if_icmp .eq 25, 3) := by decide +kernel
theorem dB_leadsOnTo_47 : decode prog_1_method_34_code 47 = .ok (.iload_n 3, 1) := by decide +kernel
theorem dB_leadsOnTo_48 : decode prog_1_method_34_code 48 = .ok (.iconst 1, 1) := by decide +kernel
theorem dB_leadsOnTo_49 : decode prog_1_method_34_code 49 = .ok (.aload 6, 2) := by decide +kernel
theorem dB_leadsOnTo_51 : decode prog_1_method_34_code 51 = .ok (.getfield 198, 3) := by decide +kernel
theorem dB_leadsOnTo_54 : decode prog_1_method_34_code 54 = .ok (.ishl, 1) := by decide +kernel
theorem dB_leadsOnTo_55 : decode prog_1_method_34_code 55 = .ok (.iand, 1) := by decide +kernel
theorem dB_leadsOnTo_56 : decode prog_1_method_34_code 56 = .ok (.ifCond .eq 13, 3) := by decide +kernel
theorem dB_leadsOnTo_59 : decode prog_1_method_34_code 59 = .ok (.iload_n 3, 1) := by decide +kernel
theorem dB_leadsOnTo_60 : decode prog_1_method_34_code 60 = .ok (.iconst 1, 1) := by decide +kernel
theorem dB_leadsOnTo_61 : decode prog_1_method_34_code 61 = .ok (.aload 6, 2) := by decide +kernel
theorem dB_leadsOnTo_63 : decode prog_1_method_34_code 63 = .ok (.getfield 205, 3) := by decide +kernel
theorem dB_leadsOnTo_66 : decode prog_1_method_34_code 66 = .ok (.ishl, 1) := by decide +kernel
theorem dB_leadsOnTo_67 : decode prog_1_method_34_code 67 = .ok (.ior, 1) := by decide +kernel
theorem dB_leadsOnTo_68 : decode prog_1_method_34_code 68 = .ok (.istore_n 3, 1) := by decide +kernel
theorem dB_leadsOnTo_69 : decode prog_1_method_34_code 69 = .ok (.iinc 5 1, 3) := by decide +kernel
theorem dB_leadsOnTo_72 : decode prog_1_method_34_code 72 = .ok (.goto (-52), 3) := by decide +kernel
theorem dB_leadsOnTo_75 : decode prog_1_method_34_code 75 = .ok (.iinc 4 1, 3) := by decide +kernel
theorem dB_leadsOnTo_78 : decode prog_1_method_34_code 78 = .ok (.goto (-71), 3) := by decide +kernel
theorem dB_leadsOnTo_81 : decode prog_1_method_34_code 81 = .ok (.iload_n 3, 1) := by decide +kernel
theorem dB_leadsOnTo_82 : decode prog_1_method_34_code 82 = .ok (.iconst 1, 1) := by decide +kernel
theorem dB_leadsOnTo_83 : decode prog_1_method_34_code 83 = .ok (.iload_n 2, 1) := by decide +kernel
theorem dB_leadsOnTo_84 : decode prog_1_method_34_code 84 = .ok (.ishl, 1) := by decide +kernel
theorem dB_leadsOnTo_85 : decode prog_1_method_34_code 85 = .ok (.iand, 1) := by decide +kernel
theorem dB_leadsOnTo_86 : decode prog_1_method_34_code 86 = .ok (.ifCond .eq 7, 3) := by decide +kernel
theorem dB_leadsOnTo_89 : decode prog_1_method_34_code 89 = .ok (.iconst 1, 1) := by decide +kernel
theorem dB_leadsOnTo_90 : decode prog_1_method_34_code 90 = .ok (.goto 4, 3) := by decide +kernel
theorem dB_leadsOnTo_93 : decode prog_1_method_34_code 93 = .ok (.iconst 0, 1) := by decide +kernel
theorem dB_leadsOnTo_94 : decode prog_1_method_34_code 94 = .ok (.ireturn, 1) := by decide +kernel
theorem dB_channel_0 : decode prog_1_method_2_code 0 = .ok (.aload_n 0, 1) := by decide +kernel
theorem dB_channel_1 : decode prog_1_method_2_code 1 = .ok (.iload_n 2, 1) := by decide +kernel
theorem dB_channel_2 : decode prog_1_method_2_code 2 = .ok (.invokevirtual 54, 3) := by decide +kernel
theorem dB_channel_5 : decode prog_1_method_2_code 5 = .ok (.astore_n 3, 1) := by decide +kernel
theorem dB_channel_6 : decode prog_1_method_2_code 6 = .ok (.iload_n 1, 1) := by decide +kernel
theorem dB_channel_7 : decode prog_1_method_2_code 7 = .ok (.iconst (-1), 1) := by decide +kernel
theorem dB_channel_8 : decode prog_1_method_2_code 8 = .ok (.if_icmp .ne 7, 3) := by decide +kernel
theorem dB_channel_11 : decode prog_1_method_2_code 11 = .ok (.aconst_null, 1) := by decide +kernel
theorem dB_channel_12 : decode prog_1_method_2_code 12 = .ok (.goto 8, 3) := by decide +kernel
theorem dB_channel_15 : decode prog_1_method_2_code 15 = .ok (.aload_n 0, 1) := by decide +kernel
theorem dB_channel_16 : decode prog_1_method_2_code 16 = .ok (.iload_n 1, 1) := by decide +kernel
theorem dB_channel_17 : decode prog_1_method_2_code 17 = .ok (.invokevirtual 54, 3) := by decide +kernel
theorem dB_channel_20 : decode prog_1_method_2_code 20 = .ok (.astore 4, 2) := by decide +kernel
theorem dB_channel_22 : decode prog_1_method_2_code 22 = .ok (.aload_n 0, 1) := by decide +kernel
theorem dB_channel_23 : decode prog_1_method_2_code 23 = .ok (.getfield 58, 3) := by decide +kernel
theorem dB_channel_26 : decode prog_1_method_2_code 26 = .ok (.ifCond .ne 12, 3) := by decide +kernel
theorem dB_channel_29 : decode prog_1_method_2_code 29 = .ok (.aload_n 0, 1) := by decide +kernel
theorem dB_channel_30 : decode prog_1_method_2_code 30 = .ok (.getfield 62, 3) := by decide +kernel
theorem dB_channel_33 : decode prog_1_method_2_code 33 = .ok (.bipush 16, 2) := by decide +kernel
theorem dB_channel_35 : decode prog_1_method_2_code 35 = .ok (.if_icmp .lt 13, 3) := by decide +kernel
theorem dB_channel_38 : decode prog_1_method_2_code 38 = .ok (.new 66, 3) := by decide +kernel
theorem dB_channel_41 : decode prog_1_method_2_code 41 = .ok (.dup, 1) := by decide +kernel
theorem dB_channel_42 : decode prog_1_method_2_code 42 = .ok (.ldc 68, 2) := by decide +kernel
theorem dB_channel_44 : decode prog_1_method_2_code 44 = .ok (.invokespecial 70, 3) := by decide +kernel
theorem dB_channel_47 : decode prog_1_method_2_code 47 = .ok (.athrow, 1) := by decide +kernel
theorem dB_channel_48 : decode prog_1_method_2_code 48 = .ok (.aload 4, 2) := by decide +kernel
theorem dB_channel_50 : decode prog_1_method_2_code 50 = .ok (.ifnonnull 17, 3) := by decide +kernel
theorem dB_channel_53 : decode prog_1_method_2_code 53 = .ok (.aload_n 0, 1) := by decide +kernel
theorem dB_channel_54 : decode prog_1_method_2_code 54 = .ok (.new 73, 3) := by decide +kernel
theorem dB_channel_57 : decode prog_1_method_2_code 57 = .ok (.dup, 1) := by decide +kernel
theorem dB_channel_58 : decode prog_1_method_2_code 58 = .ok (.iload_n 2, 1) := by decide +kernel
theorem dB_channel_59 : decode prog_1_method_2_code 59 = .ok (.invokespecial 75, 3) := by decide +kernel
theorem dB_channel_62 : decode prog_1_method_2_code 62 = .ok (.aload_n 3, 1) := by decide +kernel
theorem dB_channel_63 : decode prog_1_method_2_code 63 = .ok (.invokevirtual 76, 3) := by decide +kernel
theorem dB_channel_66 : decode prog_1_method_2_code 66 = .ok (.ireturn, 1) := by decide +kernel
theorem dB_channel_67 : decode prog_1_method_2_code 67 = .ok (.aload 4, 2) := by decide +kernel
theorem dB_channel_69 : decode prog_1_method_2_code 69 = .ok (.getfield 80, 3) := by decide +kernel
theorem dB_channel_72 : decode prog_1_method_2_code 72 = .ok (.ifCond .eq 12, 3) := by decide +kernel
theorem dB_channel_75 : decode prog_1_method_2_code 75 = .ok (.aload_n 0, 1) := by decide +kernel
theorem dB_channel_76 : decode prog_1_method_2_code 76 = .ok (.iload_n 2, 1) := by decide +kernel
theorem dB_channel_77 : decode prog_1_method_2_code 77 = .ok (.iload_n 1, 1) := by decide +kernel
theorem dB_channel_78 : decode prog_1_method_2_code 78 = .ok (.invokevirtual 83, 3) := by decide +kernel
theorem dB_channel_81 : decode prog_1_method_2_code 81 = .ok (.ifCond .eq 13, 3) := by decide +kernel
theorem dB_channel_84 : decode prog_1_method_2_code 84 = .ok (.new 87, 3) := by decide +kernel
theorem dB_channel_87 : decode prog_1_method_2_code 87 = .ok (.dup, 1) := by decide +kernel
theorem dB_channel_88 : decode prog_1_method_2_code 88 = .ok (.ldc 89, 2) := by decide +kernel
theorem dB_channel_90 : decode prog_1_method_2_code 90 = .ok (.invokespecial 91, 3) := by decide +kernel
theorem dB_channel_93 : decode prog_1_method_2_code 93 = .ok (.athrow, 1) := by decide +kernel
theorem dB_channel_94 : decode prog_1_method_2_code 94 = .ok (.new 92, 3) := by decide +kernel
theorem dB_channel_97 : decode prog_1_method_2_code 97 = .ok (.dup, 1) := by decide +kernel
theorem dB_channel_98 : decode prog_1_method_2_code 98 = .ok (.iload_n 1, 1) := by decide +kernel
theorem dB_channel_99 : decode prog_1_method_2_code 99 = .ok (.iload_n 2, 1) := by decide +kernel
theorem dB_channel_100 : decode prog_1_method_2_code 100 = .ok (.invokespecial 94, 3) := by decide +kernel
theorem dB_channel_103 : decode prog_1_method_2_code 103 = .ok (.astore 5, 2) := by decide +kernel
theorem dB_channel_105 : decode prog_1_method_2_code 105 = .ok (.aload 4, 2) := by decide +kernel
theorem dB_channel_107 : decode prog_1_method_2_code 107 = .ok (.aload 5, 2) := by decide +kernel
theorem dB_channel_109 : decode prog_1_method_2_code 109 = .ok (.invokevirtual 97, 3) := by decide +kernel
theorem dB_channel_112 : decode prog_1_method_2_code 112 = .ok (.aload_n 0, 1) := by decide +kernel
theorem dB_channel_113 : decode prog_1_method_2_code 113 = .ok (.aload 5, 2) := by decide +kernel
theorem dB_channel_115 : decode prog_1_method_2_code 115 = .ok (.aload_n 3, 1) := by decide +kernel
theorem dB_channel_116 : decode prog_1_method_2_code 116 = .ok (.invokevirtual 76, 3) := by decide +kernel
theorem dB_channel_119 : decode prog_1_method_2_code 119 = .ok (.ireturn, 1) := by decide +kernel
theorem dB_channelAt_0 : decode prog_1_method_26_code 0 = .ok (.iload_n 1, 1) := by decide +kernel
theorem dB_channelAt_1 : decode prog_1_method_26_code 1 = .ok (.ifCond .lt 11, 3) := by decide +kernel
theorem dB_channelAt_4 : decode prog_1_method_26_code 4 = .ok (.iload_n 1, 1) := by decide +kernel
theorem dB_channelAt_5 : decode prog_1_method_26_code 5 = .ok (.aload_n 0, 1) := by decide +kernel
theorem dB_channelAt_6 : decode prog_1_method_26_code 6 = .ok (.getfield 62, 3) := by decide +kernel
theorem dB_channelAt_9 : decode prog_1_method_26_code 9 = .ok (.if_icmp .lt 14, 3) := by decide +kernel
theorem dB_channelAt_12 : decode prog_1_method_26_code 12 = .ok (.new 240, 3) := by decide +kernel
theorem dB_channelAt_15 : decode prog_1_method_26_code 15 = .ok (.dup, 1) := by decide +kernel
theorem dB_channelAt_16 : decode prog_1_method_26_code 16 = .ok (.ldc_w 262, 3) := by decide +kernel
theorem dB_channelAt_19 : decode prog_1_method_26_code 19 = .ok (.invokespecial 244, 3) := by decide +kernel
theorem dB_channelAt_22 : decode prog_1_method_26_code 22 = .ok (.athrow, 1) := by decide +kernel
theorem dB_channelAt_23 : decode prog_1_method_26_code 23 = .ok (.aload_n 0, 1) := by decide +kernel
theorem dB_channelAt_24 : decode prog_1_method_26_code 24 = .ok (.getfield 11, 3) := by decide +kernel
theorem dB_channelAt_27 : decode prog_1_method_26_code 27 = .ok (.iload_n 1, 1) := by decide +kernel
theorem dB_channelAt_28 : decode prog_1_method_26_code 28 = .ok (.aaload, 1) := by decide +kernel
theorem dB_channelAt_29 : decode prog_1_method_26_code 29 = .ok (.areturn, 1) := by decide +kernel
theorem dB_sourceAt_0 : decode prog_1_method_27_code 0 = .ok (.aload_n 0, 1) := by decide +kernel
theorem dB_sourceAt_1 : decode prog_1_method_27_code 1 = .ok (.iload_n 1, 1) := by decide +kernel
theorem dB_sourceAt_2 : decode prog_1_method_27_code 2 = .ok (.invokevirtual 233, 3) := by decide +kernel
theorem dB_sourceAt_5 : decode prog_1_method_27_code 5 = .ok (.astore_n 3, 1) := by decide +kernel
theorem dB_sourceAt_6 : decode prog_1_method_27_code 6 = .ok (.aload_n 3, 1) := by decide +kernel
theorem dB_sourceAt_7 : decode prog_1_method_27_code 7 = .ok (.instanceof 73, 3) := by decide +kernel
theorem dB_sourceAt_10 : decode prog_1_method_27_code 10 = .ok (.ifCond .eq 10, 3) := by decide +kernel
theorem dB_sourceAt_13 : decode prog_1_method_27_code 13 = .ok (.aload_n 3, 1) := by decide +kernel
theorem dB_sourceAt_14 : decode prog_1_method_27_code 14 = .ok (.checkcast 73, 3) := by decide +kernel
theorem dB_sourceAt_17 : decode prog_1_method_27_code 17 = .ok (.astore_n 2, 1) := by decide +kernel
theorem dB_sourceAt_18 : decode prog_1_method_27_code 18 = .ok (.aload_n 2, 1) := by decide +kernel
theorem dB_sourceAt_19 : decode prog_1_method_27_code 19 = .ok (.areturn, 1) := by decide +kernel
theorem dB_sourceAt_20 : decode prog_1_method_27_code 20 = .ok (.new 66, 3) := by decide +kernel
theorem dB_sourceAt_23 : decode prog_1_method_27_code 23 = .ok (.dup, 1) := by decide +kernel
theorem dB_sourceAt_24 : decode prog_1_method_27_code 24 = .ok (.ldc 242, 2) := by decide +kernel
theorem dB_sourceAt_26 : decode prog_1_method_27_code 26 = .ok (.invokespecial 70, 3) := by decide +kernel
theorem dB_sourceAt_29 : decode prog_1_method_27_code 29 = .ok (.athrow, 1) := by decide +kernel
theorem dB_send_0 : decode prog_1_method_3_code 0 = .ok (.aload_n 0, 1) := by decide +kernel
theorem dB_send_1 : decode prog_1_method_3_code 1 = .ok (.iload_n 1, 1) := by decide +kernel
theorem dB_send_2 : decode prog_1_method_3_code 2 = .ok (.invokevirtual 101, 3) := by decide +kernel
theorem dB_send_5 : decode prog_1_method_3_code 5 = .ok (.astore 4, 2) := by decide +kernel
theorem dB_send_7 : decode prog_1_method_3_code 7 = .ok (.aload 4, 2) := by decide +kernel
theorem dB_send_9 : decode prog_1_method_3_code 9 = .ok (.getfield 105, 3) := by decide +kernel
theorem dB_send_12 : decode prog_1_method_3_code 12 = .ok (.ifCond .ne 14, 3) := by decide +kernel
theorem dB_send_15 : decode prog_1_method_3_code 15 = .ok (.aload 4, 2) := by decide +kernel
theorem dB_send_17 : decode prog_1_method_3_code 17 = .ok (.getfield 108, 3) := by decide +kernel
theorem dB_send_20 : decode prog_1_method_3_code 20 = .ok (.sipush 200, 3) := by decide +kernel
theorem dB_send_23 : decode prog_1_method_3_code 23 = .ok (.if_icmp .lt 13, 3) := by decide +kernel
theorem dB_send_26 : decode prog_1_method_3_code 26 = .ok (.new 66, 3) := by decide +kernel
theorem dB_send_29 : decode prog_1_method_3_code 29 = .ok (.dup, 1) := by decide +kernel
theorem dB_send_30 : decode prog_1_method_3_code 30 = .ok (.ldc 111, 2) := by decide +kernel
theorem dB_send_32 : decode prog_1_method_3_code 32 = .ok (.invokespecial 70, 3) := by decide +kernel
theorem dB_send_35 : decode prog_1_method_3_code 35 = .ok (.athrow, 1) := by decide +kernel
theorem dB_send_36 : decode prog_1_method_3_code 36 = .ok (.aload_n 0, 1) := by decide +kernel
theorem dB_send_37 : decode prog_1_method_3_code 37 = .ok (.iconst 1, 1) := by decide +kernel
theorem dB_send_38 : decode prog_1_method_3_code 38 = .ok (.putfield 58, 3) := by decide +kernel
theorem dB_send_41 : decode prog_1_method_3_code 41 = .ok (.aload 4, 2) := by decide +kernel
theorem dB_send_43 : decode prog_1_method_3_code 43 = .ok (.lload_n 2, 1) := by decide +kernel
theorem dB_send_44 : decode prog_1_method_3_code 44 = .ok (.invokevirtual 113, 3) := by decide +kernel
theorem dB_send_47 : decode prog_1_method_3_code 47 = .ok (.aload 4, 2) := by decide +kernel
theorem dB_send_49 : decode prog_1_method_3_code 49 = .ok (.getfield 108, 3) := by decide +kernel
theorem dB_send_52 : decode prog_1_method_3_code 52 = .ok (.ireturn, 1) := by decide +kernel
theorem dB_finish_0 : decode prog_1_method_4_code 0 = .ok (.aload_n 0, 1) := by decide +kernel
theorem dB_finish_1 : decode prog_1_method_4_code 1 = .ok (.iload_n 1, 1) := by decide +kernel
theorem dB_finish_2 : decode prog_1_method_4_code 2 = .ok (.invokevirtual 101, 3) := by decide +kernel
theorem dB_finish_5 : decode prog_1_method_4_code 5 = .ok (.astore_n 2, 1) := by decide +kernel
theorem dB_finish_6 : decode prog_1_method_4_code 6 = .ok (.aload_n 2, 1) := by decide +kernel
theorem dB_finish_7 : decode prog_1_method_4_code 7 = .ok (.getfield 105, 3) := by decide +kernel
theorem dB_finish_10 : decode prog_1_method_4_code 10 = .ok (.ifCond .eq 13, 3) := by decide +kernel
theorem dB_finish_13 : decode prog_1_method_4_code 13 = .ok (.new 66, 3) := by decide +kernel
theorem dB_finish_16 : decode prog_1_method_4_code 16 = .ok (.dup, 1) := by decide +kernel
theorem dB_finish_17 : decode prog_1_method_4_code 17 = .ok (.ldc 117, 2) := by decide +kernel
theorem dB_finish_19 : decode prog_1_method_4_code 19 = .ok (.invokespecial 70, 3) := by decide +kernel
theorem dB_finish_22 : decode prog_1_method_4_code 22 = .ok (.athrow, 1) := by decide +kernel
theorem dB_finish_23 : decode prog_1_method_4_code 23 = .ok (.aload_n 0, 1) := by decide +kernel
theorem dB_finish_24 : decode prog_1_method_4_code 24 = .ok (.iconst 1, 1) := by decide +kernel
theorem dB_finish_25 : decode prog_1_method_4_code 25 = .ok (.putfield 58, 3) := by decide +kernel
theorem dB_finish_28 : decode prog_1_method_4_code 28 = .ok (.aload_n 2, 1) := by decide +kernel
theorem dB_finish_29 : decode prog_1_method_4_code 29 = .ok (.iconst 1, 1) := by decide +kernel
theorem dB_finish_30 : decode prog_1_method_4_code 30 = .ok (.putfield 105, 3) := by decide +kernel
theorem dB_finish_33 : decode prog_1_method_4_code 33 = .ok (.aload_n 2, 1) := by decide +kernel
theorem dB_finish_34 : decode prog_1_method_4_code 34 = .ok (.getfield 108, 3) := by decide +kernel
theorem dB_finish_37 : decode prog_1_method_4_code 37 = .ok (.ireturn, 1) := by decide +kernel
theorem dB_keepAndAck_0 : decode prog_1_method_39_code 0 = .ok (.aload_n 1, 1) := by decide +kernel
theorem dB_keepAndAck_1 : decode prog_1_method_39_code 1 = .ok (.aload_n 2, 1) := by decide +kernel
theorem dB_keepAndAck_2 : decode prog_1_method_39_code 2 = .ok (.invokevirtual 300, 3) := by decide +kernel
theorem dB_keepAndAck_5 : decode prog_1_method_39_code 5 = .ok (.aload_n 0, 1) := by decide +kernel
theorem dB_keepAndAck_6 : decode prog_1_method_39_code 6 = .ok (.getfield 24, 3) := by decide +kernel
theorem dB_keepAndAck_9 : decode prog_1_method_39_code 9 = .ok (.aload_n 1, 1) := by decide +kernel
theorem dB_keepAndAck_10 : decode prog_1_method_39_code 10 = .ok (.getfield 294, 3) := by decide +kernel
theorem dB_keepAndAck_13 : decode prog_1_method_39_code 13 = .ok (.aload_n 2, 1) := by decide +kernel
theorem dB_keepAndAck_14 : decode prog_1_method_39_code 14 = .ok (.getfield 304, 3) := by decide +kernel
theorem dB_keepAndAck_17 : decode prog_1_method_39_code 17 = .ok (.invokevirtual 177, 3) := by decide +kernel
theorem dB_keepAndAck_20 : decode prog_1_method_39_code 20 = .ok (.return_, 1) := by decide +kernel
theorem dB_mark_0 : decode prog_1_method_5_code 0 = .ok (.aload_n 0, 1) := by decide +kernel
theorem dB_mark_1 : decode prog_1_method_5_code 1 = .ok (.getfield 119, 3) := by decide +kernel
theorem dB_mark_4 : decode prog_1_method_5_code 4 = .ok (.iconst 3, 1) := by decide +kernel
theorem dB_mark_5 : decode prog_1_method_5_code 5 = .ok (.if_icmp .ge 12, 3) := by decide +kernel
theorem dB_mark_8 : decode prog_1_method_5_code 8 = .ok (.aload_n 0, 1) := by decide +kernel
theorem dB_mark_9 : decode prog_1_method_5_code 9 = .ok (.getfield 122, 3) := by decide +kernel
theorem dB_mark_12 : decode prog_1_method_5_code 12 = .ok (.bipush 40, 2) := by decide +kernel
theorem dB_mark_14 : decode prog_1_method_5_code 14 = .ok (.if_icmp .lt 13, 3) := by decide +kernel
theorem dB_mark_17 : decode prog_1_method_5_code 17 = .ok (.new 66, 3) := by decide +kernel
theorem dB_mark_20 : decode prog_1_method_5_code 20 = .ok (.dup, 1) := by decide +kernel
theorem dB_mark_21 : decode prog_1_method_5_code 21 = .ok (.ldc 125, 2) := by decide +kernel
theorem dB_mark_23 : decode prog_1_method_5_code 23 = .ok (.invokespecial 70, 3) := by decide +kernel
theorem dB_mark_26 : decode prog_1_method_5_code 26 = .ok (.athrow, 1) := by decide +kernel
theorem dB_mark_27 : decode prog_1_method_5_code 27 = .ok (.aload_n 0, 1) := by decide +kernel
theorem dB_mark_28 : decode prog_1_method_5_code 28 = .ok (.iconst 1, 1) := by decide +kernel
theorem dB_mark_29 : decode prog_1_method_5_code 29 = .ok (.putfield 58, 3) := by decide +kernel
theorem dB_mark_32 : decode prog_1_method_5_code 32 = .ok (.aload_n 0, 1) := by decide +kernel
theorem dB_mark_33 : decode prog_1_method_5_code 33 = .ok (.getfield 122, 3) := by decide +kernel
theorem dB_mark_36 : decode prog_1_method_5_code 36 = .ok (.istore_n 1, 1) := by decide +kernel
theorem dB_mark_37 : decode prog_1_method_5_code 37 = .ok (.new 15, 3) := by decide +kernel
theorem dB_mark_40 : decode prog_1_method_5_code 40 = .ok (.dup, 1) := by decide +kernel
theorem dB_mark_41 : decode prog_1_method_5_code 41 = .ok (.iload_n 1, 1) := by decide +kernel
theorem dB_mark_42 : decode prog_1_method_5_code 42 = .ok (.aload_n 0, 1) := by decide +kernel
theorem dB_mark_43 : decode prog_1_method_5_code 43 = .ok (.getfield 39, 3) := by decide +kernel
theorem dB_mark_46 : decode prog_1_method_5_code 46 = .ok (.arraylength, 1) := by decide +kernel
theorem dB_mark_47 : decode prog_1_method_5_code 47 = .ok (.invokespecial 127, 3) := by decide +kernel
theorem dB_mark_50 : decode prog_1_method_5_code 50 = .ok (.astore_n 2, 1) := by decide +kernel
theorem dB_mark_51 : decode prog_1_method_5_code 51 = .ok (.aload_n 0, 1) := by decide +kernel
theorem dB_mark_52 : decode prog_1_method_5_code 52 = .ok (.getfield 17, 3) := by decide +kernel
theorem dB_mark_55 : decode prog_1_method_5_code 55 = .ok (.iload_n 1, 1) := by decide +kernel
theorem dB_mark_56 : decode prog_1_method_5_code 56 = .ok (.aload_n 2, 1) := by decide +kernel
theorem dB_mark_57 : decode prog_1_method_5_code 57 = .ok (.aastore, 1) := by decide +kernel
theorem dB_mark_58 : decode prog_1_method_5_code 58 = .ok (.aload_n 0, 1) := by decide +kernel
theorem dB_mark_59 : decode prog_1_method_5_code 59 = .ok (.dup, 1) := by decide +kernel
theorem dB_mark_60 : decode prog_1_method_5_code 60 = .ok (.getfield 122, 3) := by decide +kernel
theorem dB_mark_63 : decode prog_1_method_5_code 63 = .ok (.iconst 1, 1) := by decide +kernel
theorem dB_mark_64 : decode prog_1_method_5_code 64 = .ok (.iadd, 1) := by decide +kernel
theorem dB_mark_65 : decode prog_1_method_5_code 65 = .ok (.putfield 122, 3) := by decide +kernel
theorem dB_mark_68 : decode prog_1_method_5_code 68 = .ok (.aload_n 0, 1) := by decide +kernel
theorem dB_mark_69 : decode prog_1_method_5_code 69 = .ok (.dup, 1) := by decide +kernel
theorem dB_mark_70 : decode prog_1_method_5_code 70 = .ok (.getfield 119, 3) := by decide +kernel
theorem dB_mark_73 : decode prog_1_method_5_code 73 = .ok (.iconst 1, 1) := by decide +kernel
theorem dB_mark_74 : decode prog_1_method_5_code 74 = .ok (.iadd, 1) := by decide +kernel
theorem dB_mark_75 : decode prog_1_method_5_code 75 = .ok (.putfield 119, 3) := by decide +kernel
theorem dB_mark_78 : decode prog_1_method_5_code 78 = .ok (.iconst 0, 1) := by decide +kernel
theorem dB_mark_79 : decode prog_1_method_5_code 79 = .ok (.istore_n 3, 1) := by decide +kernel
theorem dB_mark_80 : decode prog_1_method_5_code 80 = .ok (.iload_n 3, 1) := by decide +kernel
theorem dB_mark_81 : decode prog_1_method_5_code 81 = .ok (.aload_n 0, 1) := by decide +kernel
theorem dB_mark_82 : decode prog_1_method_5_code 82 = .ok (.getfield 62, 3) := by decide +kernel
theorem dB_mark_85 : decode prog_1_method_5_code 85 = .ok (.if_icmp .ge 19, 3) := by decide +kernel
theorem dB_mark_88 : decode prog_1_method_5_code 88 = .ok (.aload_n 0, 1) := by decide +kernel
theorem dB_mark_89 : decode prog_1_method_5_code 89 = .ok (.getfield 11, 3) := by decide +kernel
theorem dB_mark_92 : decode prog_1_method_5_code 92 = .ok (.iload_n 3, 1) := by decide +kernel
theorem dB_mark_93 : decode prog_1_method_5_code 93 = .ok (.aaload, 1) := by decide +kernel
theorem dB_mark_94 : decode prog_1_method_5_code 94 = .ok (.iload_n 1, 1) := by decide +kernel
theorem dB_mark_95 : decode prog_1_method_5_code 95 = .ok (.invokevirtual 128, 3) := by decide +kernel
theorem dB_mark_98 : decode prog_1_method_5_code 98 = .ok (.iinc 3 1, 3) := by decide +kernel
theorem dB_mark_101 : decode prog_1_method_5_code 101 = .ok (.goto (-21), 3) := by decide +kernel
theorem dB_mark_104 : decode prog_1_method_5_code 104 = .ok (.iconst 0, 1) := by decide +kernel
theorem dB_mark_105 : decode prog_1_method_5_code 105 = .ok (.istore_n 3, 1) := by decide +kernel
theorem dB_mark_106 : decode prog_1_method_5_code 106 = .ok (.iload_n 3, 1) := by decide +kernel
theorem dB_mark_107 : decode prog_1_method_5_code 107 = .ok (.aload_n 0, 1) := by decide +kernel
theorem dB_mark_108 : decode prog_1_method_5_code 108 = .ok (.getfield 39, 3) := by decide +kernel
theorem dB_mark_111 : decode prog_1_method_5_code 111 = .ok (.arraylength, 1) := by decide +kernel
theorem dB_mark_112 : decode prog_1_method_5_code 112 = .ok (.if_icmp .ge 44, 3) := by decide +kernel
theorem dB_mark_115 : decode prog_1_method_5_code 115 = .ok (.aload_n 0, 1) := by decide +kernel
theorem dB_mark_116 : decode prog_1_method_5_code 116 = .ok (.getfield 39, 3) := by decide +kernel
theorem dB_mark_119 : decode prog_1_method_5_code 119 = .ok (.iload_n 3, 1) := by decide +kernel
theorem dB_mark_120 : decode prog_1_method_5_code 120 = .ok (.aaload, 1) := by decide +kernel
theorem dB_mark_121 : decode prog_1_method_5_code 121 = .ok (.getfield 131, 3) := by decide +kernel
theorem dB_mark_124 : decode prog_1_method_5_code 124 = .ok (.ifCond .ne 15, 3) := by decide +kernel
theorem dB_mark_127 : decode prog_1_method_5_code 127 = .ok (.aload_n 0, 1) := by decide +kernel
theorem dB_mark_128 : decode prog_1_method_5_code 128 = .ok (.getfield 39, 3) := by decide +kernel
theorem dB_mark_131 : decode prog_1_method_5_code 131 = .ok (.iload_n 3, 1) := by decide +kernel
theorem dB_mark_132 : decode prog_1_method_5_code 132 = .ok (.aaload, 1) := by decide +kernel
theorem dB_mark_133 : decode prog_1_method_5_code 133 = .ok (.getfield 80, 3) := by decide +kernel
theorem dB_mark_136 : decode prog_1_method_5_code 136 = .ok (.ifCond .ne 14, 3) := by decide +kernel
theorem dB_mark_139 : decode prog_1_method_5_code 139 = .ok (.aload_n 0, 1) := by decide +kernel
theorem dB_mark_140 : decode prog_1_method_5_code 140 = .ok (.aload_n 2, 1) := by decide +kernel
theorem dB_mark_141 : decode prog_1_method_5_code 141 = .ok (.aload_n 0, 1) := by decide +kernel
theorem dB_mark_142 : decode prog_1_method_5_code 142 = .ok (.getfield 39, 3) := by decide +kernel
theorem dB_mark_145 : decode prog_1_method_5_code 145 = .ok (.iload_n 3, 1) := by decide +kernel
theorem dB_mark_146 : decode prog_1_method_5_code 146 = .ok (.aaload, 1) := by decide +kernel
theorem dB_mark_147 : decode prog_1_method_5_code 147 = .ok (.invokevirtual 134, 3) := by decide +kernel
theorem dB_mark_150 : decode prog_1_method_5_code 150 = .ok (.iinc 3 1, 3) := by decide +kernel
theorem dB_mark_153 : decode prog_1_method_5_code 153 = .ok (.goto (-47), 3) := by decide +kernel
theorem dB_mark_156 : decode prog_1_method_5_code 156 = .ok (.iload_n 1, 1) := by decide +kernel
theorem dB_mark_157 : decode prog_1_method_5_code 157 = .ok (.ireturn, 1) := by decide +kernel
theorem dB_markAt_0 : decode prog_1_method_29_code 0 = .ok (.iload_n 1, 1) := by decide +kernel
theorem dB_markAt_1 : decode prog_1_method_29_code 1 = .ok (.ifCond .lt 11, 3) := by decide +kernel
theorem dB_markAt_4 : decode prog_1_method_29_code 4 = .ok (.iload_n 1, 1) := by decide +kernel
theorem dB_markAt_5 : decode prog_1_method_29_code 5 = .ok (.aload_n 0, 1) := by decide +kernel
theorem dB_markAt_6 : decode prog_1_method_29_code 6 = .ok (.getfield 122, 3) := by decide +kernel
theorem dB_markAt_9 : decode prog_1_method_29_code 9 = .ok (.if_icmp .lt 14, 3) := by decide +kernel
theorem dB_markAt_12 : decode prog_1_method_29_code 12 = .ok (.new 240, 3) := by decide +kernel
theorem dB_markAt_15 : decode prog_1_method_29_code 15 = .ok (.dup, 1) := by decide +kernel
theorem dB_markAt_16 : decode prog_1_method_29_code 16 = .ok (.ldc_w 267, 3) := by decide +kernel
theorem dB_markAt_19 : decode prog_1_method_29_code 19 = .ok (.invokespecial 244, 3) := by decide +kernel
theorem dB_markAt_22 : decode prog_1_method_29_code 22 = .ok (.athrow, 1) := by decide +kernel
theorem dB_markAt_23 : decode prog_1_method_29_code 23 = .ok (.aload_n 0, 1) := by decide +kernel
theorem dB_markAt_24 : decode prog_1_method_29_code 24 = .ok (.getfield 17, 3) := by decide +kernel
theorem dB_markAt_27 : decode prog_1_method_29_code 27 = .ok (.iload_n 1, 1) := by decide +kernel
theorem dB_markAt_28 : decode prog_1_method_29_code 28 = .ok (.aaload, 1) := by decide +kernel
theorem dB_markAt_29 : decode prog_1_method_29_code 29 = .ok (.areturn, 1) := by decide +kernel
theorem dB_stopMark_0 : decode prog_1_method_38_code 0 = .ok (.aload_n 1, 1) := by decide +kernel
theorem dB_stopMark_1 : decode prog_1_method_38_code 1 = .ok (.iload_n 2, 1) := by decide +kernel
theorem dB_stopMark_2 : decode prog_1_method_38_code 2 = .ok (.putfield 183, 3) := by decide +kernel
theorem dB_stopMark_5 : decode prog_1_method_38_code 5 = .ok (.aload_n 0, 1) := by decide +kernel
theorem dB_stopMark_6 : decode prog_1_method_38_code 6 = .ok (.dup, 1) := by decide +kernel
theorem dB_stopMark_7 : decode prog_1_method_38_code 7 = .ok (.getfield 119, 3) := by decide +kernel
theorem dB_stopMark_10 : decode prog_1_method_38_code 10 = .ok (.iconst 1, 1) := by decide +kernel
theorem dB_stopMark_11 : decode prog_1_method_38_code 11 = .ok (.isub, 1) := by decide +kernel
theorem dB_stopMark_12 : decode prog_1_method_38_code 12 = .ok (.putfield 119, 3) := by decide +kernel
theorem dB_stopMark_15 : decode prog_1_method_38_code 15 = .ok (.iconst 0, 1) := by decide +kernel
theorem dB_stopMark_16 : decode prog_1_method_38_code 16 = .ok (.istore_n 3, 1) := by decide +kernel
theorem dB_stopMark_17 : decode prog_1_method_38_code 17 = .ok (.iload_n 3, 1) := by decide +kernel
theorem dB_stopMark_18 : decode prog_1_method_38_code 18 = .ok (.aload_n 0, 1) := by decide +kernel
theorem dB_stopMark_19 : decode prog_1_method_38_code 19 = .ok (.getfield 62, 3) := by decide +kernel
theorem dB_stopMark_22 : decode prog_1_method_38_code 22 = .ok (.if_icmp .ge 44, 3) := by decide +kernel
theorem dB_stopMark_25 : decode prog_1_method_38_code 25 = .ok (.aload_n 0, 1) := by decide +kernel
theorem dB_stopMark_26 : decode prog_1_method_38_code 26 = .ok (.getfield 11, 3) := by decide +kernel
theorem dB_stopMark_29 : decode prog_1_method_38_code 29 = .ok (.iload_n 3, 1) := by decide +kernel
theorem dB_stopMark_30 : decode prog_1_method_38_code 30 = .ok (.aaload, 1) := by decide +kernel
theorem dB_stopMark_31 : decode prog_1_method_38_code 31 = .ok (.astore 4, 2) := by decide +kernel
theorem dB_stopMark_33 : decode prog_1_method_38_code 33 = .ok (.aload 4, 2) := by decide +kernel
theorem dB_stopMark_35 : decode prog_1_method_38_code 35 = .ok (.aload_n 1, 1) := by decide +kernel
theorem dB_stopMark_36 : decode prog_1_method_38_code 36 = .ok (.getfield 294, 3) := by decide +kernel
theorem dB_stopMark_39 : decode prog_1_method_38_code 39 = .ok (.invokevirtual 297, 3) := by decide +kernel
theorem dB_stopMark_42 : decode prog_1_method_38_code 42 = .ok (.aload 4, 2) := by decide +kernel
theorem dB_stopMark_44 : decode prog_1_method_38_code 44 = .ok (.getfield 195, 3) := by decide +kernel
theorem dB_stopMark_47 : decode prog_1_method_38_code 47 = .ok (.aload_n 1, 1) := by decide +kernel
theorem dB_stopMark_48 : decode prog_1_method_38_code 48 = .ok (.getfield 294, 3) := by decide +kernel
theorem dB_stopMark_51 : decode prog_1_method_38_code 51 = .ok (.if_icmp .ne 9, 3) := by decide +kernel
theorem dB_stopMark_54 : decode prog_1_method_38_code 54 = .ok (.aload 4, 2) := by decide +kernel
theorem dB_stopMark_56 : decode prog_1_method_38_code 56 = .ok (.iconst (-1), 1) := by decide +kernel
theorem dB_stopMark_57 : decode prog_1_method_38_code 57 = .ok (.putfield 195, 3) := by decide +kernel
theorem dB_stopMark_60 : decode prog_1_method_38_code 60 = .ok (.iinc 3 1, 3) := by decide +kernel
theorem dB_stopMark_63 : decode prog_1_method_38_code 63 = .ok (.goto (-46), 3) := by decide +kernel
theorem dB_stopMark_66 : decode prog_1_method_38_code 66 = .ok (.return_, 1) := by decide +kernel
theorem dB_completeMark_0 : decode prog_1_method_37_code 0 = .ok (.aload_n 0, 1) := by decide +kernel
theorem dB_completeMark_1 : decode prog_1_method_37_code 1 = .ok (.aload_n 1, 1) := by decide +kernel
theorem dB_completeMark_2 : decode prog_1_method_37_code 2 = .ok (.iconst 1, 1) := by decide +kernel
theorem dB_completeMark_3 : decode prog_1_method_37_code 3 = .ok (.invokevirtual 156, 3) := by decide +kernel
theorem dB_completeMark_6 : decode prog_1_method_37_code 6 = .ok (.iconst 0, 1) := by decide +kernel
theorem dB_completeMark_7 : decode prog_1_method_37_code 7 = .ok (.istore_n 2, 1) := by decide +kernel
theorem dB_completeMark_8 : decode prog_1_method_37_code 8 = .ok (.iload_n 2, 1) := by decide +kernel
theorem dB_completeMark_9 : decode prog_1_method_37_code 9 = .ok (.aload_n 1, 1) := by decide +kernel
theorem dB_completeMark_10 : decode prog_1_method_37_code 10 = .ok (.getfield 294, 3) := by decide +kernel
theorem dB_completeMark_13 : decode prog_1_method_37_code 13 = .ok (.if_icmp .ge 32, 3) := by decide +kernel
theorem dB_completeMark_16 : decode prog_1_method_37_code 16 = .ok (.aload_n 0, 1) := by decide +kernel
theorem dB_completeMark_17 : decode prog_1_method_37_code 17 = .ok (.getfield 17, 3) := by decide +kernel
theorem dB_completeMark_20 : decode prog_1_method_37_code 20 = .ok (.iload_n 2, 1) := by decide +kernel
theorem dB_completeMark_21 : decode prog_1_method_37_code 21 = .ok (.aaload, 1) := by decide +kernel
theorem dB_completeMark_22 : decode prog_1_method_37_code 22 = .ok (.getfield 183, 3) := by decide +kernel
theorem dB_completeMark_25 : decode prog_1_method_37_code 25 = .ok (.ifCond .ne 14, 3) := by decide +kernel
theorem dB_completeMark_28 : decode prog_1_method_37_code 28 = .ok (.aload_n 0, 1) := by decide +kernel
theorem dB_completeMark_29 : decode prog_1_method_37_code 29 = .ok (.aload_n 0, 1) := by decide +kernel
theorem dB_completeMark_30 : decode prog_1_method_37_code 30 = .ok (.getfield 17, 3) := by decide +kernel
theorem dB_completeMark_33 : decode prog_1_method_37_code 33 = .ok (.iload_n 2, 1) := by decide +kernel
theorem dB_completeMark_34 : decode prog_1_method_37_code 34 = .ok (.aaload, 1) := by decide +kernel
theorem dB_completeMark_35 : decode prog_1_method_37_code 35 = .ok (.iconst 2, 1) := by decide +kernel
theorem dB_completeMark_36 : decode prog_1_method_37_code 36 = .ok (.invokevirtual 156, 3) := by decide +kernel
theorem dB_completeMark_39 : decode prog_1_method_37_code 39 = .ok (.iinc 2 1, 3) := by decide +kernel
theorem dB_completeMark_42 : decode prog_1_method_37_code 42 = .ok (.goto (-34), 3) := by decide +kernel
theorem dB_completeMark_45 : decode prog_1_method_37_code 45 = .ok (.return_, 1) := by decide +kernel
theorem dB_keeperTurn_0 : decode prog_1_method_36_code 0 = .ok (.aload_n 0, 1) := by decide +kernel
theorem dB_keeperTurn_1 : decode prog_1_method_36_code 1 = .ok (.getfield 24, 3) := by decide +kernel
theorem dB_keeperTurn_4 : decode prog_1_method_36_code 4 = .ok (.getfield 172, 3) := by decide +kernel
theorem dB_keeperTurn_7 : decode prog_1_method_36_code 7 = .ok (.ifCond .ne 5, 3) := by decide +kernel
theorem dB_keeperTurn_10 : decode prog_1_method_36_code 10 = .ok (.iconst 0, 1) := by decide +kernel
theorem dB_keeperTurn_11 : decode prog_1_method_36_code 11 = .ok (.ireturn, 1) := by decide +kernel
theorem dB_keeperTurn_12 : decode prog_1_method_36_code 12 = .ok (.aload_n 0, 1) := by decide +kernel
theorem dB_keeperTurn_13 : decode prog_1_method_36_code 13 = .ok (.aload_n 0, 1) := by decide +kernel
theorem dB_keeperTurn_14 : decode prog_1_method_36_code 14 = .ok (.getfield 24, 3) := by decide +kernel
theorem dB_keeperTurn_17 : decode prog_1_method_36_code 17 = .ok (.invokevirtual 279, 3) := by decide +kernel
theorem dB_keeperTurn_20 : decode prog_1_method_36_code 20 = .ok (.invokevirtual 230, 3) := by decide +kernel
theorem dB_keeperTurn_23 : decode prog_1_method_36_code 23 = .ok (.astore_n 1, 1) := by decide +kernel
theorem dB_keeperTurn_24 : decode prog_1_method_36_code 24 = .ok (.aload_n 0, 1) := by decide +kernel
theorem dB_keeperTurn_25 : decode prog_1_method_36_code 25 = .ok (.getfield 24, 3) := by decide +kernel
theorem dB_keeperTurn_28 : decode prog_1_method_36_code 28 = .ok (.invokevirtual 282, 3) := by decide +kernel
theorem dB_keeperTurn_31 : decode prog_1_method_36_code 31 = .ok (.istore_n 2, 1) := by decide +kernel
theorem dB_keeperTurn_32 : decode prog_1_method_36_code 32 = .ok (.aload_n 0, 1) := by decide +kernel
theorem dB_keeperTurn_33 : decode prog_1_method_36_code 33 = .ok (.getfield 24, 3) := by decide +kernel
theorem dB_keeperTurn_36 : decode prog_1_method_36_code 36 = .ok (.invokevirtual 285, 3) := by decide +kernel
theorem dB_keeperTurn_39 : decode prog_1_method_36_code 39 = .ok (.aload_n 1, 1) := by decide +kernel
theorem dB_keeperTurn_40 : decode prog_1_method_36_code 40 = .ok (.getfield 183, 3) := by decide +kernel
theorem dB_keeperTurn_43 : decode prog_1_method_36_code 43 = .ok (.ifCond .ne 12, 3) := by decide +kernel
theorem dB_keeperTurn_46 : decode prog_1_method_36_code 46 = .ok (.aload_n 1, 1) := by decide +kernel
theorem dB_keeperTurn_47 : decode prog_1_method_36_code 47 = .ok (.getfield 288, 3) := by decide +kernel
theorem dB_keeperTurn_50 : decode prog_1_method_36_code 50 = .ok (.iload_n 2, 1) := by decide +kernel
theorem dB_keeperTurn_51 : decode prog_1_method_36_code 51 = .ok (.baload, 1) := by decide +kernel
theorem dB_keeperTurn_52 : decode prog_1_method_36_code 52 = .ok (.ifCond .eq 6, 3) := by decide +kernel
theorem dB_keeperTurn_55 : decode prog_1_method_36_code 55 = .ok (.bipush 7, 2) := by decide +kernel
theorem dB_keeperTurn_57 : decode prog_1_method_36_code 57 = .ok (.ireturn, 1) := by decide +kernel
theorem dB_keeperTurn_58 : decode prog_1_method_36_code 58 = .ok (.aload_n 1, 1) := by decide +kernel
theorem dB_keeperTurn_59 : decode prog_1_method_36_code 59 = .ok (.getfield 288, 3) := by decide +kernel
theorem dB_keeperTurn_62 : decode prog_1_method_36_code 62 = .ok (.iload_n 2, 1) := by decide +kernel
theorem dB_keeperTurn_63 : decode prog_1_method_36_code 63 = .ok (.iconst 1, 1) := by decide +kernel
theorem dB_keeperTurn_64 : decode prog_1_method_36_code 64 = .ok (.bastore, 1) := by decide +kernel
theorem dB_keeperTurn_65 : decode prog_1_method_36_code 65 = .ok (.aload_n 1, 1) := by decide +kernel
theorem dB_keeperTurn_66 : decode prog_1_method_36_code 66 = .ok (.dup, 1) := by decide +kernel
theorem dB_keeperTurn_67 : decode prog_1_method_36_code 67 = .ok (.getfield 160, 3) := by decide +kernel
theorem dB_keeperTurn_70 : decode prog_1_method_36_code 70 = .ok (.iconst 1, 1) := by decide +kernel
theorem dB_keeperTurn_71 : decode prog_1_method_36_code 71 = .ok (.iadd, 1) := by decide +kernel
theorem dB_keeperTurn_72 : decode prog_1_method_36_code 72 = .ok (.putfield 160, 3) := by decide +kernel
theorem dB_keeperTurn_75 : decode prog_1_method_36_code 75 = .ok (.aload_n 1, 1) := by decide +kernel
theorem dB_keeperTurn_76 : decode prog_1_method_36_code 76 = .ok (.getfield 160, 3) := by decide +kernel
theorem dB_keeperTurn_79 : decode prog_1_method_36_code 79 = .ok (.aload_n 0, 1) := by decide +kernel
theorem dB_keeperTurn_80 : decode prog_1_method_36_code 80 = .ok (.getfield 39, 3) := by decide +kernel
theorem dB_keeperTurn_83 : decode prog_1_method_36_code 83 = .ok (.arraylength, 1) := by decide +kernel
theorem dB_keeperTurn_84 : decode prog_1_method_36_code 84 = .ok (.if_icmp .ge 6, 3) := by decide +kernel
theorem dB_keeperTurn_87 : decode prog_1_method_36_code 87 = .ok (.bipush 7, 2) := by decide +kernel
theorem dB_keeperTurn_89 : decode prog_1_method_36_code 89 = .ok (.ireturn, 1) := by decide +kernel
theorem dB_keeperTurn_90 : decode prog_1_method_36_code 90 = .ok (.aload_n 0, 1) := by decide +kernel
theorem dB_keeperTurn_91 : decode prog_1_method_36_code 91 = .ok (.aload_n 1, 1) := by decide +kernel
theorem dB_keeperTurn_92 : decode prog_1_method_36_code 92 = .ok (.invokevirtual 291, 3) := by decide +kernel
theorem dB_keeperTurn_95 : decode prog_1_method_36_code 95 = .ok (.bipush 8, 2) := by decide +kernel
theorem dB_keeperTurn_97 : decode prog_1_method_36_code 97 = .ok (.ireturn, 1) := by decide +kernel
theorem dB_takeNext_0 : decode prog_1_method_43_code 0 = .ok (.aload_n 1, 1) := by decide +kernel
theorem dB_takeNext_1 : decode prog_1_method_43_code 1 = .ok (.invokevirtual 331, 3) := by decide +kernel
theorem dB_takeNext_4 : decode prog_1_method_43_code 4 = .ok (.istore_n 2, 1) := by decide +kernel
theorem dB_takeNext_5 : decode prog_1_method_43_code 5 = .ok (.iload_n 2, 1) := by decide +kernel
theorem dB_takeNext_6 : decode prog_1_method_43_code 6 = .ok (.iconst (-1), 1) := by decide +kernel
theorem dB_takeNext_7 : decode prog_1_method_43_code 7 = .ok (.if_icmp .ne 5, 3) := by decide +kernel
theorem dB_takeNext_10 : decode prog_1_method_43_code 10 = .ok (.iconst 0, 1) := by decide +kernel
theorem dB_takeNext_11 : decode prog_1_method_43_code 11 = .ok (.ireturn, 1) := by decide +kernel
theorem dB_takeNext_12 : decode prog_1_method_43_code 12 = .ok (.aload_n 1, 1) := by decide +kernel
theorem dB_takeNext_13 : decode prog_1_method_43_code 13 = .ok (.getfield 334, 3) := by decide +kernel
theorem dB_takeNext_16 : decode prog_1_method_43_code 16 = .ok (.iload_n 2, 1) := by decide +kernel
theorem dB_takeNext_17 : decode prog_1_method_43_code 17 = .ok (.aaload, 1) := by decide +kernel
theorem dB_takeNext_18 : decode prog_1_method_43_code 18 = .ok (.astore_n 3, 1) := by decide +kernel
theorem dB_takeNext_19 : decode prog_1_method_43_code 19 = .ok (.aload_n 3, 1) := by decide +kernel
theorem dB_takeNext_20 : decode prog_1_method_43_code 20 = .ok (.invokevirtual 337, 3) := by decide +kernel
theorem dB_takeNext_23 : decode prog_1_method_43_code 23 = .ok (.istore 4, 2) := by decide +kernel
theorem dB_takeNext_25 : decode prog_1_method_43_code 25 = .ok (.aload_n 3, 1) := by decide +kernel
theorem dB_takeNext_26 : decode prog_1_method_43_code 26 = .ok (.invokevirtual 340, 3) := by decide +kernel
theorem dB_takeNext_29 : decode prog_1_method_43_code 29 = .ok (.lstore 5, 2) := by decide +kernel
theorem dB_takeNext_31 : decode prog_1_method_43_code 31 = .ok (.iload 4, 2) := by decide +kernel
theorem dB_takeNext_33 : decode prog_1_method_43_code 33 = .ok (.ifCond .ne 12, 3) := by decide +kernel
theorem dB_takeNext_36 : decode prog_1_method_43_code 36 = .ok (.aload_n 1, 1) := by decide +kernel
theorem dB_takeNext_37 : decode prog_1_method_43_code 37 = .ok (.invokevirtual 321, 3) := by decide +kernel
theorem dB_takeNext_40 : decode prog_1_method_43_code 40 = .ok (.ifCond .ne 5, 3) := by decide +kernel
theorem dB_takeNext_43 : decode prog_1_method_43_code 43 = .ok (.iconst 0, 1) := by decide +kernel
theorem dB_takeNext_44 : decode prog_1_method_43_code 44 = .ok (.ireturn, 1) := by decide +kernel
theorem dB_takeNext_45 : decode prog_1_method_43_code 45 = .ok (.aload_n 3, 1) := by decide +kernel
theorem dB_takeNext_46 : decode prog_1_method_43_code 46 = .ok (.invokevirtual 344, 3) := by decide +kernel
theorem dB_takeNext_49 : decode prog_1_method_43_code 49 = .ok (.aload_n 1, 1) := by decide +kernel
theorem dB_takeNext_50 : decode prog_1_method_43_code 50 = .ok (.iload_n 2, 1) := by decide +kernel
theorem dB_takeNext_51 : decode prog_1_method_43_code 51 = .ok (.invokevirtual 347, 3) := by decide +kernel
theorem dB_takeNext_54 : decode prog_1_method_43_code 54 = .ok (.iload 4, 2) := by decide +kernel
theorem dB_takeNext_56 : decode prog_1_method_43_code 56 = .ok (.ifCond .ne 43, 3) := by decide +kernel
theorem dB_takeNext_59 : decode prog_1_method_43_code 59 = .ok (.aload_n 1, 1) := by decide +kernel
theorem dB_takeNext_60 : decode prog_1_method_43_code 60 = .ok (.dup, 1) := by decide +kernel
theorem dB_takeNext_61 : decode prog_1_method_43_code 61 = .ok (.getfield 212, 3) := by decide +kernel
theorem dB_takeNext_64 : decode prog_1_method_43_code 64 = .ok (.lload 5, 2) := by decide +kernel
theorem dB_takeNext_66 : decode prog_1_method_43_code 66 = .ok (.ladd, 1) := by decide +kernel
theorem dB_takeNext_67 : decode prog_1_method_43_code 67 = .ok (.putfield 212, 3) := by decide +kernel
theorem dB_takeNext_70 : decode prog_1_method_43_code 70 = .ok (.aload_n 1, 1) := by decide +kernel
theorem dB_takeNext_71 : decode prog_1_method_43_code 71 = .ok (.dup, 1) := by decide +kernel
theorem dB_takeNext_72 : decode prog_1_method_43_code 72 = .ok (.getfield 216, 3) := by decide +kernel
theorem dB_takeNext_75 : decode prog_1_method_43_code 75 = .ok (.iconst 1, 1) := by decide +kernel
theorem dB_takeNext_76 : decode prog_1_method_43_code 76 = .ok (.iadd, 1) := by decide +kernel
theorem dB_takeNext_77 : decode prog_1_method_43_code 77 = .ok (.putfield 216, 3) := by decide +kernel
theorem dB_takeNext_80 : decode prog_1_method_43_code 80 = .ok (.aload_n 1, 1) := by decide +kernel
theorem dB_takeNext_81 : decode prog_1_method_43_code 81 = .ok (.iconst 0, 1) := by decide +kernel
theorem dB_takeNext_82 : decode prog_1_method_43_code 82 = .ok (.ldc2_w 350, 3) := by decide +kernel
theorem dB_takeNext_85 : decode prog_1_method_43_code 85 = .ok (.lload 5, 2) := by decide +kernel
theorem dB_takeNext_87 : decode prog_1_method_43_code 87 = .ok (.lmul, 1) := by decide +kernel
theorem dB_takeNext_88 : decode prog_1_method_43_code 88 = .ok (.aload_n 1, 1) := by decide +kernel
theorem dB_takeNext_89 : decode prog_1_method_43_code 89 = .ok (.getfield 304, 3) := by decide +kernel
theorem dB_takeNext_92 : decode prog_1_method_43_code 92 = .ok (.i2l, 1) := by decide +kernel
theorem dB_takeNext_93 : decode prog_1_method_43_code 93 = .ok (.ladd, 1) := by decide +kernel
theorem dB_takeNext_94 : decode prog_1_method_43_code 94 = .ok (.invokevirtual 324, 3) := by decide +kernel
theorem dB_takeNext_97 : decode prog_1_method_43_code 97 = .ok (.iconst 1, 1) := by decide +kernel
theorem dB_takeNext_98 : decode prog_1_method_43_code 98 = .ok (.ireturn, 1) := by decide +kernel
theorem dB_takeNext_99 : decode prog_1_method_43_code 99 = .ok (.iload 4, 2) := by decide +kernel
theorem dB_takeNext_101 : decode prog_1_method_43_code 101 = .ok (.iconst 1, 1) := by decide +kernel
theorem dB_takeNext_102 : decode prog_1_method_43_code 102 = .ok (.if_icmp .ne 12, 3) := by decide +kernel
theorem dB_takeNext_105 : decode prog_1_method_43_code 105 = .ok (.aload_n 3, 1) := by decide +kernel
theorem dB_takeNext_106 : decode prog_1_method_43_code 106 = .ok (.lload 5, 2) := by decide +kernel
theorem dB_takeNext_108 : decode prog_1_method_43_code 108 = .ok (.l2i, 1) := by decide +kernel
theorem dB_takeNext_109 : decode prog_1_method_43_code 109 = .ok (.putfield 195, 3) := by decide +kernel
theorem dB_takeNext_112 : decode prog_1_method_43_code 112 = .ok (.iconst 2, 1) := by decide +kernel
theorem dB_takeNext_113 : decode prog_1_method_43_code 113 = .ok (.ireturn, 1) := by decide +kernel
theorem dB_takeNext_114 : decode prog_1_method_43_code 114 = .ok (.aload_n 3, 1) := by decide +kernel
theorem dB_takeNext_115 : decode prog_1_method_43_code 115 = .ok (.iconst 1, 1) := by decide +kernel
theorem dB_takeNext_116 : decode prog_1_method_43_code 116 = .ok (.putfield 208, 3) := by decide +kernel
theorem dB_takeNext_119 : decode prog_1_method_43_code 119 = .ok (.iconst 3, 1) := by decide +kernel
theorem dB_takeNext_120 : decode prog_1_method_43_code 120 = .ok (.ireturn, 1) := by decide +kernel
theorem dB_endTask_0 : decode prog_1_method_42_code 0 = .ok (.aload_n 1, 1) := by decide +kernel
theorem dB_endTask_1 : decode prog_1_method_42_code 1 = .ok (.iconst 1, 1) := by decide +kernel
theorem dB_endTask_2 : decode prog_1_method_42_code 2 = .ok (.putfield 131, 3) := by decide +kernel
theorem dB_endTask_5 : decode prog_1_method_42_code 5 = .ok (.aload_n 1, 1) := by decide +kernel
theorem dB_endTask_6 : decode prog_1_method_42_code 6 = .ok (.iconst 2, 1) := by decide +kernel
theorem dB_endTask_7 : decode prog_1_method_42_code 7 = .ok (.lconst 0, 1) := by decide +kernel
theorem dB_endTask_8 : decode prog_1_method_42_code 8 = .ok (.invokevirtual 324, 3) := by decide +kernel
theorem dB_endTask_11 : decode prog_1_method_42_code 11 = .ok (.iconst 0, 1) := by decide +kernel
theorem dB_endTask_12 : decode prog_1_method_42_code 12 = .ok (.istore_n 2, 1) := by decide +kernel
theorem dB_endTask_13 : decode prog_1_method_42_code 13 = .ok (.iload_n 2, 1) := by decide +kernel
theorem dB_endTask_14 : decode prog_1_method_42_code 14 = .ok (.aload_n 0, 1) := by decide +kernel
theorem dB_endTask_15 : decode prog_1_method_42_code 15 = .ok (.getfield 122, 3) := by decide +kernel
theorem dB_endTask_18 : decode prog_1_method_42_code 18 = .ok (.if_icmp .ge 49, 3) := by decide +kernel
theorem dB_endTask_21 : decode prog_1_method_42_code 21 = .ok (.aload_n 0, 1) := by decide +kernel
theorem dB_endTask_22 : decode prog_1_method_42_code 22 = .ok (.getfield 17, 3) := by decide +kernel
theorem dB_endTask_25 : decode prog_1_method_42_code 25 = .ok (.iload_n 2, 1) := by decide +kernel
theorem dB_endTask_26 : decode prog_1_method_42_code 26 = .ok (.aaload, 1) := by decide +kernel
theorem dB_endTask_27 : decode prog_1_method_42_code 27 = .ok (.getfield 183, 3) := by decide +kernel
theorem dB_endTask_30 : decode prog_1_method_42_code 30 = .ok (.ifCond .ne 31, 3) := by decide +kernel
theorem dB_endTask_33 : decode prog_1_method_42_code 33 = .ok (.aload_n 0, 1) := by decide +kernel
theorem dB_endTask_34 : decode prog_1_method_42_code 34 = .ok (.getfield 17, 3) := by decide +kernel
theorem dB_endTask_37 : decode prog_1_method_42_code 37 = .ok (.iload_n 2, 1) := by decide +kernel
theorem dB_endTask_38 : decode prog_1_method_42_code 38 = .ok (.aaload, 1) := by decide +kernel
theorem dB_endTask_39 : decode prog_1_method_42_code 39 = .ok (.getfield 163, 3) := by decide +kernel
theorem dB_endTask_42 : decode prog_1_method_42_code 42 = .ok (.aload_n 1, 1) := by decide +kernel
theorem dB_endTask_43 : decode prog_1_method_42_code 43 = .ok (.getfield 304, 3) := by decide +kernel
theorem dB_endTask_46 : decode prog_1_method_42_code 46 = .ok (.baload, 1) := by decide +kernel
theorem dB_endTask_47 : decode prog_1_method_42_code 47 = .ok (.ifCond .ne 14, 3) := by decide +kernel
theorem dB_endTask_50 : decode prog_1_method_42_code 50 = .ok (.aload_n 0, 1) := by decide +kernel
theorem dB_endTask_51 : decode prog_1_method_42_code 51 = .ok (.aload_n 0, 1) := by decide +kernel
theorem dB_endTask_52 : decode prog_1_method_42_code 52 = .ok (.getfield 17, 3) := by decide +kernel
theorem dB_endTask_55 : decode prog_1_method_42_code 55 = .ok (.iload_n 2, 1) := by decide +kernel
theorem dB_endTask_56 : decode prog_1_method_42_code 56 = .ok (.aaload, 1) := by decide +kernel
theorem dB_endTask_57 : decode prog_1_method_42_code 57 = .ok (.aload_n 1, 1) := by decide +kernel
theorem dB_endTask_58 : decode prog_1_method_42_code 58 = .ok (.invokevirtual 134, 3) := by decide +kernel
theorem dB_endTask_61 : decode prog_1_method_42_code 61 = .ok (.iinc 2 1, 3) := by decide +kernel
theorem dB_endTask_64 : decode prog_1_method_42_code 64 = .ok (.goto (-51), 3) := by decide +kernel
theorem dB_endTask_67 : decode prog_1_method_42_code 67 = .ok (.bipush 6, 2) := by decide +kernel
theorem dB_endTask_69 : decode prog_1_method_42_code 69 = .ok (.ireturn, 1) := by decide +kernel
theorem dB_keepFor_0 : decode prog_1_method_41_code 0 = .ok (.aload_n 1, 1) := by decide +kernel
theorem dB_keepFor_1 : decode prog_1_method_41_code 1 = .ok (.invokevirtual 321, 3) := by decide +kernel
theorem dB_keepFor_4 : decode prog_1_method_41_code 4 = .ok (.ifCond .ne 5, 3) := by decide +kernel
theorem dB_keepFor_7 : decode prog_1_method_41_code 7 = .ok (.iconst 0, 1) := by decide +kernel
theorem dB_keepFor_8 : decode prog_1_method_41_code 8 = .ok (.ireturn, 1) := by decide +kernel
theorem dB_keepFor_9 : decode prog_1_method_41_code 9 = .ok (.aload_n 2, 1) := by decide +kernel
theorem dB_keepFor_10 : decode prog_1_method_41_code 10 = .ok (.getfield 167, 3) := by decide +kernel
theorem dB_keepFor_13 : decode prog_1_method_41_code 13 = .ok (.aload_n 1, 1) := by decide +kernel
theorem dB_keepFor_14 : decode prog_1_method_41_code 14 = .ok (.getfield 304, 3) := by decide +kernel
theorem dB_keepFor_17 : decode prog_1_method_41_code 17 = .ok (.baload, 1) := by decide +kernel
theorem dB_keepFor_18 : decode prog_1_method_41_code 18 = .ok (.ifCond .eq 11, 3) := by decide +kernel
theorem dB_keepFor_21 : decode prog_1_method_41_code 21 = .ok (.aload_n 0, 1) := by decide +kernel
theorem dB_keepFor_22 : decode prog_1_method_41_code 22 = .ok (.aload_n 2, 1) := by decide +kernel
theorem dB_keepFor_23 : decode prog_1_method_41_code 23 = .ok (.iconst 2, 1) := by decide +kernel
theorem dB_keepFor_24 : decode prog_1_method_41_code 24 = .ok (.invokevirtual 156, 3) := by decide +kernel
theorem dB_keepFor_27 : decode prog_1_method_41_code 27 = .ok (.iconst 5, 1) := by decide +kernel
theorem dB_keepFor_28 : decode prog_1_method_41_code 28 = .ok (.ireturn, 1) := by decide +kernel
theorem dB_keepFor_29 : decode prog_1_method_41_code 29 = .ok (.aload_n 1, 1) := by decide +kernel
theorem dB_keepFor_30 : decode prog_1_method_41_code 30 = .ok (.iconst 1, 1) := by decide +kernel
theorem dB_keepFor_31 : decode prog_1_method_41_code 31 = .ok (.aload_n 2, 1) := by decide +kernel
theorem dB_keepFor_32 : decode prog_1_method_41_code 32 = .ok (.getfield 294, 3) := by decide +kernel
theorem dB_keepFor_35 : decode prog_1_method_41_code 35 = .ok (.i2l, 1) := by decide +kernel
