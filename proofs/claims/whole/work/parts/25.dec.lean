theorem dR_keeper_17 : decode prog_9_method_23_code 17 = .ok (.getfield 87, 3) := by decide +kernel
theorem dR_keeper_20 : decode prog_9_method_23_code 20 = .ok (.iconst 0, 1) := by decide +kernel
theorem dR_keeper_21 : decode prog_9_method_23_code 21 = .ok (.iaload, 1) := by decide +kernel
theorem dR_keeper_22 : decode prog_9_method_23_code 22 = .ok (.istore_n 2, 1) := by decide +kernel
theorem dR_keeper_23 : decode prog_9_method_23_code 23 = .ok (.aload_n 0, 1) := by decide +kernel
theorem dR_keeper_24 : decode prog_9_method_23_code 24 = .ok (.dup, 1) := by decide +kernel
theorem dR_keeper_25 : decode prog_9_method_23_code 25 = .ok (.getfield 138, 3) := by decide +kernel
theorem dR_keeper_28 : decode prog_9_method_23_code 28 = .ok (.iconst 1, 1) := by decide +kernel
theorem dR_keeper_29 : decode prog_9_method_23_code 29 = .ok (.isub, 1) := by decide +kernel
theorem dR_keeper_30 : decode prog_9_method_23_code 30 = .ok (.putfield 138, 3) := by decide +kernel
theorem dR_keeper_33 : decode prog_9_method_23_code 33 = .ok (.iconst 0, 1) := by decide +kernel
theorem dR_keeper_34 : decode prog_9_method_23_code 34 = .ok (.istore_n 3, 1) := by decide +kernel
theorem dR_keeper_35 : decode prog_9_method_23_code 35 = .ok (.iload_n 3, 1) := by decide +kernel
theorem dR_keeper_36 : decode prog_9_method_23_code 36 = .ok (.aload_n 0, 1) := by decide +kernel
theorem dR_keeper_37 : decode prog_9_method_23_code 37 = .ok (.getfield 138, 3) := by decide +kernel
theorem dR_keeper_40 : decode prog_9_method_23_code 40 = .ok (.if_icmp .ge 37, 3) := by decide +kernel
theorem dR_keeper_43 : decode prog_9_method_23_code 43 = .ok (.aload_n 0, 1) := by decide +kernel
theorem dR_keeper_44 : decode prog_9_method_23_code 44 = .ok (.getfield 84, 3) := by decide +kernel
theorem dR_keeper_47 : decode prog_9_method_23_code 47 = .ok (.iload_n 3, 1) := by decide +kernel
theorem dR_keeper_48 : decode prog_9_method_23_code 48 = .ok (.aload_n 0, 1) := by decide +kernel
theorem dR_keeper_49 : decode prog_9_method_23_code 49 = .ok (.getfield 84, 3) := by decide +kernel
theorem dR_keeper_52 : decode prog_9_method_23_code 52 = .ok (.iload_n 3, 1) := by decide +kernel
theorem dR_keeper_53 : decode prog_9_method_23_code 53 = .ok (.iconst 1, 1) := by decide +kernel
theorem dR_keeper_54 : decode prog_9_method_23_code 54 = .ok (.iadd, 1) := by decide +kernel
theorem dR_keeper_55 : decode prog_9_method_23_code 55 = .ok (.iaload, 1) := by decide +kernel
theorem dR_keeper_56 : decode prog_9_method_23_code 56 = .ok (.iastore, 1) := by decide +kernel
theorem dR_keeper_57 : decode prog_9_method_23_code 57 = .ok (.aload_n 0, 1) := by decide +kernel
theorem dR_keeper_58 : decode prog_9_method_23_code 58 = .ok (.getfield 87, 3) := by decide +kernel
theorem dR_keeper_61 : decode prog_9_method_23_code 61 = .ok (.iload_n 3, 1) := by decide +kernel
theorem dR_keeper_62 : decode prog_9_method_23_code 62 = .ok (.aload_n 0, 1) := by decide +kernel
theorem dR_keeper_63 : decode prog_9_method_23_code 63 = .ok (.getfield 87, 3) := by decide +kernel
theorem dR_keeper_66 : decode prog_9_method_23_code 66 = .ok (.iload_n 3, 1) := by decide +kernel
theorem dR_keeper_67 : decode prog_9_method_23_code 67 = .ok (.iconst 1, 1) := by decide +kernel
theorem dR_keeper_68 : decode prog_9_method_23_code 68 = .ok (.iadd, 1) := by decide +kernel
theorem dR_keeper_69 : decode prog_9_method_23_code 69 = .ok (.iaload, 1) := by decide +kernel
theorem dR_keeper_70 : decode prog_9_method_23_code 70 = .ok (.iastore, 1) := by decide +kernel
theorem dR_keeper_71 : decode prog_9_method_23_code 71 = .ok (.iinc 3 1, 3) := by decide +kernel
theorem dR_keeper_74 : decode prog_9_method_23_code 74 = .ok (.goto (-39), 3) := by decide +kernel
theorem dR_keeper_77 : decode prog_9_method_23_code 77 = .ok (.aload_n 0, 1) := by decide +kernel
theorem dR_keeper_78 : decode prog_9_method_23_code 78 = .ok (.getfield 57, 3) := by decide +kernel
theorem dR_keeper_81 : decode prog_9_method_23_code 81 = .ok (.iload_n 1, 1) := by decide +kernel
theorem dR_keeper_82 : decode prog_9_method_23_code 82 = .ok (.iaload, 1) := by decide +kernel
theorem dR_keeper_83 : decode prog_9_method_23_code 83 = .ok (.ifCond .ne 17, 3) := by decide +kernel
theorem dR_keeper_86 : decode prog_9_method_23_code 86 = .ok (.aload_n 0, 1) := by decide +kernel
theorem dR_keeper_87 : decode prog_9_method_23_code 87 = .ok (.getfield 81, 3) := by decide +kernel
theorem dR_keeper_90 : decode prog_9_method_23_code 90 = .ok (.bipush 8, 2) := by decide +kernel
theorem dR_keeper_92 : decode prog_9_method_23_code 92 = .ok (.iload_n 1, 1) := by decide +kernel
theorem dR_keeper_93 : decode prog_9_method_23_code 93 = .ok (.imul, 1) := by decide +kernel
theorem dR_keeper_94 : decode prog_9_method_23_code 94 = .ok (.iload_n 2, 1) := by decide +kernel
theorem dR_keeper_95 : decode prog_9_method_23_code 95 = .ok (.iadd, 1) := by decide +kernel
theorem dR_keeper_96 : decode prog_9_method_23_code 96 = .ok (.baload, 1) := by decide +kernel
theorem dR_keeper_97 : decode prog_9_method_23_code 97 = .ok (.ifCond .eq 6, 3) := by decide +kernel
theorem dR_keeper_100 : decode prog_9_method_23_code 100 = .ok (.bipush 7, 2) := by decide +kernel
theorem dR_keeper_102 : decode prog_9_method_23_code 102 = .ok (.ireturn, 1) := by decide +kernel
theorem dR_keeper_103 : decode prog_9_method_23_code 103 = .ok (.aload_n 0, 1) := by decide +kernel
theorem dR_keeper_104 : decode prog_9_method_23_code 104 = .ok (.getfield 81, 3) := by decide +kernel
theorem dR_keeper_107 : decode prog_9_method_23_code 107 = .ok (.bipush 8, 2) := by decide +kernel
theorem dR_keeper_109 : decode prog_9_method_23_code 109 = .ok (.iload_n 1, 1) := by decide +kernel
theorem dR_keeper_110 : decode prog_9_method_23_code 110 = .ok (.imul, 1) := by decide +kernel
theorem dR_keeper_111 : decode prog_9_method_23_code 111 = .ok (.iload_n 2, 1) := by decide +kernel
theorem dR_keeper_112 : decode prog_9_method_23_code 112 = .ok (.iadd, 1) := by decide +kernel
theorem dR_keeper_113 : decode prog_9_method_23_code 113 = .ok (.iconst 1, 1) := by decide +kernel
theorem dR_keeper_114 : decode prog_9_method_23_code 114 = .ok (.bastore, 1) := by decide +kernel
theorem dR_keeper_115 : decode prog_9_method_23_code 115 = .ok (.aload_n 0, 1) := by decide +kernel
theorem dR_keeper_116 : decode prog_9_method_23_code 116 = .ok (.iload_n 1, 1) := by decide +kernel
theorem dR_keeper_117 : decode prog_9_method_23_code 117 = .ok (.invokevirtual 156, 3) := by decide +kernel
theorem dR_keeper_120 : decode prog_9_method_23_code 120 = .ok (.aload_n 0, 1) := by decide +kernel
theorem dR_keeper_121 : decode prog_9_method_23_code 121 = .ok (.getfield 96, 3) := by decide +kernel
theorem dR_keeper_124 : decode prog_9_method_23_code 124 = .ok (.if_icmp .ge 6, 3) := by decide +kernel
theorem dR_keeper_127 : decode prog_9_method_23_code 127 = .ok (.bipush 7, 2) := by decide +kernel
theorem dR_keeper_129 : decode prog_9_method_23_code 129 = .ok (.ireturn, 1) := by decide +kernel
theorem dR_keeper_130 : decode prog_9_method_23_code 130 = .ok (.aload_n 0, 1) := by decide +kernel
theorem dR_keeper_131 : decode prog_9_method_23_code 131 = .ok (.iload_n 1, 1) := by decide +kernel
theorem dR_keeper_132 : decode prog_9_method_23_code 132 = .ok (.iconst 1, 1) := by decide +kernel
theorem dR_keeper_133 : decode prog_9_method_23_code 133 = .ok (.invokevirtual 159, 3) := by decide +kernel
theorem dR_keeper_136 : decode prog_9_method_23_code 136 = .ok (.iconst 0, 1) := by decide +kernel
theorem dR_keeper_137 : decode prog_9_method_23_code 137 = .ok (.istore_n 3, 1) := by decide +kernel
theorem dR_keeper_138 : decode prog_9_method_23_code 138 = .ok (.iload_n 3, 1) := by decide +kernel
theorem dR_keeper_139 : decode prog_9_method_23_code 139 = .ok (.iload_n 1, 1) := by decide +kernel
theorem dR_keeper_140 : decode prog_9_method_23_code 140 = .ok (.if_icmp .ge 24, 3) := by decide +kernel
theorem dR_keeper_143 : decode prog_9_method_23_code 143 = .ok (.aload_n 0, 1) := by decide +kernel
theorem dR_keeper_144 : decode prog_9_method_23_code 144 = .ok (.getfield 57, 3) := by decide +kernel
theorem dR_keeper_147 : decode prog_9_method_23_code 147 = .ok (.iload_n 3, 1) := by decide +kernel
theorem dR_keeper_148 : decode prog_9_method_23_code 148 = .ok (.iaload, 1) := by decide +kernel
theorem dR_keeper_149 : decode prog_9_method_23_code 149 = .ok (.ifCond .ne 9, 3) := by decide +kernel
theorem dR_keeper_152 : decode prog_9_method_23_code 152 = .ok (.aload_n 0, 1) := by decide +kernel
theorem dR_keeper_153 : decode prog_9_method_23_code 153 = .ok (.iload_n 3, 1) := by decide +kernel
theorem dR_keeper_154 : decode prog_9_method_23_code 154 = .ok (.iconst 2, 1) := by decide +kernel
theorem dR_keeper_155 : decode prog_9_method_23_code 155 = .ok (.invokevirtual 159, 3) := by decide +kernel
theorem dR_keeper_158 : decode prog_9_method_23_code 158 = .ok (.iinc 3 1, 3) := by decide +kernel
theorem dR_keeper_161 : decode prog_9_method_23_code 161 = .ok (.goto (-23), 3) := by decide +kernel
theorem dR_keeper_164 : decode prog_9_method_23_code 164 = .ok (.bipush 8, 2) := by decide +kernel
theorem dR_keeper_166 : decode prog_9_method_23_code 166 = .ok (.ireturn, 1) := by decide +kernel
theorem dR_hasCredit_0 : decode prog_9_method_18_code 0 = .ok (.iconst 1, 1) := by decide +kernel
theorem dR_hasCredit_1 : decode prog_9_method_18_code 1 = .ok (.istore_n 2, 1) := by decide +kernel
theorem dR_hasCredit_2 : decode prog_9_method_18_code 2 = .ok (.iconst 0, 1) := by decide +kernel
theorem dR_hasCredit_3 : decode prog_9_method_18_code 3 = .ok (.istore_n 3, 1) := by decide +kernel
theorem dR_hasCredit_4 : decode prog_9_method_18_code 4 = .ok (.iload_n 3, 1) := by decide +kernel
theorem dR_hasCredit_5 : decode prog_9_method_18_code 5 = .ok (.aload_n 0, 1) := by decide +kernel
theorem dR_hasCredit_6 : decode prog_9_method_18_code 6 = .ok (.getfield 103, 3) := by decide +kernel
theorem dR_hasCredit_9 : decode prog_9_method_18_code 9 = .ok (.if_icmp .ge 38, 3) := by decide +kernel
theorem dR_hasCredit_12 : decode prog_9_method_18_code 12 = .ok (.iload_n 2, 1) := by decide +kernel
theorem dR_hasCredit_13 : decode prog_9_method_18_code 13 = .ok (.aload_n 0, 1) := by decide +kernel
theorem dR_hasCredit_14 : decode prog_9_method_18_code 14 = .ok (.getfield 24, 3) := by decide +kernel
theorem dR_hasCredit_17 : decode prog_9_method_18_code 17 = .ok (.iload_n 3, 1) := by decide +kernel
theorem dR_hasCredit_18 : decode prog_9_method_18_code 18 = .ok (.iaload, 1) := by decide +kernel
theorem dR_hasCredit_19 : decode prog_9_method_18_code 19 = .ok (.iload_n 1, 1) := by decide +kernel
theorem dR_hasCredit_20 : decode prog_9_method_18_code 20 = .ok (.if_icmp .ne 14, 3) := by decide +kernel
theorem dR_hasCredit_23 : decode prog_9_method_18_code 23 = .ok (.aload_n 0, 1) := by decide +kernel
theorem dR_hasCredit_24 : decode prog_9_method_18_code 24 = .ok (.getfield 36, 3) := by decide +kernel
theorem dR_hasCredit_27 : decode prog_9_method_18_code 27 = .ok (.iload_n 3, 1) := by decide +kernel
theorem dR_hasCredit_28 : decode prog_9_method_18_code 28 = .ok (.iaload, 1) := by decide +kernel
theorem dR_hasCredit_29 : decode prog_9_method_18_code 29 = .ok (.bipush 8, 2) := by decide +kernel
theorem dR_hasCredit_31 : decode prog_9_method_18_code 31 = .ok (.if_icmp .ge 7, 3) := by decide +kernel
theorem dR_hasCredit_34 : decode prog_9_method_18_code 34 = .ok (.iconst 1, 1) := by decide +kernel
theorem dR_hasCredit_35 : decode prog_9_method_18_code 35 = .ok (.goto 4, 3) := by decide +kernel
theorem dR_hasCredit_38 : decode prog_9_method_18_code 38 = .ok (.iconst 0, 1) := by decide +kernel
theorem dR_hasCredit_39 : decode prog_9_method_18_code 39 = .ok (.iand, 1) := by decide +kernel
theorem dR_hasCredit_40 : decode prog_9_method_18_code 40 = .ok (.istore_n 2, 1) := by decide +kernel
theorem dR_hasCredit_41 : decode prog_9_method_18_code 41 = .ok (.iinc 3 1, 3) := by decide +kernel
theorem dR_hasCredit_44 : decode prog_9_method_18_code 44 = .ok (.goto (-40), 3) := by decide +kernel
theorem dR_hasCredit_47 : decode prog_9_method_18_code 47 = .ok (.iload_n 2, 1) := by decide +kernel
theorem dR_hasCredit_48 : decode prog_9_method_18_code 48 = .ok (.ireturn, 1) := by decide +kernel
theorem dR_give_0 : decode prog_9_method_19_code 0 = .ok (.iconst 0, 1) := by decide +kernel
theorem dR_give_1 : decode prog_9_method_19_code 1 = .ok (.istore 5, 2) := by decide +kernel
theorem dR_give_3 : decode prog_9_method_19_code 3 = .ok (.iload 5, 2) := by decide +kernel
theorem dR_give_5 : decode prog_9_method_19_code 5 = .ok (.aload_n 0, 1) := by decide +kernel
theorem dR_give_6 : decode prog_9_method_19_code 6 = .ok (.getfield 103, 3) := by decide +kernel
theorem dR_give_9 : decode prog_9_method_19_code 9 = .ok (.if_icmp .ge 72, 3) := by decide +kernel
theorem dR_give_12 : decode prog_9_method_19_code 12 = .ok (.aload_n 0, 1) := by decide +kernel
theorem dR_give_13 : decode prog_9_method_19_code 13 = .ok (.getfield 24, 3) := by decide +kernel
theorem dR_give_16 : decode prog_9_method_19_code 16 = .ok (.iload 5, 2) := by decide +kernel
theorem dR_give_18 : decode prog_9_method_19_code 18 = .ok (.iaload, 1) := by decide +kernel
theorem dR_give_19 : decode prog_9_method_19_code 19 = .ok (.iload_n 1, 1) := by decide +kernel
theorem dR_give_20 : decode prog_9_method_19_code 20 = .ok (.if_icmp .eq 6, 3) := by decide +kernel
theorem dR_give_23 : decode prog_9_method_19_code 23 = .ok (.goto 52, 3) := by decide +kernel
theorem dR_give_26 : decode prog_9_method_19_code 26 = .ok (.aload_n 0, 1) := by decide +kernel
theorem dR_give_27 : decode prog_9_method_19_code 27 = .ok (.getfield 30, 3) := by decide +kernel
theorem dR_give_30 : decode prog_9_method_19_code 30 = .ok (.bipush 16, 2) := by decide +kernel
theorem dR_give_32 : decode prog_9_method_19_code 32 = .ok (.iload 5, 2) := by decide +kernel
theorem dR_give_34 : decode prog_9_method_19_code 34 = .ok (.imul, 1) := by decide +kernel
theorem dR_give_35 : decode prog_9_method_19_code 35 = .ok (.aload_n 0, 1) := by decide +kernel
theorem dR_give_36 : decode prog_9_method_19_code 36 = .ok (.getfield 36, 3) := by decide +kernel
theorem dR_give_39 : decode prog_9_method_19_code 39 = .ok (.iload 5, 2) := by decide +kernel
theorem dR_give_41 : decode prog_9_method_19_code 41 = .ok (.iaload, 1) := by decide +kernel
theorem dR_give_42 : decode prog_9_method_19_code 42 = .ok (.iadd, 1) := by decide +kernel
theorem dR_give_43 : decode prog_9_method_19_code 43 = .ok (.iload_n 2, 1) := by decide +kernel
theorem dR_give_44 : decode prog_9_method_19_code 44 = .ok (.iastore, 1) := by decide +kernel
theorem dR_give_45 : decode prog_9_method_19_code 45 = .ok (.aload_n 0, 1) := by decide +kernel
theorem dR_give_46 : decode prog_9_method_19_code 46 = .ok (.getfield 33, 3) := by decide +kernel
theorem dR_give_49 : decode prog_9_method_19_code 49 = .ok (.bipush 16, 2) := by decide +kernel
theorem dR_give_51 : decode prog_9_method_19_code 51 = .ok (.iload 5, 2) := by decide +kernel
theorem dR_give_53 : decode prog_9_method_19_code 53 = .ok (.imul, 1) := by decide +kernel
theorem dR_give_54 : decode prog_9_method_19_code 54 = .ok (.aload_n 0, 1) := by decide +kernel
theorem dR_give_55 : decode prog_9_method_19_code 55 = .ok (.getfield 36, 3) := by decide +kernel
theorem dR_give_58 : decode prog_9_method_19_code 58 = .ok (.iload 5, 2) := by decide +kernel
theorem dR_give_60 : decode prog_9_method_19_code 60 = .ok (.iaload, 1) := by decide +kernel
theorem dR_give_61 : decode prog_9_method_19_code 61 = .ok (.iadd, 1) := by decide +kernel
theorem dR_give_62 : decode prog_9_method_19_code 62 = .ok (.lload_n 3, 1) := by decide +kernel
theorem dR_give_63 : decode prog_9_method_19_code 63 = .ok (.lastore, 1) := by decide +kernel
theorem dR_give_64 : decode prog_9_method_19_code 64 = .ok (.aload_n 0, 1) := by decide +kernel
theorem dR_give_65 : decode prog_9_method_19_code 65 = .ok (.getfield 36, 3) := by decide +kernel
theorem dR_give_68 : decode prog_9_method_19_code 68 = .ok (.iload 5, 2) := by decide +kernel
theorem dR_give_70 : decode prog_9_method_19_code 70 = .ok (.dup2, 1) := by decide +kernel
theorem dR_give_71 : decode prog_9_method_19_code 71 = .ok (.iaload, 1) := by decide +kernel
theorem dR_give_72 : decode prog_9_method_19_code 72 = .ok (.iconst 1, 1) := by decide +kernel
theorem dR_give_73 : decode prog_9_method_19_code 73 = .ok (.iadd, 1) := by decide +kernel
theorem dR_give_74 : decode prog_9_method_19_code 74 = .ok (.iastore, 1) := by decide +kernel
theorem dR_give_75 : decode prog_9_method_19_code 75 = .ok (.iinc 5 1, 3) := by decide +kernel
theorem dR_give_78 : decode prog_9_method_19_code 78 = .ok (.goto (-75), 3) := by decide +kernel
theorem dR_give_81 : decode prog_9_method_19_code 81 = .ok (.return_, 1) := by decide +kernel
theorem dR_barrierOf_0 : decode prog_9_method_20_code 0 = .ok (.iconst 0, 1) := by decide +kernel
theorem dR_barrierOf_1 : decode prog_9_method_20_code 1 = .ok (.istore_n 2, 1) := by decide +kernel
theorem dR_barrierOf_2 : decode prog_9_method_20_code 2 = .ok (.iload_n 2, 1) := by decide +kernel
theorem dR_barrierOf_3 : decode prog_9_method_20_code 3 = .ok (.aload_n 0, 1) := by decide +kernel
theorem dR_barrierOf_4 : decode prog_9_method_20_code 4 = .ok (.getfield 106, 3) := by decide +kernel
theorem dR_barrierOf_7 : decode prog_9_method_20_code 7 = .ok (.if_icmp .ge 54, 3) := by decide +kernel
theorem dR_barrierOf_10 : decode prog_9_method_20_code 10 = .ok (.aload_n 0, 1) := by decide +kernel
theorem dR_barrierOf_11 : decode prog_9_method_20_code 11 = .ok (.getfield 57, 3) := by decide +kernel
theorem dR_barrierOf_14 : decode prog_9_method_20_code 14 = .ok (.iload_n 2, 1) := by decide +kernel
theorem dR_barrierOf_15 : decode prog_9_method_20_code 15 = .ok (.iaload, 1) := by decide +kernel
theorem dR_barrierOf_16 : decode prog_9_method_20_code 16 = .ok (.ifCond .ne 39, 3) := by decide +kernel
theorem dR_barrierOf_19 : decode prog_9_method_20_code 19 = .ok (.aload_n 0, 1) := by decide +kernel
theorem dR_barrierOf_20 : decode prog_9_method_20_code 20 = .ok (.getfield 63, 3) := by decide +kernel
theorem dR_barrierOf_23 : decode prog_9_method_20_code 23 = .ok (.bipush 16, 2) := by decide +kernel
theorem dR_barrierOf_25 : decode prog_9_method_20_code 25 = .ok (.iload_n 2, 1) := by decide +kernel
theorem dR_barrierOf_26 : decode prog_9_method_20_code 26 = .ok (.imul, 1) := by decide +kernel
theorem dR_barrierOf_27 : decode prog_9_method_20_code 27 = .ok (.iload_n 1, 1) := by decide +kernel
theorem dR_barrierOf_28 : decode prog_9_method_20_code 28 = .ok (.iadd, 1) := by decide +kernel
theorem dR_barrierOf_29 : decode prog_9_method_20_code 29 = .ok (.baload, 1) := by decide +kernel
theorem dR_barrierOf_30 : decode prog_9_method_20_code 30 = .ok (.ifCond .ne 25, 3) := by decide +kernel
theorem dR_barrierOf_33 : decode prog_9_method_20_code 33 = .ok (.aload_n 0, 1) := by decide +kernel
theorem dR_barrierOf_34 : decode prog_9_method_20_code 34 = .ok (.getfield 60, 3) := by decide +kernel
theorem dR_barrierOf_37 : decode prog_9_method_20_code 37 = .ok (.bipush 16, 2) := by decide +kernel
theorem dR_barrierOf_39 : decode prog_9_method_20_code 39 = .ok (.iload_n 2, 1) := by decide +kernel
theorem dR_barrierOf_40 : decode prog_9_method_20_code 40 = .ok (.imul, 1) := by decide +kernel
theorem dR_barrierOf_41 : decode prog_9_method_20_code 41 = .ok (.iload_n 1, 1) := by decide +kernel
theorem dR_barrierOf_42 : decode prog_9_method_20_code 42 = .ok (.iadd, 1) := by decide +kernel
theorem dR_barrierOf_43 : decode prog_9_method_20_code 43 = .ok (.iaload, 1) := by decide +kernel
theorem dR_barrierOf_44 : decode prog_9_method_20_code 44 = .ok (.aload_n 0, 1) := by decide +kernel
theorem dR_barrierOf_45 : decode prog_9_method_20_code 45 = .ok (.getfield 48, 3) := by decide +kernel
theorem dR_barrierOf_48 : decode prog_9_method_20_code 48 = .ok (.iload_n 1, 1) := by decide +kernel
theorem dR_barrierOf_49 : decode prog_9_method_20_code 49 = .ok (.iaload, 1) := by decide +kernel
theorem dR_barrierOf_50 : decode prog_9_method_20_code 50 = .ok (.if_icmp .ne 5, 3) := by decide +kernel
theorem dR_barrierOf_53 : decode prog_9_method_20_code 53 = .ok (.iload_n 2, 1) := by decide +kernel
theorem dR_barrierOf_54 : decode prog_9_method_20_code 54 = .ok (.ireturn, 1) := by decide +kernel
theorem dR_barrierOf_55 : decode prog_9_method_20_code 55 = .ok (.iinc 2 1, 3) := by decide +kernel
theorem dR_barrierOf_58 : decode prog_9_method_20_code 58 = .ok (.goto (-56), 3) := by decide +kernel
theorem dR_barrierOf_61 : decode prog_9_method_20_code 61 = .ok (.iconst (-1), 1) := by decide +kernel
theorem dR_barrierOf_62 : decode prog_9_method_20_code 62 = .ok (.ireturn, 1) := by decide +kernel
theorem dR_next_0 : decode prog_9_method_21_code 0 = .ok (.aload_n 0, 1) := by decide +kernel
theorem dR_next_1 : decode prog_9_method_21_code 1 = .ok (.getfield 51, 3) := by decide +kernel
theorem dR_next_4 : decode prog_9_method_21_code 4 = .ok (.iload_n 1, 1) := by decide +kernel
theorem dR_next_5 : decode prog_9_method_21_code 5 = .ok (.baload, 1) := by decide +kernel
theorem dR_next_6 : decode prog_9_method_21_code 6 = .ok (.ifCond .eq 5, 3) := by decide +kernel
theorem dR_next_9 : decode prog_9_method_21_code 9 = .ok (.iconst (-1), 1) := by decide +kernel
theorem dR_next_10 : decode prog_9_method_21_code 10 = .ok (.ireturn, 1) := by decide +kernel
theorem dR_next_11 : decode prog_9_method_21_code 11 = .ok (.aload_n 0, 1) := by decide +kernel
theorem dR_next_12 : decode prog_9_method_21_code 12 = .ok (.iload_n 1, 1) := by decide +kernel
theorem dR_next_13 : decode prog_9_method_21_code 13 = .ok (.invokevirtual 127, 3) := by decide +kernel
theorem dR_next_16 : decode prog_9_method_21_code 16 = .ok (.ifCond .ne 26, 3) := by decide +kernel
theorem dR_next_19 : decode prog_9_method_21_code 19 = .ok (.aload_n 0, 1) := by decide +kernel
theorem dR_next_20 : decode prog_9_method_21_code 20 = .ok (.getfield 36, 3) := by decide +kernel
theorem dR_next_23 : decode prog_9_method_21_code 23 = .ok (.iload_n 1, 1) := by decide +kernel
theorem dR_next_24 : decode prog_9_method_21_code 24 = .ok (.iaload, 1) := by decide +kernel
theorem dR_next_25 : decode prog_9_method_21_code 25 = .ok (.ifCond .ne 7, 3) := by decide +kernel
theorem dR_next_28 : decode prog_9_method_21_code 28 = .ok (.iconst (-1), 1) := by decide +kernel
theorem dR_next_29 : decode prog_9_method_21_code 29 = .ok (.goto 12, 3) := by decide +kernel
theorem dR_next_32 : decode prog_9_method_21_code 32 = .ok (.aload_n 0, 1) := by decide +kernel
theorem dR_next_33 : decode prog_9_method_21_code 33 = .ok (.getfield 30, 3) := by decide +kernel
theorem dR_next_36 : decode prog_9_method_21_code 36 = .ok (.bipush 16, 2) := by decide +kernel
theorem dR_next_38 : decode prog_9_method_21_code 38 = .ok (.iload_n 1, 1) := by decide +kernel
theorem dR_next_39 : decode prog_9_method_21_code 39 = .ok (.imul, 1) := by decide +kernel
theorem dR_next_40 : decode prog_9_method_21_code 40 = .ok (.iaload, 1) := by decide +kernel
theorem dR_next_41 : decode prog_9_method_21_code 41 = .ok (.ireturn, 1) := by decide +kernel
theorem dR_next_42 : decode prog_9_method_21_code 42 = .ok (.aload_n 0, 1) := by decide +kernel
theorem dR_next_43 : decode prog_9_method_21_code 43 = .ok (.iload_n 1, 1) := by decide +kernel
theorem dR_next_44 : decode prog_9_method_21_code 44 = .ok (.invokevirtual 147, 3) := by decide +kernel
theorem dR_next_47 : decode prog_9_method_21_code 47 = .ok (.iconst (-1), 1) := by decide +kernel
theorem dR_next_48 : decode prog_9_method_21_code 48 = .ok (.if_icmp .eq 5, 3) := by decide +kernel
theorem dR_next_51 : decode prog_9_method_21_code 51 = .ok (.iconst 1, 1) := by decide +kernel
theorem dR_next_52 : decode prog_9_method_21_code 52 = .ok (.ireturn, 1) := by decide +kernel
theorem dR_next_53 : decode prog_9_method_21_code 53 = .ok (.aload_n 0, 1) := by decide +kernel
theorem dR_next_54 : decode prog_9_method_21_code 54 = .ok (.getfield 48, 3) := by decide +kernel
theorem dR_next_57 : decode prog_9_method_21_code 57 = .ok (.iload_n 1, 1) := by decide +kernel
theorem dR_next_58 : decode prog_9_method_21_code 58 = .ok (.iaload, 1) := by decide +kernel
theorem dR_next_59 : decode prog_9_method_21_code 59 = .ok (.aload_n 0, 1) := by decide +kernel
theorem dR_next_60 : decode prog_9_method_21_code 60 = .ok (.getfield 42, 3) := by decide +kernel
theorem dR_next_63 : decode prog_9_method_21_code 63 = .ok (.iload_n 1, 1) := by decide +kernel
theorem dR_next_64 : decode prog_9_method_21_code 64 = .ok (.iaload, 1) := by decide +kernel
theorem dR_next_65 : decode prog_9_method_21_code 65 = .ok (.if_icmp .ge 7, 3) := by decide +kernel
theorem dR_next_68 : decode prog_9_method_21_code 68 = .ok (.iconst 0, 1) := by decide +kernel
theorem dR_next_69 : decode prog_9_method_21_code 69 = .ok (.goto 17, 3) := by decide +kernel
theorem dR_next_72 : decode prog_9_method_21_code 72 = .ok (.aload_n 0, 1) := by decide +kernel
theorem dR_next_73 : decode prog_9_method_21_code 73 = .ok (.getfield 45, 3) := by decide +kernel
theorem dR_next_76 : decode prog_9_method_21_code 76 = .ok (.iload_n 1, 1) := by decide +kernel
theorem dR_next_77 : decode prog_9_method_21_code 77 = .ok (.baload, 1) := by decide +kernel
theorem dR_next_78 : decode prog_9_method_21_code 78 = .ok (.ifCond .eq 7, 3) := by decide +kernel
theorem dR_next_81 : decode prog_9_method_21_code 81 = .ok (.iconst 2, 1) := by decide +kernel
theorem dR_next_82 : decode prog_9_method_21_code 82 = .ok (.goto 4, 3) := by decide +kernel
theorem dR_next_85 : decode prog_9_method_21_code 85 = .ok (.iconst (-1), 1) := by decide +kernel
theorem dR_next_86 : decode prog_9_method_21_code 86 = .ok (.ireturn, 1) := by decide +kernel
theorem dR_take_0 : decode prog_9_method_25_code 0 = .ok (.aload_n 0, 1) := by decide +kernel
theorem dR_take_1 : decode prog_9_method_25_code 1 = .ok (.iload_n 2, 1) := by decide +kernel
theorem dR_take_2 : decode prog_9_method_25_code 2 = .ok (.invokevirtual 169, 3) := by decide +kernel
theorem dR_take_5 : decode prog_9_method_25_code 5 = .ok (.istore_n 3, 1) := by decide +kernel
theorem dR_take_6 : decode prog_9_method_25_code 6 = .ok (.iload_n 3, 1) := by decide +kernel
theorem dR_take_7 : decode prog_9_method_25_code 7 = .ok (.ifCond .ne 13, 3) := by decide +kernel
theorem dR_take_10 : decode prog_9_method_25_code 10 = .ok (.aload_n 0, 1) := by decide +kernel
theorem dR_take_11 : decode prog_9_method_25_code 11 = .ok (.iload_n 1, 1) := by decide +kernel
theorem dR_take_12 : decode prog_9_method_25_code 12 = .ok (.invokevirtual 162, 3) := by decide +kernel
theorem dR_take_15 : decode prog_9_method_25_code 15 = .ok (.ifCond .ne 5, 3) := by decide +kernel
theorem dR_take_18 : decode prog_9_method_25_code 18 = .ok (.iconst 0, 1) := by decide +kernel
theorem dR_take_19 : decode prog_9_method_25_code 19 = .ok (.ireturn, 1) := by decide +kernel
theorem dR_take_20 : decode prog_9_method_25_code 20 = .ok (.aload_n 0, 1) := by decide +kernel
theorem dR_take_21 : decode prog_9_method_25_code 21 = .ok (.getfield 21, 3) := by decide +kernel
theorem dR_take_24 : decode prog_9_method_25_code 24 = .ok (.iload_n 1, 1) := by decide +kernel
theorem dR_take_25 : decode prog_9_method_25_code 25 = .ok (.iload_n 2, 1) := by decide +kernel
theorem dR_take_26 : decode prog_9_method_25_code 26 = .ok (.iastore, 1) := by decide +kernel
theorem dR_take_27 : decode prog_9_method_25_code 27 = .ok (.iload_n 3, 1) := by decide +kernel
theorem dR_take_28 : decode prog_9_method_25_code 28 = .ok (.iconst 1, 1) := by decide +kernel
theorem dR_take_29 : decode prog_9_method_25_code 29 = .ok (.if_icmp .eq 7, 3) := by decide +kernel
theorem dR_take_32 : decode prog_9_method_25_code 32 = .ok (.iconst (-1), 1) := by decide +kernel
theorem dR_take_33 : decode prog_9_method_25_code 33 = .ok (.goto 29, 3) := by decide +kernel
theorem dR_take_36 : decode prog_9_method_25_code 36 = .ok (.aload_n 0, 1) := by decide +kernel
theorem dR_take_37 : decode prog_9_method_25_code 37 = .ok (.iload_n 2, 1) := by decide +kernel
theorem dR_take_38 : decode prog_9_method_25_code 38 = .ok (.invokevirtual 127, 3) := by decide +kernel
theorem dR_take_41 : decode prog_9_method_25_code 41 = .ok (.ifCond .eq 11, 3) := by decide +kernel
theorem dR_take_44 : decode prog_9_method_25_code 44 = .ok (.aload_n 0, 1) := by decide +kernel
theorem dR_take_45 : decode prog_9_method_25_code 45 = .ok (.iload_n 2, 1) := by decide +kernel
theorem dR_take_46 : decode prog_9_method_25_code 46 = .ok (.invokevirtual 147, 3) := by decide +kernel
theorem dR_take_49 : decode prog_9_method_25_code 49 = .ok (.goto 13, 3) := by decide +kernel
theorem dR_take_52 : decode prog_9_method_25_code 52 = .ok (.aload_n 0, 1) := by decide +kernel
theorem dR_take_53 : decode prog_9_method_25_code 53 = .ok (.getfield 33, 3) := by decide +kernel
theorem dR_take_56 : decode prog_9_method_25_code 56 = .ok (.bipush 16, 2) := by decide +kernel
theorem dR_take_58 : decode prog_9_method_25_code 58 = .ok (.iload_n 2, 1) := by decide +kernel
theorem dR_take_59 : decode prog_9_method_25_code 59 = .ok (.imul, 1) := by decide +kernel
theorem dR_take_60 : decode prog_9_method_25_code 60 = .ok (.laload, 1) := by decide +kernel
theorem dR_take_61 : decode prog_9_method_25_code 61 = .ok (.l2i, 1) := by decide +kernel
theorem dR_take_62 : decode prog_9_method_25_code 62 = .ok (.istore 4, 2) := by decide +kernel
theorem dR_take_64 : decode prog_9_method_25_code 64 = .ok (.iload_n 3, 1) := by decide +kernel
theorem dR_take_65 : decode prog_9_method_25_code 65 = .ok (.ifCond .eq 7, 3) := by decide +kernel
theorem dR_take_68 : decode prog_9_method_25_code 68 = .ok (.lconst 0, 1) := by decide +kernel
theorem dR_take_69 : decode prog_9_method_25_code 69 = .ok (.goto 40, 3) := by decide +kernel
theorem dR_take_72 : decode prog_9_method_25_code 72 = .ok (.aload_n 0, 1) := by decide +kernel
theorem dR_take_73 : decode prog_9_method_25_code 73 = .ok (.iload_n 2, 1) := by decide +kernel
theorem dR_take_74 : decode prog_9_method_25_code 74 = .ok (.invokevirtual 127, 3) := by decide +kernel
theorem dR_take_77 : decode prog_9_method_25_code 77 = .ok (.ifCond .eq 23, 3) := by decide +kernel
theorem dR_take_80 : decode prog_9_method_25_code 80 = .ok (.aload_n 0, 1) := by decide +kernel
theorem dR_take_81 : decode prog_9_method_25_code 81 = .ok (.getfield 39, 3) := by decide +kernel
theorem dR_take_84 : decode prog_9_method_25_code 84 = .ok (.sipush 200, 3) := by decide +kernel
theorem dR_take_87 : decode prog_9_method_25_code 87 = .ok (.iload_n 2, 1) := by decide +kernel
theorem dR_take_88 : decode prog_9_method_25_code 88 = .ok (.imul, 1) := by decide +kernel
theorem dR_take_89 : decode prog_9_method_25_code 89 = .ok (.aload_n 0, 1) := by decide +kernel
theorem dR_take_90 : decode prog_9_method_25_code 90 = .ok (.getfield 48, 3) := by decide +kernel
theorem dR_take_93 : decode prog_9_method_25_code 93 = .ok (.iload_n 2, 1) := by decide +kernel
theorem dR_take_94 : decode prog_9_method_25_code 94 = .ok (.iaload, 1) := by decide +kernel
theorem dR_take_95 : decode prog_9_method_25_code 95 = .ok (.iadd, 1) := by decide +kernel
theorem dR_take_96 : decode prog_9_method_25_code 96 = .ok (.laload, 1) := by decide +kernel
theorem dR_take_97 : decode prog_9_method_25_code 97 = .ok (.goto 12, 3) := by decide +kernel
theorem dR_take_100 : decode prog_9_method_25_code 100 = .ok (.aload_n 0, 1) := by decide +kernel
theorem dR_take_101 : decode prog_9_method_25_code 101 = .ok (.getfield 33, 3) := by decide +kernel
theorem dR_take_104 : decode prog_9_method_25_code 104 = .ok (.bipush 16, 2) := by decide +kernel
theorem dR_take_106 : decode prog_9_method_25_code 106 = .ok (.iload_n 2, 1) := by decide +kernel
theorem dR_take_107 : decode prog_9_method_25_code 107 = .ok (.imul, 1) := by decide +kernel
theorem dR_take_108 : decode prog_9_method_25_code 108 = .ok (.laload, 1) := by decide +kernel
theorem dR_take_109 : decode prog_9_method_25_code 109 = .ok (.lstore 5, 2) := by decide +kernel
theorem dR_take_111 : decode prog_9_method_25_code 111 = .ok (.aload_n 0, 1) := by decide +kernel
theorem dR_take_112 : decode prog_9_method_25_code 112 = .ok (.iload_n 2, 1) := by decide +kernel
theorem dR_take_113 : decode prog_9_method_25_code 113 = .ok (.invokevirtual 127, 3) := by decide +kernel
theorem dR_take_116 : decode prog_9_method_25_code 116 = .ok (.ifCond .ne 12, 3) := by decide +kernel
theorem dR_take_119 : decode prog_9_method_25_code 119 = .ok (.aload_n 0, 1) := by decide +kernel
theorem dR_take_120 : decode prog_9_method_25_code 120 = .ok (.iload_n 2, 1) := by decide +kernel
theorem dR_take_121 : decode prog_9_method_25_code 121 = .ok (.iconst 0, 1) := by decide +kernel
theorem dR_take_122 : decode prog_9_method_25_code 122 = .ok (.invokevirtual 144, 3) := by decide +kernel
theorem dR_take_125 : decode prog_9_method_25_code 125 = .ok (.goto 38, 3) := by decide +kernel
theorem dR_take_128 : decode prog_9_method_25_code 128 = .ok (.iload_n 3, 1) := by decide +kernel
theorem dR_take_129 : decode prog_9_method_25_code 129 = .ok (.ifCond .ne 16, 3) := by decide +kernel
theorem dR_take_132 : decode prog_9_method_25_code 132 = .ok (.aload_n 0, 1) := by decide +kernel
theorem dR_take_133 : decode prog_9_method_25_code 133 = .ok (.getfield 48, 3) := by decide +kernel
theorem dR_take_136 : decode prog_9_method_25_code 136 = .ok (.iload_n 2, 1) := by decide +kernel
theorem dR_take_137 : decode prog_9_method_25_code 137 = .ok (.dup2, 1) := by decide +kernel
theorem dR_take_138 : decode prog_9_method_25_code 138 = .ok (.iaload, 1) := by decide +kernel
theorem dR_take_139 : decode prog_9_method_25_code 139 = .ok (.iconst 1, 1) := by decide +kernel
theorem dR_take_140 : decode prog_9_method_25_code 140 = .ok (.iadd, 1) := by decide +kernel
theorem dR_take_141 : decode prog_9_method_25_code 141 = .ok (.iastore, 1) := by decide +kernel
theorem dR_take_142 : decode prog_9_method_25_code 142 = .ok (.goto 21, 3) := by decide +kernel
theorem dR_take_145 : decode prog_9_method_25_code 145 = .ok (.iload_n 3, 1) := by decide +kernel
theorem dR_take_146 : decode prog_9_method_25_code 146 = .ok (.iconst 1, 1) := by decide +kernel
theorem dR_take_147 : decode prog_9_method_25_code 147 = .ok (.if_icmp .ne 16, 3) := by decide +kernel
theorem dR_take_150 : decode prog_9_method_25_code 150 = .ok (.aload_n 0, 1) := by decide +kernel
theorem dR_take_151 : decode prog_9_method_25_code 151 = .ok (.getfield 63, 3) := by decide +kernel
theorem dR_take_154 : decode prog_9_method_25_code 154 = .ok (.bipush 16, 2) := by decide +kernel
theorem dR_take_156 : decode prog_9_method_25_code 156 = .ok (.iload 4, 2) := by decide +kernel
theorem dR_take_158 : decode prog_9_method_25_code 158 = .ok (.imul, 1) := by decide +kernel
theorem dR_take_159 : decode prog_9_method_25_code 159 = .ok (.iload_n 2, 1) := by decide +kernel
theorem dR_take_160 : decode prog_9_method_25_code 160 = .ok (.iadd, 1) := by decide +kernel
theorem dR_take_161 : decode prog_9_method_25_code 161 = .ok (.iconst 1, 1) := by decide +kernel
theorem dR_take_162 : decode prog_9_method_25_code 162 = .ok (.bastore, 1) := by decide +kernel
theorem dR_take_163 : decode prog_9_method_25_code 163 = .ok (.iload_n 3, 1) := by decide +kernel
theorem dR_take_164 : decode prog_9_method_25_code 164 = .ok (.ifCond .ne 42, 3) := by decide +kernel
theorem dR_take_167 : decode prog_9_method_25_code 167 = .ok (.aload_n 0, 1) := by decide +kernel
theorem dR_take_168 : decode prog_9_method_25_code 168 = .ok (.getfield 13, 3) := by decide +kernel
theorem dR_take_171 : decode prog_9_method_25_code 171 = .ok (.iload_n 1, 1) := by decide +kernel
theorem dR_take_172 : decode prog_9_method_25_code 172 = .ok (.dup2, 1) := by decide +kernel
theorem dR_take_173 : decode prog_9_method_25_code 173 = .ok (.iaload, 1) := by decide +kernel
theorem dR_take_174 : decode prog_9_method_25_code 174 = .ok (.iconst 1, 1) := by decide +kernel
theorem dR_take_175 : decode prog_9_method_25_code 175 = .ok (.iadd, 1) := by decide +kernel
theorem dR_take_176 : decode prog_9_method_25_code 176 = .ok (.iastore, 1) := by decide +kernel
theorem dR_take_177 : decode prog_9_method_25_code 177 = .ok (.aload_n 0, 1) := by decide +kernel
theorem dR_take_178 : decode prog_9_method_25_code 178 = .ok (.getfield 7, 3) := by decide +kernel
theorem dR_take_181 : decode prog_9_method_25_code 181 = .ok (.iload_n 1, 1) := by decide +kernel
theorem dR_take_182 : decode prog_9_method_25_code 182 = .ok (.dup2, 1) := by decide +kernel
theorem dR_take_183 : decode prog_9_method_25_code 183 = .ok (.laload, 1) := by decide +kernel
theorem dR_take_184 : decode prog_9_method_25_code 184 = .ok (.lload 5, 2) := by decide +kernel
theorem dR_take_186 : decode prog_9_method_25_code 186 = .ok (.ladd, 1) := by decide +kernel
theorem dR_take_187 : decode prog_9_method_25_code 187 = .ok (.lastore, 1) := by decide +kernel
theorem dR_take_188 : decode prog_9_method_25_code 188 = .ok (.aload_n 0, 1) := by decide +kernel
theorem dR_take_189 : decode prog_9_method_25_code 189 = .ok (.iload_n 1, 1) := by decide +kernel
theorem dR_take_190 : decode prog_9_method_25_code 190 = .ok (.iconst 0, 1) := by decide +kernel
theorem dR_take_191 : decode prog_9_method_25_code 191 = .ok (.ldc2_w 176, 3) := by decide +kernel
theorem dR_take_194 : decode prog_9_method_25_code 194 = .ok (.lload 5, 2) := by decide +kernel
theorem dR_take_196 : decode prog_9_method_25_code 196 = .ok (.lmul, 1) := by decide +kernel
theorem dR_take_197 : decode prog_9_method_25_code 197 = .ok (.iload_n 1, 1) := by decide +kernel
theorem dR_take_198 : decode prog_9_method_25_code 198 = .ok (.i2l, 1) := by decide +kernel
theorem dR_take_199 : decode prog_9_method_25_code 199 = .ok (.ladd, 1) := by decide +kernel
theorem dR_take_200 : decode prog_9_method_25_code 200 = .ok (.invokevirtual 165, 3) := by decide +kernel
theorem dR_take_203 : decode prog_9_method_25_code 203 = .ok (.goto 26, 3) := by decide +kernel
theorem dR_take_206 : decode prog_9_method_25_code 206 = .ok (.iload_n 3, 1) := by decide +kernel
theorem dR_take_207 : decode prog_9_method_25_code 207 = .ok (.iconst 1, 1) := by decide +kernel
theorem dR_take_208 : decode prog_9_method_25_code 208 = .ok (.if_icmp .ne 14, 3) := by decide +kernel
theorem dR_take_211 : decode prog_9_method_25_code 211 = .ok (.aload_n 0, 1) := by decide +kernel
theorem dR_take_212 : decode prog_9_method_25_code 212 = .ok (.getfield 54, 3) := by decide +kernel
theorem dR_take_215 : decode prog_9_method_25_code 215 = .ok (.iload_n 2, 1) := by decide +kernel
theorem dR_take_216 : decode prog_9_method_25_code 216 = .ok (.iload 4, 2) := by decide +kernel
theorem dR_take_218 : decode prog_9_method_25_code 218 = .ok (.iastore, 1) := by decide +kernel
theorem dR_take_219 : decode prog_9_method_25_code 219 = .ok (.goto 10, 3) := by decide +kernel
theorem dR_take_222 : decode prog_9_method_25_code 222 = .ok (.aload_n 0, 1) := by decide +kernel
theorem dR_take_223 : decode prog_9_method_25_code 223 = .ok (.getfield 51, 3) := by decide +kernel
theorem dR_take_226 : decode prog_9_method_25_code 226 = .ok (.iload_n 2, 1) := by decide +kernel
theorem dR_take_227 : decode prog_9_method_25_code 227 = .ok (.iconst 1, 1) := by decide +kernel
theorem dR_take_228 : decode prog_9_method_25_code 228 = .ok (.bastore, 1) := by decide +kernel
theorem dR_take_229 : decode prog_9_method_25_code 229 = .ok (.iload_n 3, 1) := by decide +kernel
theorem dR_take_230 : decode prog_9_method_25_code 230 = .ok (.iconst 1, 1) := by decide +kernel
theorem dR_take_231 : decode prog_9_method_25_code 231 = .ok (.iadd, 1) := by decide +kernel
theorem dR_take_232 : decode prog_9_method_25_code 232 = .ok (.ireturn, 1) := by decide +kernel
theorem dR_go_0 : decode prog_9_method_24_code 0 = .ok (.aload_n 0, 1) := by decide +kernel
theorem dR_go_1 : decode prog_9_method_24_code 1 = .ok (.getfield 17, 3) := by decide +kernel
theorem dR_go_4 : decode prog_9_method_24_code 4 = .ok (.iload_n 1, 1) := by decide +kernel
theorem dR_go_5 : decode prog_9_method_24_code 5 = .ok (.baload, 1) := by decide +kernel
theorem dR_go_6 : decode prog_9_method_24_code 6 = .ok (.ifCond .ne 11, 3) := by decide +kernel
theorem dR_go_9 : decode prog_9_method_24_code 9 = .ok (.aload_n 0, 1) := by decide +kernel
theorem dR_go_10 : decode prog_9_method_24_code 10 = .ok (.iload_n 1, 1) := by decide +kernel
theorem dR_go_11 : decode prog_9_method_24_code 11 = .ok (.invokevirtual 121, 3) := by decide +kernel
theorem dR_go_14 : decode prog_9_method_24_code 14 = .ok (.ifCond .ne 5, 3) := by decide +kernel
theorem dR_go_17 : decode prog_9_method_24_code 17 = .ok (.iconst 0, 1) := by decide +kernel
theorem dR_go_18 : decode prog_9_method_24_code 18 = .ok (.ireturn, 1) := by decide +kernel
theorem dR_go_19 : decode prog_9_method_24_code 19 = .ok (.iconst (-1), 1) := by decide +kernel
theorem dR_go_20 : decode prog_9_method_24_code 20 = .ok (.istore_n 2, 1) := by decide +kernel
theorem dR_go_21 : decode prog_9_method_24_code 21 = .ok (.iconst 1, 1) := by decide +kernel
theorem dR_go_22 : decode prog_9_method_24_code 22 = .ok (.istore_n 3, 1) := by decide +kernel
theorem dR_go_23 : decode prog_9_method_24_code 23 = .ok (.iconst 0, 1) := by decide +kernel
theorem dR_go_24 : decode prog_9_method_24_code 24 = .ok (.istore 4, 2) := by decide +kernel
theorem dR_go_26 : decode prog_9_method_24_code 26 = .ok (.iload 4, 2) := by decide +kernel
theorem dR_go_28 : decode prog_9_method_24_code 28 = .ok (.aload_n 0, 1) := by decide +kernel
theorem dR_go_29 : decode prog_9_method_24_code 29 = .ok (.getfield 103, 3) := by decide +kernel
theorem dR_go_32 : decode prog_9_method_24_code 32 = .ok (.if_icmp .ge 71, 3) := by decide +kernel
theorem dR_go_35 : decode prog_9_method_24_code 35 = .ok (.aload_n 0, 1) := by decide +kernel
theorem dR_go_36 : decode prog_9_method_24_code 36 = .ok (.getfield 27, 3) := by decide +kernel
theorem dR_go_39 : decode prog_9_method_24_code 39 = .ok (.iload 4, 2) := by decide +kernel
theorem dR_go_41 : decode prog_9_method_24_code 41 = .ok (.iaload, 1) := by decide +kernel
theorem dR_go_42 : decode prog_9_method_24_code 42 = .ok (.iload_n 1, 1) := by decide +kernel
theorem dR_go_43 : decode prog_9_method_24_code 43 = .ok (.if_icmp .eq 6, 3) := by decide +kernel
theorem dR_go_46 : decode prog_9_method_24_code 46 = .ok (.goto 51, 3) := by decide +kernel
theorem dR_go_49 : decode prog_9_method_24_code 49 = .ok (.aload_n 0, 1) := by decide +kernel
theorem dR_go_50 : decode prog_9_method_24_code 50 = .ok (.getfield 54, 3) := by decide +kernel
theorem dR_go_53 : decode prog_9_method_24_code 53 = .ok (.iload 4, 2) := by decide +kernel
theorem dR_go_55 : decode prog_9_method_24_code 55 = .ok (.iaload, 1) := by decide +kernel
theorem dR_go_56 : decode prog_9_method_24_code 56 = .ok (.iconst (-1), 1) := by decide +kernel
theorem dR_go_57 : decode prog_9_method_24_code 57 = .ok (.if_icmp .eq 11, 3) := by decide +kernel
theorem dR_go_60 : decode prog_9_method_24_code 60 = .ok (.aload_n 0, 1) := by decide +kernel
theorem dR_go_61 : decode prog_9_method_24_code 61 = .ok (.getfield 54, 3) := by decide +kernel
theorem dR_go_64 : decode prog_9_method_24_code 64 = .ok (.iload 4, 2) := by decide +kernel
theorem dR_go_66 : decode prog_9_method_24_code 66 = .ok (.iaload, 1) := by decide +kernel
theorem dR_go_67 : decode prog_9_method_24_code 67 = .ok (.istore_n 2, 1) := by decide +kernel
theorem dR_go_68 : decode prog_9_method_24_code 68 = .ok (.iload_n 3, 1) := by decide +kernel
theorem dR_go_69 : decode prog_9_method_24_code 69 = .ok (.aload_n 0, 1) := by decide +kernel
theorem dR_go_70 : decode prog_9_method_24_code 70 = .ok (.getfield 54, 3) := by decide +kernel
theorem dR_go_73 : decode prog_9_method_24_code 73 = .ok (.iload 4, 2) := by decide +kernel
theorem dR_go_75 : decode prog_9_method_24_code 75 = .ok (.iaload, 1) := by decide +kernel
theorem dR_go_76 : decode prog_9_method_24_code 76 = .ok (.iconst (-1), 1) := by decide +kernel
theorem dR_go_77 : decode prog_9_method_24_code 77 = .ok (.if_icmp .ne 13, 3) := by decide +kernel
theorem dR_go_80 : decode prog_9_method_24_code 80 = .ok (.aload_n 0, 1) := by decide +kernel
theorem dR_go_81 : decode prog_9_method_24_code 81 = .ok (.getfield 51, 3) := by decide +kernel
theorem dR_go_84 : decode prog_9_method_24_code 84 = .ok (.iload 4, 2) := by decide +kernel
theorem dR_go_86 : decode prog_9_method_24_code 86 = .ok (.baload, 1) := by decide +kernel
theorem dR_go_87 : decode prog_9_method_24_code 87 = .ok (.ifCond .eq 7, 3) := by decide +kernel
theorem dR_go_90 : decode prog_9_method_24_code 90 = .ok (.iconst 1, 1) := by decide +kernel
theorem dR_go_91 : decode prog_9_method_24_code 91 = .ok (.goto 4, 3) := by decide +kernel
theorem dR_go_94 : decode prog_9_method_24_code 94 = .ok (.iconst 0, 1) := by decide +kernel
theorem dR_go_95 : decode prog_9_method_24_code 95 = .ok (.iand, 1) := by decide +kernel
theorem dR_go_96 : decode prog_9_method_24_code 96 = .ok (.istore_n 3, 1) := by decide +kernel
theorem dR_go_97 : decode prog_9_method_24_code 97 = .ok (.iinc 4 1, 3) := by decide +kernel
theorem dR_go_100 : decode prog_9_method_24_code 100 = .ok (.goto (-74), 3) := by decide +kernel
theorem dR_go_103 : decode prog_9_method_24_code 103 = .ok (.iload_n 3, 1) := by decide +kernel
theorem dR_go_104 : decode prog_9_method_24_code 104 = .ok (.ifCond .eq 93, 3) := by decide +kernel
theorem dR_go_107 : decode prog_9_method_24_code 107 = .ok (.iload_n 2, 1) := by decide +kernel
theorem dR_go_108 : decode prog_9_method_24_code 108 = .ok (.iconst (-1), 1) := by decide +kernel
theorem dR_go_109 : decode prog_9_method_24_code 109 = .ok (.if_icmp .eq 88, 3) := by decide +kernel
theorem dR_go_112 : decode prog_9_method_24_code 112 = .ok (.aload_n 0, 1) := by decide +kernel
theorem dR_go_113 : decode prog_9_method_24_code 113 = .ok (.iload_n 1, 1) := by decide +kernel
theorem dR_go_114 : decode prog_9_method_24_code 114 = .ok (.invokevirtual 162, 3) := by decide +kernel
theorem dR_go_117 : decode prog_9_method_24_code 117 = .ok (.ifCond .ne 5, 3) := by decide +kernel
theorem dR_go_120 : decode prog_9_method_24_code 120 = .ok (.iconst 0, 1) := by decide +kernel
theorem dR_go_121 : decode prog_9_method_24_code 121 = .ok (.ireturn, 1) := by decide +kernel
theorem dR_go_122 : decode prog_9_method_24_code 122 = .ok (.aload_n 0, 1) := by decide +kernel
theorem dR_go_123 : decode prog_9_method_24_code 123 = .ok (.getfield 78, 3) := by decide +kernel
theorem dR_go_126 : decode prog_9_method_24_code 126 = .ok (.bipush 8, 2) := by decide +kernel
theorem dR_go_128 : decode prog_9_method_24_code 128 = .ok (.iload_n 2, 1) := by decide +kernel
theorem dR_go_129 : decode prog_9_method_24_code 129 = .ok (.imul, 1) := by decide +kernel
theorem dR_go_130 : decode prog_9_method_24_code 130 = .ok (.iload_n 1, 1) := by decide +kernel
theorem dR_go_131 : decode prog_9_method_24_code 131 = .ok (.iadd, 1) := by decide +kernel
theorem dR_go_132 : decode prog_9_method_24_code 132 = .ok (.baload, 1) := by decide +kernel
theorem dR_go_133 : decode prog_9_method_24_code 133 = .ok (.ifCond .eq 11, 3) := by decide +kernel
theorem dR_go_136 : decode prog_9_method_24_code 136 = .ok (.aload_n 0, 1) := by decide +kernel
theorem dR_go_137 : decode prog_9_method_24_code 137 = .ok (.iload_n 2, 1) := by decide +kernel
theorem dR_go_138 : decode prog_9_method_24_code 138 = .ok (.iconst 2, 1) := by decide +kernel
theorem dR_go_139 : decode prog_9_method_24_code 139 = .ok (.invokevirtual 159, 3) := by decide +kernel
theorem dR_go_142 : decode prog_9_method_24_code 142 = .ok (.iconst 5, 1) := by decide +kernel
theorem dR_go_143 : decode prog_9_method_24_code 143 = .ok (.ireturn, 1) := by decide +kernel
theorem dR_go_144 : decode prog_9_method_24_code 144 = .ok (.aload_n 0, 1) := by decide +kernel
theorem dR_go_145 : decode prog_9_method_24_code 145 = .ok (.iload_n 2, 1) := by decide +kernel
theorem dR_go_146 : decode prog_9_method_24_code 146 = .ok (.iload_n 1, 1) := by decide +kernel
theorem dR_go_147 : decode prog_9_method_24_code 147 = .ok (.invokevirtual 134, 3) := by decide +kernel
theorem dR_go_150 : decode prog_9_method_24_code 150 = .ok (.aload_n 0, 1) := by decide +kernel
theorem dR_go_151 : decode prog_9_method_24_code 151 = .ok (.iload_n 1, 1) := by decide +kernel
theorem dR_go_152 : decode prog_9_method_24_code 152 = .ok (.iconst 1, 1) := by decide +kernel
theorem dR_go_153 : decode prog_9_method_24_code 153 = .ok (.iload_n 2, 1) := by decide +kernel
theorem dR_go_154 : decode prog_9_method_24_code 154 = .ok (.i2l, 1) := by decide +kernel
theorem dR_go_155 : decode prog_9_method_24_code 155 = .ok (.invokevirtual 165, 3) := by decide +kernel
theorem dR_go_158 : decode prog_9_method_24_code 158 = .ok (.iconst 0, 1) := by decide +kernel
theorem dR_go_159 : decode prog_9_method_24_code 159 = .ok (.istore 4, 2) := by decide +kernel
theorem dR_go_161 : decode prog_9_method_24_code 161 = .ok (.iload 4, 2) := by decide +kernel
theorem dR_go_163 : decode prog_9_method_24_code 163 = .ok (.aload_n 0, 1) := by decide +kernel
theorem dR_go_164 : decode prog_9_method_24_code 164 = .ok (.getfield 103, 3) := by decide +kernel
theorem dR_go_167 : decode prog_9_method_24_code 167 = .ok (.if_icmp .ge 28, 3) := by decide +kernel
theorem dR_go_170 : decode prog_9_method_24_code 170 = .ok (.aload_n 0, 1) := by decide +kernel
theorem dR_go_171 : decode prog_9_method_24_code 171 = .ok (.getfield 27, 3) := by decide +kernel
theorem dR_go_174 : decode prog_9_method_24_code 174 = .ok (.iload 4, 2) := by decide +kernel
theorem dR_go_176 : decode prog_9_method_24_code 176 = .ok (.iaload, 1) := by decide +kernel
theorem dR_go_177 : decode prog_9_method_24_code 177 = .ok (.iload_n 1, 1) := by decide +kernel
theorem dR_go_178 : decode prog_9_method_24_code 178 = .ok (.if_icmp .ne 11, 3) := by decide +kernel
theorem dR_go_181 : decode prog_9_method_24_code 181 = .ok (.aload_n 0, 1) := by decide +kernel
theorem dR_go_182 : decode prog_9_method_24_code 182 = .ok (.getfield 54, 3) := by decide +kernel
theorem dR_go_185 : decode prog_9_method_24_code 185 = .ok (.iload 4, 2) := by decide +kernel
theorem dR_go_187 : decode prog_9_method_24_code 187 = .ok (.iconst (-1), 1) := by decide +kernel
theorem dR_go_188 : decode prog_9_method_24_code 188 = .ok (.iastore, 1) := by decide +kernel
theorem dR_go_189 : decode prog_9_method_24_code 189 = .ok (.iinc 4 1, 3) := by decide +kernel
theorem dR_go_192 : decode prog_9_method_24_code 192 = .ok (.goto (-31), 3) := by decide +kernel
theorem dR_go_195 : decode prog_9_method_24_code 195 = .ok (.iconst 4, 1) := by decide +kernel
theorem dR_go_196 : decode prog_9_method_24_code 196 = .ok (.ireturn, 1) := by decide +kernel
theorem dR_go_197 : decode prog_9_method_24_code 197 = .ok (.iload_n 3, 1) := by decide +kernel
theorem dR_go_198 : decode prog_9_method_24_code 198 = .ok (.ifCond .eq 70, 3) := by decide +kernel
theorem dR_go_201 : decode prog_9_method_24_code 201 = .ok (.aload_n 0, 1) := by decide +kernel
theorem dR_go_202 : decode prog_9_method_24_code 202 = .ok (.iload_n 1, 1) := by decide +kernel
theorem dR_go_203 : decode prog_9_method_24_code 203 = .ok (.iconst 2, 1) := by decide +kernel
theorem dR_go_204 : decode prog_9_method_24_code 204 = .ok (.lconst 0, 1) := by decide +kernel
theorem dR_go_205 : decode prog_9_method_24_code 205 = .ok (.invokevirtual 165, 3) := by decide +kernel
theorem dR_go_208 : decode prog_9_method_24_code 208 = .ok (.aload_n 0, 1) := by decide +kernel
theorem dR_go_209 : decode prog_9_method_24_code 209 = .ok (.getfield 17, 3) := by decide +kernel
theorem dR_go_212 : decode prog_9_method_24_code 212 = .ok (.iload_n 1, 1) := by decide +kernel
theorem dR_go_213 : decode prog_9_method_24_code 213 = .ok (.iconst 1, 1) := by decide +kernel
theorem dR_go_214 : decode prog_9_method_24_code 214 = .ok (.bastore, 1) := by decide +kernel
theorem dR_go_215 : decode prog_9_method_24_code 215 = .ok (.iconst 0, 1) := by decide +kernel
theorem dR_go_216 : decode prog_9_method_24_code 216 = .ok (.istore 4, 2) := by decide +kernel
theorem dR_go_218 : decode prog_9_method_24_code 218 = .ok (.iload 4, 2) := by decide +kernel
theorem dR_go_220 : decode prog_9_method_24_code 220 = .ok (.aload_n 0, 1) := by decide +kernel
theorem dR_go_221 : decode prog_9_method_24_code 221 = .ok (.getfield 106, 3) := by decide +kernel
theorem dR_go_224 : decode prog_9_method_24_code 224 = .ok (.if_icmp .ge 41, 3) := by decide +kernel
theorem dR_go_227 : decode prog_9_method_24_code 227 = .ok (.aload_n 0, 1) := by decide +kernel
theorem dR_go_228 : decode prog_9_method_24_code 228 = .ok (.getfield 57, 3) := by decide +kernel
theorem dR_go_231 : decode prog_9_method_24_code 231 = .ok (.iload 4, 2) := by decide +kernel
theorem dR_go_233 : decode prog_9_method_24_code 233 = .ok (.iaload, 1) := by decide +kernel
theorem dR_go_234 : decode prog_9_method_24_code 234 = .ok (.ifCond .ne 25, 3) := by decide +kernel
theorem dR_go_237 : decode prog_9_method_24_code 237 = .ok (.aload_n 0, 1) := by decide +kernel
theorem dR_go_238 : decode prog_9_method_24_code 238 = .ok (.getfield 66, 3) := by decide +kernel
theorem dR_go_241 : decode prog_9_method_24_code 241 = .ok (.bipush 8, 2) := by decide +kernel
theorem dR_go_243 : decode prog_9_method_24_code 243 = .ok (.iload 4, 2) := by decide +kernel
theorem dR_go_245 : decode prog_9_method_24_code 245 = .ok (.imul, 1) := by decide +kernel
theorem dR_go_246 : decode prog_9_method_24_code 246 = .ok (.iload_n 1, 1) := by decide +kernel
theorem dR_go_247 : decode prog_9_method_24_code 247 = .ok (.iadd, 1) := by decide +kernel
theorem dR_go_248 : decode prog_9_method_24_code 248 = .ok (.baload, 1) := by decide +kernel
theorem dR_go_249 : decode prog_9_method_24_code 249 = .ok (.ifCond .ne 10, 3) := by decide +kernel
theorem dR_go_252 : decode prog_9_method_24_code 252 = .ok (.aload_n 0, 1) := by decide +kernel
theorem dR_go_253 : decode prog_9_method_24_code 253 = .ok (.iload 4, 2) := by decide +kernel
theorem dR_go_255 : decode prog_9_method_24_code 255 = .ok (.iload_n 1, 1) := by decide +kernel
theorem dR_go_256 : decode prog_9_method_24_code 256 = .ok (.invokevirtual 134, 3) := by decide +kernel
theorem dR_go_259 : decode prog_9_method_24_code 259 = .ok (.iinc 4 1, 3) := by decide +kernel
theorem dR_go_262 : decode prog_9_method_24_code 262 = .ok (.goto (-44), 3) := by decide +kernel
theorem dR_go_265 : decode prog_9_method_24_code 265 = .ok (.bipush 6, 2) := by decide +kernel
theorem dR_go_267 : decode prog_9_method_24_code 267 = .ok (.ireturn, 1) := by decide +kernel
theorem dR_go_268 : decode prog_9_method_24_code 268 = .ok (.iconst 1, 1) := by decide +kernel
theorem dR_go_269 : decode prog_9_method_24_code 269 = .ok (.istore 4, 2) := by decide +kernel
theorem dR_go_271 : decode prog_9_method_24_code 271 = .ok (.iload 4, 2) := by decide +kernel
theorem dR_go_273 : decode prog_9_method_24_code 273 = .ok (.aload_n 0, 1) := by decide +kernel
theorem dR_go_274 : decode prog_9_method_24_code 274 = .ok (.getfield 103, 3) := by decide +kernel
theorem dR_go_277 : decode prog_9_method_24_code 277 = .ok (.if_icmp .gt 65, 3) := by decide +kernel
theorem dR_go_280 : decode prog_9_method_24_code 280 = .ok (.aload_n 0, 1) := by decide +kernel
theorem dR_go_281 : decode prog_9_method_24_code 281 = .ok (.getfield 21, 3) := by decide +kernel
theorem dR_go_284 : decode prog_9_method_24_code 284 = .ok (.iload_n 1, 1) := by decide +kernel
theorem dR_go_285 : decode prog_9_method_24_code 285 = .ok (.iaload, 1) := by decide +kernel
theorem dR_go_286 : decode prog_9_method_24_code 286 = .ok (.iload 4, 2) := by decide +kernel
theorem dR_go_288 : decode prog_9_method_24_code 288 = .ok (.iadd, 1) := by decide +kernel
theorem dR_go_289 : decode prog_9_method_24_code 289 = .ok (.aload_n 0, 1) := by decide +kernel
theorem dR_go_290 : decode prog_9_method_24_code 290 = .ok (.getfield 103, 3) := by decide +kernel
theorem dR_go_293 : decode prog_9_method_24_code 293 = .ok (.irem, 1) := by decide +kernel
theorem dR_go_294 : decode prog_9_method_24_code 294 = .ok (.istore 5, 2) := by decide +kernel
theorem dR_go_296 : decode prog_9_method_24_code 296 = .ok (.aload_n 0, 1) := by decide +kernel
theorem dR_go_297 : decode prog_9_method_24_code 297 = .ok (.getfield 27, 3) := by decide +kernel
theorem dR_go_300 : decode prog_9_method_24_code 300 = .ok (.iload 5, 2) := by decide +kernel
theorem dR_go_302 : decode prog_9_method_24_code 302 = .ok (.iaload, 1) := by decide +kernel
theorem dR_go_303 : decode prog_9_method_24_code 303 = .ok (.iload_n 1, 1) := by decide +kernel
theorem dR_go_304 : decode prog_9_method_24_code 304 = .ok (.if_icmp .ne 32, 3) := by decide +kernel
theorem dR_go_307 : decode prog_9_method_24_code 307 = .ok (.aload_n 0, 1) := by decide +kernel
theorem dR_go_308 : decode prog_9_method_24_code 308 = .ok (.getfield 54, 3) := by decide +kernel
theorem dR_go_311 : decode prog_9_method_24_code 311 = .ok (.iload 5, 2) := by decide +kernel
theorem dR_go_313 : decode prog_9_method_24_code 313 = .ok (.iaload, 1) := by decide +kernel
theorem dR_go_314 : decode prog_9_method_24_code 314 = .ok (.iconst (-1), 1) := by decide +kernel
theorem dR_go_315 : decode prog_9_method_24_code 315 = .ok (.if_icmp .ne 21, 3) := by decide +kernel
theorem dR_go_318 : decode prog_9_method_24_code 318 = .ok (.aload_n 0, 1) := by decide +kernel
theorem dR_go_319 : decode prog_9_method_24_code 319 = .ok (.iload 5, 2) := by decide +kernel
theorem dR_go_321 : decode prog_9_method_24_code 321 = .ok (.invokevirtual 169, 3) := by decide +kernel
theorem dR_go_324 : decode prog_9_method_24_code 324 = .ok (.iconst (-1), 1) := by decide +kernel
theorem dR_go_325 : decode prog_9_method_24_code 325 = .ok (.if_icmp .eq 11, 3) := by decide +kernel
theorem dR_go_328 : decode prog_9_method_24_code 328 = .ok (.aload_n 0, 1) := by decide +kernel
theorem dR_go_329 : decode prog_9_method_24_code 329 = .ok (.iload_n 1, 1) := by decide +kernel
theorem dR_go_330 : decode prog_9_method_24_code 330 = .ok (.iload 5, 2) := by decide +kernel
theorem dR_go_332 : decode prog_9_method_24_code 332 = .ok (.invokevirtual 172, 3) := by decide +kernel
theorem dR_go_335 : decode prog_9_method_24_code 335 = .ok (.ireturn, 1) := by decide +kernel
theorem dR_go_336 : decode prog_9_method_24_code 336 = .ok (.iinc 4 1, 3) := by decide +kernel
theorem dR_go_339 : decode prog_9_method_24_code 339 = .ok (.goto (-68), 3) := by decide +kernel
theorem dR_go_342 : decode prog_9_method_24_code 342 = .ok (.iconst 0, 1) := by decide +kernel
theorem dR_go_343 : decode prog_9_method_24_code 343 = .ok (.ireturn, 1) := by decide +kernel
theorem dR_turn_0 : decode prog_9_method_22_code 0 = .ok (.aload_n 0, 1) := by decide +kernel
theorem dR_turn_1 : decode prog_9_method_22_code 1 = .ok (.iload_n 1, 1) := by decide +kernel
theorem dR_turn_2 : decode prog_9_method_22_code 2 = .ok (.iconst (-1), 1) := by decide +kernel
theorem dR_turn_3 : decode prog_9_method_22_code 3 = .ok (.if_icmp .eq 11, 3) := by decide +kernel
theorem dR_turn_6 : decode prog_9_method_22_code 6 = .ok (.aload_n 0, 1) := by decide +kernel
theorem dR_turn_7 : decode prog_9_method_22_code 7 = .ok (.iload_n 1, 1) := by decide +kernel
theorem dR_turn_8 : decode prog_9_method_22_code 8 = .ok (.invokevirtual 109, 3) := by decide +kernel
theorem dR_turn_11 : decode prog_9_method_22_code 11 = .ok (.ifCond .eq 7, 3) := by decide +kernel
theorem dR_turn_14 : decode prog_9_method_22_code 14 = .ok (.iconst 0, 1) := by decide +kernel
theorem dR_turn_15 : decode prog_9_method_22_code 15 = .ok (.goto 4, 3) := by decide +kernel
theorem dR_turn_18 : decode prog_9_method_22_code 18 = .ok (.iconst 1, 1) := by decide +kernel
theorem dR_turn_19 : decode prog_9_method_22_code 19 = .ok (.putfield 100, 3) := by decide +kernel
theorem dR_turn_22 : decode prog_9_method_22_code 22 = .ok (.aload_n 0, 1) := by decide +kernel
theorem dR_turn_23 : decode prog_9_method_22_code 23 = .ok (.getfield 100, 3) := by decide +kernel
theorem dR_turn_26 : decode prog_9_method_22_code 26 = .ok (.ifCond .le 5, 3) := by decide +kernel
theorem dR_turn_29 : decode prog_9_method_22_code 29 = .ok (.iconst 0, 1) := by decide +kernel
theorem dR_turn_30 : decode prog_9_method_22_code 30 = .ok (.ireturn, 1) := by decide +kernel
theorem dR_turn_31 : decode prog_9_method_22_code 31 = .ok (.iload_n 1, 1) := by decide +kernel
theorem dR_turn_32 : decode prog_9_method_22_code 32 = .ok (.iconst (-1), 1) := by decide +kernel
theorem dR_turn_33 : decode prog_9_method_22_code 33 = .ok (.if_icmp .ne 10, 3) := by decide +kernel
theorem dR_turn_36 : decode prog_9_method_22_code 36 = .ok (.aload_n 0, 1) := by decide +kernel
theorem dR_turn_37 : decode prog_9_method_22_code 37 = .ok (.invokevirtual 150, 3) := by decide +kernel
theorem dR_turn_40 : decode prog_9_method_22_code 40 = .ok (.goto 8, 3) := by decide +kernel
theorem dR_turn_43 : decode prog_9_method_22_code 43 = .ok (.aload_n 0, 1) := by decide +kernel
theorem dR_turn_44 : decode prog_9_method_22_code 44 = .ok (.iload_n 1, 1) := by decide +kernel
theorem dR_turn_45 : decode prog_9_method_22_code 45 = .ok (.invokevirtual 153, 3) := by decide +kernel
theorem dR_turn_48 : decode prog_9_method_22_code 48 = .ok (.ireturn, 1) := by decide +kernel
theorem dR_play_0 : decode prog_9_method_26_code 0 = .ok (.aload_n 0, 1) := by decide +kernel
theorem dR_play_1 : decode prog_9_method_26_code 1 = .ok (.iload_n 3, 1) := by decide +kernel
theorem dR_play_2 : decode prog_9_method_26_code 2 = .ok (.iconst 1, 1) := by decide +kernel
theorem dR_play_3 : decode prog_9_method_26_code 3 = .ok (.if_icmp .lt 10, 3) := by decide +kernel
theorem dR_play_6 : decode prog_9_method_26_code 6 = .ok (.iload_n 3, 1) := by decide +kernel
theorem dR_play_7 : decode prog_9_method_26_code 7 = .ok (.sipush 2000, 3) := by decide +kernel
theorem dR_play_10 : decode prog_9_method_26_code 10 = .ok (.if_icmp .le 7, 3) := by decide +kernel
theorem dR_play_13 : decode prog_9_method_26_code 13 = .ok (.iconst 1, 1) := by decide +kernel
theorem dR_play_14 : decode prog_9_method_26_code 14 = .ok (.goto 4, 3) := by decide +kernel
theorem dR_play_17 : decode prog_9_method_26_code 17 = .ok (.iconst 0, 1) := by decide +kernel
theorem dR_play_18 : decode prog_9_method_26_code 18 = .ok (.putfield 100, 3) := by decide +kernel
theorem dR_play_21 : decode prog_9_method_26_code 21 = .ok (.aload_n 0, 1) := by decide +kernel
theorem dR_play_22 : decode prog_9_method_26_code 22 = .ok (.getfield 100, 3) := by decide +kernel
theorem dR_play_25 : decode prog_9_method_26_code 25 = .ok (.ifCond .le 5, 3) := by decide +kernel
theorem dR_play_28 : decode prog_9_method_26_code 28 = .ok (.iconst 0, 1) := by decide +kernel
theorem dR_play_29 : decode prog_9_method_26_code 29 = .ok (.ireturn, 1) := by decide +kernel
theorem dR_play_30 : decode prog_9_method_26_code 30 = .ok (.lload_n 1, 1) := by decide +kernel
theorem dR_play_31 : decode prog_9_method_26_code 31 = .ok (.lstore 4, 2) := by decide +kernel
theorem dR_play_33 : decode prog_9_method_26_code 33 = .ok (.iconst 0, 1) := by decide +kernel
theorem dR_play_34 : decode prog_9_method_26_code 34 = .ok (.istore 6, 2) := by decide +kernel
theorem dR_play_36 : decode prog_9_method_26_code 36 = .ok (.iconst 0, 1) := by decide +kernel
theorem dR_play_37 : decode prog_9_method_26_code 37 = .ok (.istore 7, 2) := by decide +kernel
theorem dR_play_39 : decode prog_9_method_26_code 39 = .ok (.iload 7, 2) := by decide +kernel
theorem dR_play_41 : decode prog_9_method_26_code 41 = .ok (.iload_n 3, 1) := by decide +kernel
theorem dR_play_42 : decode prog_9_method_26_code 42 = .ok (.if_icmp .ge 77, 3) := by decide +kernel
theorem dR_play_45 : decode prog_9_method_26_code 45 = .ok (.ldc2_w 178, 3) := by decide +kernel
theorem dR_play_48 : decode prog_9_method_26_code 48 = .ok (.lload 4, 2) := by decide +kernel
theorem dR_play_50 : decode prog_9_method_26_code 50 = .ok (.lmul, 1) := by decide +kernel
theorem dR_play_51 : decode prog_9_method_26_code 51 = .ok (.ldc2_w 180, 3) := by decide +kernel
theorem dR_play_54 : decode prog_9_method_26_code 54 = .ok (.ladd, 1) := by decide +kernel
theorem dR_play_55 : decode prog_9_method_26_code 55 = .ok (.lstore 4, 2) := by decide +kernel
theorem dR_play_57 : decode prog_9_method_26_code 57 = .ok (.lload 4, 2) := by decide +kernel
theorem dR_play_59 : decode prog_9_method_26_code 59 = .ok (.bipush 33, 2) := by decide +kernel
theorem dR_play_61 : decode prog_9_method_26_code 61 = .ok (.lushr, 1) := by decide +kernel
theorem dR_play_62 : decode prog_9_method_26_code 62 = .ok (.aload_n 0, 1) := by decide +kernel
theorem dR_play_63 : decode prog_9_method_26_code 63 = .ok (.getfield 96, 3) := by decide +kernel
theorem dR_play_66 : decode prog_9_method_26_code 66 = .ok (.iconst 1, 1) := by decide +kernel
theorem dR_play_67 : decode prog_9_method_26_code 67 = .ok (.iadd, 1) := by decide +kernel
theorem dR_play_68 : decode prog_9_method_26_code 68 = .ok (.i2l, 1) := by decide +kernel
theorem dR_play_69 : decode prog_9_method_26_code 69 = .ok (.lrem, 1) := by decide +kernel
theorem dR_play_70 : decode prog_9_method_26_code 70 = .ok (.l2i, 1) := by decide +kernel
theorem dR_play_71 : decode prog_9_method_26_code 71 = .ok (.istore 8, 2) := by decide +kernel
theorem dR_play_73 : decode prog_9_method_26_code 73 = .ok (.iload 8, 2) := by decide +kernel
theorem dR_play_75 : decode prog_9_method_26_code 75 = .ok (.aload_n 0, 1) := by decide +kernel
theorem dR_play_76 : decode prog_9_method_26_code 76 = .ok (.getfield 96, 3) := by decide +kernel
theorem dR_play_79 : decode prog_9_method_26_code 79 = .ok (.if_icmp .ne 10, 3) := by decide +kernel
theorem dR_play_82 : decode prog_9_method_26_code 82 = .ok (.aload_n 0, 1) := by decide +kernel
theorem dR_play_83 : decode prog_9_method_26_code 83 = .ok (.invokevirtual 150, 3) := by decide +kernel
theorem dR_play_86 : decode prog_9_method_26_code 86 = .ok (.goto 9, 3) := by decide +kernel
theorem dR_play_89 : decode prog_9_method_26_code 89 = .ok (.aload_n 0, 1) := by decide +kernel
theorem dR_play_90 : decode prog_9_method_26_code 90 = .ok (.iload 8, 2) := by decide +kernel
theorem dR_play_92 : decode prog_9_method_26_code 92 = .ok (.invokevirtual 153, 3) := by decide +kernel
theorem dR_play_95 : decode prog_9_method_26_code 95 = .ok (.istore 9, 2) := by decide +kernel
theorem dR_play_97 : decode prog_9_method_26_code 97 = .ok (.iload 6, 2) := by decide +kernel
theorem dR_play_99 : decode prog_9_method_26_code 99 = .ok (.iload 9, 2) := by decide +kernel
theorem dR_play_101 : decode prog_9_method_26_code 101 = .ok (.iconst 1, 1) := by decide +kernel
theorem dR_play_102 : decode prog_9_method_26_code 102 = .ok (.if_icmp .ne 7, 3) := by decide +kernel
theorem dR_play_105 : decode prog_9_method_26_code 105 = .ok (.iconst 1, 1) := by decide +kernel
theorem dR_play_106 : decode prog_9_method_26_code 106 = .ok (.goto 4, 3) := by decide +kernel
theorem dR_play_109 : decode prog_9_method_26_code 109 = .ok (.iconst 0, 1) := by decide +kernel
theorem dR_play_110 : decode prog_9_method_26_code 110 = .ok (.iadd, 1) := by decide +kernel
theorem dR_play_111 : decode prog_9_method_26_code 111 = .ok (.istore 6, 2) := by decide +kernel
theorem dR_play_113 : decode prog_9_method_26_code 113 = .ok (.iinc 7 1, 3) := by decide +kernel
theorem dR_play_116 : decode prog_9_method_26_code 116 = .ok (.goto (-77), 3) := by decide +kernel
theorem dR_play_119 : decode prog_9_method_26_code 119 = .ok (.iload 6, 2) := by decide +kernel
theorem dR_play_121 : decode prog_9_method_26_code 121 = .ok (.ireturn, 1) := by decide +kernel
theorem dR_isMark_0 : decode prog_9_method_5_code 0 = .ok (.iload_n 1, 1) := by decide +kernel
theorem dR_isMark_1 : decode prog_9_method_5_code 1 = .ok (.ifCond .lt 15, 3) := by decide +kernel
theorem dR_isMark_4 : decode prog_9_method_5_code 4 = .ok (.iload_n 1, 1) := by decide +kernel
theorem dR_isMark_5 : decode prog_9_method_5_code 5 = .ok (.aload_n 0, 1) := by decide +kernel
