theorem cv_W_7 : zCV "BarrierMarksLaw" 7 "BarrierMarks" ⟨"BarrierMarks", "channel", "(II)I"⟩ prog_1_method_2_code 6 (some .int) 2 := ⟨⟨(zm 145 zq1 (by decide +kernel) rfl), (zm 146 zq1 (by decide +kernel) rfl), (zm 147 zq1 (by decide +kernel) rfl), (zm 1 zq1 (by decide +kernel) rfl), (zm 148 zq1 (by decide +kernel) rfl)⟩, rfl, by decide, by decide, by decide +kernel⟩
theorem nl_W_13 : Cond.classLink "BarrierMarksLaw" 13 "java/lang/IndexOutOfBoundsException" ∈ zTs := (zm 142 zq1 (by decide +kernel) rfl)
theorem nl_W_15 : Cond.classLink "BarrierMarksLaw" 15 "java/lang/IllegalStateException" ∈ zTs := (zm 143 zq1 (by decide +kernel) rfl)
theorem nl_W_17 : Cond.classLink "BarrierMarksLaw" 17 "java/lang/IllegalArgumentException" ∈ zTs := (zm 144 zq1 (by decide +kernel) rfl)
theorem cv_W_19 : zCV "BarrierMarksLaw" 19 "BarrierMarks" ⟨"BarrierMarks", "send", "(IJ)I"⟩ prog_1_method_3_code 5 (some .int) 2 := ⟨⟨(zm 116 zq2 (by decide +kernel) rfl), (zm 117 zq2 (by decide +kernel) rfl), (zm 118 zq2 (by decide +kernel) rfl), (zm 1 zq1 (by decide +kernel) rfl), (zm 119 zq2 (by decide +kernel) rfl)⟩, rfl, by decide, by decide, by decide +kernel⟩
theorem cv_W_23 : zCV "BarrierMarksLaw" 23 "BarrierMarks" ⟨"BarrierMarks", "finish", "(I)I"⟩ prog_1_method_4_code 3 (some .int) 1 := ⟨⟨(zm 138 zq2 (by decide +kernel) rfl), (zm 139 zq2 (by decide +kernel) rfl), (zm 140 zq2 (by decide +kernel) rfl), (zm 1 zq1 (by decide +kernel) rfl), (zm 141 zq2 (by decide +kernel) rfl)⟩, rfl, by decide, by decide, by decide +kernel⟩
theorem cv_W_27 : zCV "BarrierMarksLaw" 27 "BarrierMarks" ⟨"BarrierMarks", "mark", "()I"⟩ prog_1_method_5_code 4 (some .int) 0 := ⟨⟨(zm 146 zq2 (by decide +kernel) rfl), (zm 147 zq2 (by decide +kernel) rfl), (zm 148 zq2 (by decide +kernel) rfl), (zm 1 zq1 (by decide +kernel) rfl), (zm 149 zq2 (by decide +kernel) rfl)⟩, rfl, by decide, by decide, by decide +kernel⟩
theorem cv_W_31 : zCV "BarrierMarksLaw" 31 "BarrierMarks" ⟨"BarrierMarks", "turn", "(I)I"⟩ prog_1_method_6_code 2 (some .int) 1 := ⟨⟨(zm 220 zq2 (by decide +kernel) rfl), (zm 221 zq2 (by decide +kernel) rfl), (zm 222 zq2 (by decide +kernel) rfl), (zm 1 zq1 (by decide +kernel) rfl), (zm 223 zq2 (by decide +kernel) rfl)⟩, rfl, by decide, by decide, by decide +kernel⟩
theorem cv_W_34 : zCV "BarrierMarksLaw" 34 "BarrierMarks" ⟨"BarrierMarks", "play", "(JI)I"⟩ prog_1_method_7_code 10 (some .int) 2 := ⟨⟨(zm 110 zq3 (by decide +kernel) rfl), (zm 111 zq3 (by decide +kernel) rfl), (zm 112 zq3 (by decide +kernel) rfl), (zm 1 zq1 (by decide +kernel) rfl), (zm 113 zq3 (by decide +kernel) rfl)⟩, rfl, by decide, by decide, by decide +kernel⟩
theorem cv_W_38 : zCV "BarrierMarksLaw" 38 "BarrierMarks" ⟨"BarrierMarks", "giveUp", "(I)I"⟩ prog_1_method_8_code 3 (some .int) 1 := ⟨⟨(zm 120 zq3 (by decide +kernel) rfl), (zm 121 zq3 (by decide +kernel) rfl), (zm 122 zq3 (by decide +kernel) rfl), (zm 1 zq1 (by decide +kernel) rfl), (zm 123 zq3 (by decide +kernel) rfl)⟩, rfl, by decide, by decide, by decide +kernel⟩
theorem cv_W_41 : zCV "BarrierMarksLaw" 41 "BarrierMarks" ⟨"BarrierMarks", "fails", "(II)V"⟩ prog_1_method_9_code 4 none 2 := ⟨⟨(zm 132 zq3 (by decide +kernel) rfl), (zm 133 zq3 (by decide +kernel) rfl), (zm 134 zq3 (by decide +kernel) rfl), (zm 1 zq1 (by decide +kernel) rfl), (zm 135 zq3 (by decide +kernel) rfl)⟩, rfl, by decide, by decide, by decide +kernel⟩
theorem cv_W_45 : zCV "BarrierMarksLaw" 45 "BarrierMarks" ⟨"BarrierMarks", "again", "(II)I"⟩ prog_1_method_10_code 4 (some .int) 2 := ⟨⟨(zm 140 zq3 (by decide +kernel) rfl), (zm 141 zq3 (by decide +kernel) rfl), (zm 142 zq3 (by decide +kernel) rfl), (zm 1 zq1 (by decide +kernel) rfl), (zm 143 zq3 (by decide +kernel) rfl)⟩, rfl, by decide, by decide, by decide +kernel⟩
theorem cv_W_48 : zCV "BarrierMarksLaw" 48 "BarrierMarks" ⟨"BarrierMarks", "restore", "(I)I"⟩ prog_1_method_11_code 6 (some .int) 1 := ⟨⟨(zm 148 zq3 (by decide +kernel) rfl), (zm 149 zq3 (by decide +kernel) rfl), (zm 150 zq3 (by decide +kernel) rfl), (zm 1 zq1 (by decide +kernel) rfl), (zm 151 zq3 (by decide +kernel) rfl)⟩, rfl, by decide, by decide, by decide +kernel⟩
theorem cv_W_51 : zCV "BarrierMarksLaw" 51 "BarrierMarks" ⟨"BarrierMarks", "state", "(I)J"⟩ prog_1_method_12_code 2 (some .long) 1 := ⟨⟨(zm 190 zq3 (by decide +kernel) rfl), (zm 191 zq3 (by decide +kernel) rfl), (zm 192 zq3 (by decide +kernel) rfl), (zm 1 zq1 (by decide +kernel) rfl), (zm 193 zq3 (by decide +kernel) rfl)⟩, rfl, by decide, by decide, by decide +kernel⟩
theorem cv_W_55 : zCV "BarrierMarksLaw" 55 "BarrierMarks" ⟨"BarrierMarks", "task", "(II)I"⟩ prog_1_method_13_code 4 (some .int) 2 := ⟨⟨(zm 197 zq3 (by decide +kernel) rfl), (zm 198 zq3 (by decide +kernel) rfl), (zm 199 zq3 (by decide +kernel) rfl), (zm 1 zq1 (by decide +kernel) rfl), (zm 200 zq3 (by decide +kernel) rfl)⟩, rfl, by decide, by decide, by decide +kernel⟩
theorem cv_W_58 : zCV "BarrierMarksLaw" 58 "BarrierMarks" ⟨"BarrierMarks", "kept", "(II)J"⟩ prog_1_method_14_code 3 (some .long) 2 := ⟨⟨(zm 205 zq3 (by decide +kernel) rfl), (zm 206 zq3 (by decide +kernel) rfl), (zm 207 zq3 (by decide +kernel) rfl), (zm 1 zq1 (by decide +kernel) rfl), (zm 208 zq3 (by decide +kernel) rfl)⟩, rfl, by decide, by decide, by decide +kernel⟩
theorem cv_W_62 : zCV "BarrierMarksLaw" 62 "BarrierMarks" ⟨"BarrierMarks", "keptRows", "(II)I"⟩ prog_1_method_15_code 3 (some .int) 2 := ⟨⟨(zm 217 zq3 (by decide +kernel) rfl), (zm 218 zq3 (by decide +kernel) rfl), (zm 219 zq3 (by decide +kernel) rfl), (zm 1 zq1 (by decide +kernel) rfl), (zm 220 zq3 (by decide +kernel) rfl)⟩, rfl, by decide, by decide, by decide +kernel⟩
theorem cv_W_65 : zCV "BarrierMarksLaw" 65 "BarrierMarks" ⟨"BarrierMarks", "position", "(II)I"⟩ prog_1_method_16_code 5 (some .int) 2 := ⟨⟨(zm 224 zq3 (by decide +kernel) rfl), (zm 225 zq3 (by decide +kernel) rfl), (zm 226 zq3 (by decide +kernel) rfl), (zm 1 zq1 (by decide +kernel) rfl), (zm 227 zq3 (by decide +kernel) rfl)⟩, rfl, by decide, by decide, by decide +kernel⟩
theorem cv_W_68 : zCV "BarrierMarksLaw" 68 "BarrierMarks" ⟨"BarrierMarks", "condition", "(I)I"⟩ prog_1_method_17_code 2 (some .int) 1 := ⟨⟨(zm 231 zq3 (by decide +kernel) rfl), (zm 232 zq3 (by decide +kernel) rfl), (zm 233 zq3 (by decide +kernel) rfl), (zm 1 zq1 (by decide +kernel) rfl), (zm 234 zq3 (by decide +kernel) rfl)⟩, rfl, by decide, by decide, by decide +kernel⟩
theorem cv_W_71 : zCV "BarrierMarksLaw" 71 "BarrierMarks" ⟨"BarrierMarks", "acknowledged", "(I)I"⟩ prog_1_method_18_code 2 (some .int) 1 := ⟨⟨(zm 238 zq3 (by decide +kernel) rfl), (zm 239 zq3 (by decide +kernel) rfl), (zm 0 zq4 (by decide +kernel) rfl), (zm 1 zq1 (by decide +kernel) rfl), (zm 1 zq4 (by decide +kernel) rfl)⟩, rfl, by decide, by decide, by decide +kernel⟩
theorem cv_W_74 : zCV "BarrierMarksLaw" 74 "BarrierMarks" ⟨"BarrierMarks", "exact", "(I)Z"⟩ prog_1_method_19_code 4 (some .boolean) 1 := ⟨⟨(zm 5 zq4 (by decide +kernel) rfl), (zm 6 zq4 (by decide +kernel) rfl), (zm 7 zq4 (by decide +kernel) rfl), (zm 1 zq1 (by decide +kernel) rfl), (zm 8 zq4 (by decide +kernel) rfl)⟩, rfl, by decide, by decide, by decide +kernel⟩
theorem cv_W_78 : zCV "BarrierMarksLaw" 78 "BarrierMarks" ⟨"BarrierMarks", "held", "(I)I"⟩ prog_1_method_20_code 2 (some .int) 1 := ⟨⟨(zm 20 zq4 (by decide +kernel) rfl), (zm 21 zq4 (by decide +kernel) rfl), (zm 22 zq4 (by decide +kernel) rfl), (zm 1 zq1 (by decide +kernel) rfl), (zm 23 zq4 (by decide +kernel) rfl)⟩, rfl, by decide, by decide, by decide +kernel⟩
theorem cv_W_81 : zCV "BarrierMarksLaw" 81 "BarrierMarks" ⟨"BarrierMarks", "waiting", "(I)I"⟩ prog_1_method_21_code 2 (some .int) 1 := ⟨⟨(zm 27 zq4 (by decide +kernel) rfl), (zm 28 zq4 (by decide +kernel) rfl), (zm 29 zq4 (by decide +kernel) rfl), (zm 1 zq1 (by decide +kernel) rfl), (zm 30 zq4 (by decide +kernel) rfl)⟩, rfl, by decide, by decide, by decide +kernel⟩
theorem cv_W_84 : zCV "BarrierMarksLaw" 84 "BarrierMarks" ⟨"BarrierMarks", "kind", "(II)I"⟩ prog_1_method_22_code 3 (some .int) 2 := ⟨⟨(zm 34 zq4 (by decide +kernel) rfl), (zm 35 zq4 (by decide +kernel) rfl), (zm 36 zq4 (by decide +kernel) rfl), (zm 1 zq1 (by decide +kernel) rfl), (zm 37 zq4 (by decide +kernel) rfl)⟩, rfl, by decide, by decide, by decide +kernel⟩
theorem cv_W_87 : zCV "BarrierMarksLaw" 87 "BarrierMarks" ⟨"BarrierMarks", "value", "(II)J"⟩ prog_1_method_23_code 3 (some .long) 2 := ⟨⟨(zm 46 zq4 (by decide +kernel) rfl), (zm 47 zq4 (by decide +kernel) rfl), (zm 48 zq4 (by decide +kernel) rfl), (zm 1 zq1 (by decide +kernel) rfl), (zm 49 zq4 (by decide +kernel) rfl)⟩, rfl, by decide, by decide, by decide +kernel⟩
theorem cv_W_90 : zCV "BarrierMarksLaw" 90 "BarrierMarks" ⟨"BarrierMarks", "told", "(I)I"⟩ prog_1_method_24_code 2 (some .int) 1 := ⟨⟨(zm 53 zq4 (by decide +kernel) rfl), (zm 54 zq4 (by decide +kernel) rfl), (zm 55 zq4 (by decide +kernel) rfl), (zm 1 zq1 (by decide +kernel) rfl), (zm 56 zq4 (by decide +kernel) rfl)⟩, rfl, by decide, by decide, by decide +kernel⟩
theorem dW_channel_0 : decode method_3_code 0 = .ok (.aload_n 3, 1) := by decide +kernel
theorem dW_channel_1 : decode method_3_code 1 = .ok (.iconst 0, 1) := by decide +kernel
theorem dW_channel_2 : decode method_3_code 2 = .ok (.aload_n 0, 1) := by decide +kernel
theorem dW_channel_3 : decode method_3_code 3 = .ok (.iload_n 1, 1) := by decide +kernel
theorem dW_channel_4 : decode method_3_code 4 = .ok (.iload_n 2, 1) := by decide +kernel
theorem dW_channel_5 : decode method_3_code 5 = .ok (.invokevirtual 7, 3) := by decide +kernel
theorem dW_channel_8 : decode method_3_code 8 = .ok (.i2l, 1) := by decide +kernel
theorem dW_channel_9 : decode method_3_code 9 = .ok (.lastore, 1) := by decide +kernel
theorem dW_channel_10 : decode method_3_code 10 = .ok (.goto 15, 3) := by decide +kernel
theorem dW_channel_13 : decode method_3_code 13 = .ok (.astore 4, 2) := by decide +kernel
theorem dW_channel_15 : decode method_3_code 15 = .ok (.iconst 1, 1) := by decide +kernel
theorem dW_channel_16 : decode method_3_code 16 = .ok (.ireturn, 1) := by decide +kernel
theorem dW_channel_17 : decode method_3_code 17 = .ok (.astore 4, 2) := by decide +kernel
theorem dW_channel_19 : decode method_3_code 19 = .ok (.iconst 2, 1) := by decide +kernel
theorem dW_channel_20 : decode method_3_code 20 = .ok (.ireturn, 1) := by decide +kernel
theorem dW_channel_21 : decode method_3_code 21 = .ok (.astore 4, 2) := by decide +kernel
theorem dW_channel_23 : decode method_3_code 23 = .ok (.iconst 3, 1) := by decide +kernel
theorem dW_channel_24 : decode method_3_code 24 = .ok (.ireturn, 1) := by decide +kernel
theorem dW_channel_25 : decode method_3_code 25 = .ok (.iconst 0, 1) := by decide +kernel
theorem dW_channel_26 : decode method_3_code 26 = .ok (.ireturn, 1) := by decide +kernel
theorem dW_send_0 : decode method_4_code 0 = .ok (.aload 4, 2) := by decide +kernel
theorem dW_send_2 : decode method_4_code 2 = .ok (.iconst 0, 1) := by decide +kernel
theorem dW_send_3 : decode method_4_code 3 = .ok (.aload_n 0, 1) := by decide +kernel
theorem dW_send_4 : decode method_4_code 4 = .ok (.iload_n 1, 1) := by decide +kernel
theorem dW_send_5 : decode method_4_code 5 = .ok (.lload_n 2, 1) := by decide +kernel
theorem dW_send_6 : decode method_4_code 6 = .ok (.invokevirtual 19, 3) := by decide +kernel
theorem dW_send_9 : decode method_4_code 9 = .ok (.i2l, 1) := by decide +kernel
theorem dW_send_10 : decode method_4_code 10 = .ok (.lastore, 1) := by decide +kernel
theorem dW_send_11 : decode method_4_code 11 = .ok (.goto 11, 3) := by decide +kernel
theorem dW_send_14 : decode method_4_code 14 = .ok (.astore 5, 2) := by decide +kernel
theorem dW_send_16 : decode method_4_code 16 = .ok (.iconst 1, 1) := by decide +kernel
theorem dW_send_17 : decode method_4_code 17 = .ok (.ireturn, 1) := by decide +kernel
theorem dW_send_18 : decode method_4_code 18 = .ok (.astore 5, 2) := by decide +kernel
theorem dW_send_20 : decode method_4_code 20 = .ok (.iconst 2, 1) := by decide +kernel
theorem dW_send_21 : decode method_4_code 21 = .ok (.ireturn, 1) := by decide +kernel
theorem dW_send_22 : decode method_4_code 22 = .ok (.iconst 0, 1) := by decide +kernel
theorem dW_send_23 : decode method_4_code 23 = .ok (.ireturn, 1) := by decide +kernel
theorem dW_finish_0 : decode method_5_code 0 = .ok (.aload_n 2, 1) := by decide +kernel
theorem dW_finish_1 : decode method_5_code 1 = .ok (.iconst 0, 1) := by decide +kernel
theorem dW_finish_2 : decode method_5_code 2 = .ok (.aload_n 0, 1) := by decide +kernel
theorem dW_finish_3 : decode method_5_code 3 = .ok (.iload_n 1, 1) := by decide +kernel
theorem dW_finish_4 : decode method_5_code 4 = .ok (.invokevirtual 23, 3) := by decide +kernel
theorem dW_finish_7 : decode method_5_code 7 = .ok (.i2l, 1) := by decide +kernel
theorem dW_finish_8 : decode method_5_code 8 = .ok (.lastore, 1) := by decide +kernel
theorem dW_finish_9 : decode method_5_code 9 = .ok (.goto 9, 3) := by decide +kernel
theorem dW_finish_12 : decode method_5_code 12 = .ok (.astore_n 3, 1) := by decide +kernel
theorem dW_finish_13 : decode method_5_code 13 = .ok (.iconst 1, 1) := by decide +kernel
theorem dW_finish_14 : decode method_5_code 14 = .ok (.ireturn, 1) := by decide +kernel
theorem dW_finish_15 : decode method_5_code 15 = .ok (.astore_n 3, 1) := by decide +kernel
theorem dW_finish_16 : decode method_5_code 16 = .ok (.iconst 2, 1) := by decide +kernel
theorem dW_finish_17 : decode method_5_code 17 = .ok (.ireturn, 1) := by decide +kernel
theorem dW_finish_18 : decode method_5_code 18 = .ok (.iconst 0, 1) := by decide +kernel
theorem dW_finish_19 : decode method_5_code 19 = .ok (.ireturn, 1) := by decide +kernel
theorem dW_mark_0 : decode method_6_code 0 = .ok (.aload_n 1, 1) := by decide +kernel
theorem dW_mark_1 : decode method_6_code 1 = .ok (.iconst 0, 1) := by decide +kernel
theorem dW_mark_2 : decode method_6_code 2 = .ok (.aload_n 0, 1) := by decide +kernel
theorem dW_mark_3 : decode method_6_code 3 = .ok (.invokevirtual 27, 3) := by decide +kernel
theorem dW_mark_6 : decode method_6_code 6 = .ok (.i2l, 1) := by decide +kernel
theorem dW_mark_7 : decode method_6_code 7 = .ok (.lastore, 1) := by decide +kernel
theorem dW_mark_8 : decode method_6_code 8 = .ok (.goto 6, 3) := by decide +kernel
theorem dW_mark_11 : decode method_6_code 11 = .ok (.astore_n 2, 1) := by decide +kernel
theorem dW_mark_12 : decode method_6_code 12 = .ok (.iconst 1, 1) := by decide +kernel
theorem dW_mark_13 : decode method_6_code 13 = .ok (.ireturn, 1) := by decide +kernel
theorem dW_mark_14 : decode method_6_code 14 = .ok (.iconst 0, 1) := by decide +kernel
theorem dW_mark_15 : decode method_6_code 15 = .ok (.ireturn, 1) := by decide +kernel
theorem dW_turn_0 : decode method_7_code 0 = .ok (.aload_n 2, 1) := by decide +kernel
theorem dW_turn_1 : decode method_7_code 1 = .ok (.iconst 0, 1) := by decide +kernel
theorem dW_turn_2 : decode method_7_code 2 = .ok (.aload_n 0, 1) := by decide +kernel
theorem dW_turn_3 : decode method_7_code 3 = .ok (.iload_n 1, 1) := by decide +kernel
theorem dW_turn_4 : decode method_7_code 4 = .ok (.invokevirtual 31, 3) := by decide +kernel
theorem dW_turn_7 : decode method_7_code 7 = .ok (.i2l, 1) := by decide +kernel
theorem dW_turn_8 : decode method_7_code 8 = .ok (.lastore, 1) := by decide +kernel
theorem dW_turn_9 : decode method_7_code 9 = .ok (.goto 6, 3) := by decide +kernel
theorem dW_turn_12 : decode method_7_code 12 = .ok (.astore_n 3, 1) := by decide +kernel
theorem dW_turn_13 : decode method_7_code 13 = .ok (.iconst 1, 1) := by decide +kernel
theorem dW_turn_14 : decode method_7_code 14 = .ok (.ireturn, 1) := by decide +kernel
theorem dW_turn_15 : decode method_7_code 15 = .ok (.iconst 0, 1) := by decide +kernel
theorem dW_turn_16 : decode method_7_code 16 = .ok (.ireturn, 1) := by decide +kernel
theorem dW_play_0 : decode method_8_code 0 = .ok (.aload 4, 2) := by decide +kernel
theorem dW_play_2 : decode method_8_code 2 = .ok (.iconst 0, 1) := by decide +kernel
theorem dW_play_3 : decode method_8_code 3 = .ok (.aload_n 0, 1) := by decide +kernel
theorem dW_play_4 : decode method_8_code 4 = .ok (.lload_n 1, 1) := by decide +kernel
theorem dW_play_5 : decode method_8_code 5 = .ok (.iload_n 3, 1) := by decide +kernel
theorem dW_play_6 : decode method_8_code 6 = .ok (.invokevirtual 34, 3) := by decide +kernel
theorem dW_play_9 : decode method_8_code 9 = .ok (.i2l, 1) := by decide +kernel
theorem dW_play_10 : decode method_8_code 10 = .ok (.lastore, 1) := by decide +kernel
theorem dW_play_11 : decode method_8_code 11 = .ok (.goto 7, 3) := by decide +kernel
theorem dW_play_14 : decode method_8_code 14 = .ok (.astore 5, 2) := by decide +kernel
theorem dW_play_16 : decode method_8_code 16 = .ok (.iconst 1, 1) := by decide +kernel
theorem dW_play_17 : decode method_8_code 17 = .ok (.ireturn, 1) := by decide +kernel
theorem dW_play_18 : decode method_8_code 18 = .ok (.iconst 0, 1) := by decide +kernel
theorem dW_play_19 : decode method_8_code 19 = .ok (.ireturn, 1) := by decide +kernel
theorem dW_giveUp_0 : decode method_9_code 0 = .ok (.aload_n 2, 1) := by decide +kernel
theorem dW_giveUp_1 : decode method_9_code 1 = .ok (.iconst 0, 1) := by decide +kernel
theorem dW_giveUp_2 : decode method_9_code 2 = .ok (.aload_n 0, 1) := by decide +kernel
theorem dW_giveUp_3 : decode method_9_code 3 = .ok (.iload_n 1, 1) := by decide +kernel
theorem dW_giveUp_4 : decode method_9_code 4 = .ok (.invokevirtual 38, 3) := by decide +kernel
theorem dW_giveUp_7 : decode method_9_code 7 = .ok (.i2l, 1) := by decide +kernel
theorem dW_giveUp_8 : decode method_9_code 8 = .ok (.lastore, 1) := by decide +kernel
theorem dW_giveUp_9 : decode method_9_code 9 = .ok (.goto 9, 3) := by decide +kernel
theorem dW_giveUp_12 : decode method_9_code 12 = .ok (.astore_n 3, 1) := by decide +kernel
theorem dW_giveUp_13 : decode method_9_code 13 = .ok (.iconst 1, 1) := by decide +kernel
theorem dW_giveUp_14 : decode method_9_code 14 = .ok (.ireturn, 1) := by decide +kernel
theorem dW_giveUp_15 : decode method_9_code 15 = .ok (.astore_n 3, 1) := by decide +kernel
theorem dW_giveUp_16 : decode method_9_code 16 = .ok (.iconst 2, 1) := by decide +kernel
theorem dW_giveUp_17 : decode method_9_code 17 = .ok (.ireturn, 1) := by decide +kernel
theorem dW_giveUp_18 : decode method_9_code 18 = .ok (.iconst 0, 1) := by decide +kernel
theorem dW_giveUp_19 : decode method_9_code 19 = .ok (.ireturn, 1) := by decide +kernel
theorem dW_fails_0 : decode method_10_code 0 = .ok (.aload_n 0, 1) := by decide +kernel
theorem dW_fails_1 : decode method_10_code 1 = .ok (.iload_n 1, 1) := by decide +kernel
theorem dW_fails_2 : decode method_10_code 2 = .ok (.iload_n 2, 1) := by decide +kernel
theorem dW_fails_3 : decode method_10_code 3 = .ok (.invokevirtual 41, 3) := by decide +kernel
theorem dW_fails_6 : decode method_10_code 6 = .ok (.goto 9, 3) := by decide +kernel
theorem dW_fails_9 : decode method_10_code 9 = .ok (.astore_n 3, 1) := by decide +kernel
theorem dW_fails_10 : decode method_10_code 10 = .ok (.iconst 1, 1) := by decide +kernel
theorem dW_fails_11 : decode method_10_code 11 = .ok (.ireturn, 1) := by decide +kernel
theorem dW_fails_12 : decode method_10_code 12 = .ok (.astore_n 3, 1) := by decide +kernel
theorem dW_fails_13 : decode method_10_code 13 = .ok (.iconst 2, 1) := by decide +kernel
theorem dW_fails_14 : decode method_10_code 14 = .ok (.ireturn, 1) := by decide +kernel
theorem dW_fails_15 : decode method_10_code 15 = .ok (.iconst 0, 1) := by decide +kernel
theorem dW_fails_16 : decode method_10_code 16 = .ok (.ireturn, 1) := by decide +kernel
theorem dW_again_0 : decode method_11_code 0 = .ok (.aload_n 3, 1) := by decide +kernel
theorem dW_again_1 : decode method_11_code 1 = .ok (.iconst 0, 1) := by decide +kernel
theorem dW_again_2 : decode method_11_code 2 = .ok (.aload_n 0, 1) := by decide +kernel
theorem dW_again_3 : decode method_11_code 3 = .ok (.iload_n 1, 1) := by decide +kernel
theorem dW_again_4 : decode method_11_code 4 = .ok (.iload_n 2, 1) := by decide +kernel
theorem dW_again_5 : decode method_11_code 5 = .ok (.invokevirtual 45, 3) := by decide +kernel
theorem dW_again_8 : decode method_11_code 8 = .ok (.i2l, 1) := by decide +kernel
theorem dW_again_9 : decode method_11_code 9 = .ok (.lastore, 1) := by decide +kernel
theorem dW_again_10 : decode method_11_code 10 = .ok (.goto 11, 3) := by decide +kernel
theorem dW_again_13 : decode method_11_code 13 = .ok (.astore 4, 2) := by decide +kernel
theorem dW_again_15 : decode method_11_code 15 = .ok (.iconst 1, 1) := by decide +kernel
theorem dW_again_16 : decode method_11_code 16 = .ok (.ireturn, 1) := by decide +kernel
theorem dW_again_17 : decode method_11_code 17 = .ok (.astore 4, 2) := by decide +kernel
theorem dW_again_19 : decode method_11_code 19 = .ok (.iconst 2, 1) := by decide +kernel
theorem dW_again_20 : decode method_11_code 20 = .ok (.ireturn, 1) := by decide +kernel
theorem dW_again_21 : decode method_11_code 21 = .ok (.iconst 0, 1) := by decide +kernel
theorem dW_again_22 : decode method_11_code 22 = .ok (.ireturn, 1) := by decide +kernel
theorem dW_restore_0 : decode method_12_code 0 = .ok (.aload_n 2, 1) := by decide +kernel
theorem dW_restore_1 : decode method_12_code 1 = .ok (.iconst 0, 1) := by decide +kernel
theorem dW_restore_2 : decode method_12_code 2 = .ok (.aload_n 0, 1) := by decide +kernel
theorem dW_restore_3 : decode method_12_code 3 = .ok (.iload_n 1, 1) := by decide +kernel
theorem dW_restore_4 : decode method_12_code 4 = .ok (.invokevirtual 48, 3) := by decide +kernel
theorem dW_restore_7 : decode method_12_code 7 = .ok (.i2l, 1) := by decide +kernel
theorem dW_restore_8 : decode method_12_code 8 = .ok (.lastore, 1) := by decide +kernel
theorem dW_restore_9 : decode method_12_code 9 = .ok (.goto 9, 3) := by decide +kernel
theorem dW_restore_12 : decode method_12_code 12 = .ok (.astore_n 3, 1) := by decide +kernel
theorem dW_restore_13 : decode method_12_code 13 = .ok (.iconst 1, 1) := by decide +kernel
theorem dW_restore_14 : decode method_12_code 14 = .ok (.ireturn, 1) := by decide +kernel
theorem dW_restore_15 : decode method_12_code 15 = .ok (.astore_n 3, 1) := by decide +kernel
theorem dW_restore_16 : decode method_12_code 16 = .ok (.iconst 2, 1) := by decide +kernel
theorem dW_restore_17 : decode method_12_code 17 = .ok (.ireturn, 1) := by decide +kernel
theorem dW_restore_18 : decode method_12_code 18 = .ok (.iconst 0, 1) := by decide +kernel
theorem dW_restore_19 : decode method_12_code 19 = .ok (.ireturn, 1) := by decide +kernel
theorem dW_state_0 : decode method_13_code 0 = .ok (.aload_n 2, 1) := by decide +kernel
theorem dW_state_1 : decode method_13_code 1 = .ok (.iconst 0, 1) := by decide +kernel
theorem dW_state_2 : decode method_13_code 2 = .ok (.aload_n 0, 1) := by decide +kernel
theorem dW_state_3 : decode method_13_code 3 = .ok (.iload_n 1, 1) := by decide +kernel
theorem dW_state_4 : decode method_13_code 4 = .ok (.invokevirtual 51, 3) := by decide +kernel
theorem dW_state_7 : decode method_13_code 7 = .ok (.lastore, 1) := by decide +kernel
theorem dW_state_8 : decode method_13_code 8 = .ok (.goto 6, 3) := by decide +kernel
theorem dW_state_11 : decode method_13_code 11 = .ok (.astore_n 3, 1) := by decide +kernel
theorem dW_state_12 : decode method_13_code 12 = .ok (.iconst 1, 1) := by decide +kernel
theorem dW_state_13 : decode method_13_code 13 = .ok (.ireturn, 1) := by decide +kernel
theorem dW_state_14 : decode method_13_code 14 = .ok (.iconst 0, 1) := by decide +kernel
theorem dW_state_15 : decode method_13_code 15 = .ok (.ireturn, 1) := by decide +kernel
theorem dW_task_0 : decode method_14_code 0 = .ok (.aload_n 3, 1) := by decide +kernel
theorem dW_task_1 : decode method_14_code 1 = .ok (.iconst 0, 1) := by decide +kernel
theorem dW_task_2 : decode method_14_code 2 = .ok (.aload_n 0, 1) := by decide +kernel
theorem dW_task_3 : decode method_14_code 3 = .ok (.iload_n 1, 1) := by decide +kernel
theorem dW_task_4 : decode method_14_code 4 = .ok (.iload_n 2, 1) := by decide +kernel
theorem dW_task_5 : decode method_14_code 5 = .ok (.invokevirtual 55, 3) := by decide +kernel
theorem dW_task_8 : decode method_14_code 8 = .ok (.i2l, 1) := by decide +kernel
theorem dW_task_9 : decode method_14_code 9 = .ok (.lastore, 1) := by decide +kernel
theorem dW_task_10 : decode method_14_code 10 = .ok (.goto 11, 3) := by decide +kernel
theorem dW_task_13 : decode method_14_code 13 = .ok (.astore 4, 2) := by decide +kernel
theorem dW_task_15 : decode method_14_code 15 = .ok (.iconst 1, 1) := by decide +kernel
theorem dW_task_16 : decode method_14_code 16 = .ok (.ireturn, 1) := by decide +kernel
theorem dW_task_17 : decode method_14_code 17 = .ok (.astore 4, 2) := by decide +kernel
theorem dW_task_19 : decode method_14_code 19 = .ok (.iconst 2, 1) := by decide +kernel
theorem dW_task_20 : decode method_14_code 20 = .ok (.ireturn, 1) := by decide +kernel
theorem dW_task_21 : decode method_14_code 21 = .ok (.iconst 0, 1) := by decide +kernel
theorem dW_task_22 : decode method_14_code 22 = .ok (.ireturn, 1) := by decide +kernel
theorem dW_kept_0 : decode method_15_code 0 = .ok (.aload_n 3, 1) := by decide +kernel
theorem dW_kept_1 : decode method_15_code 1 = .ok (.iconst 0, 1) := by decide +kernel
theorem dW_kept_2 : decode method_15_code 2 = .ok (.aload_n 0, 1) := by decide +kernel
theorem dW_kept_3 : decode method_15_code 3 = .ok (.iload_n 1, 1) := by decide +kernel
theorem dW_kept_4 : decode method_15_code 4 = .ok (.iload_n 2, 1) := by decide +kernel
theorem dW_kept_5 : decode method_15_code 5 = .ok (.invokevirtual 58, 3) := by decide +kernel
theorem dW_kept_8 : decode method_15_code 8 = .ok (.lastore, 1) := by decide +kernel
theorem dW_kept_9 : decode method_15_code 9 = .ok (.goto 11, 3) := by decide +kernel
theorem dW_kept_12 : decode method_15_code 12 = .ok (.astore 4, 2) := by decide +kernel
theorem dW_kept_14 : decode method_15_code 14 = .ok (.iconst 1, 1) := by decide +kernel
theorem dW_kept_15 : decode method_15_code 15 = .ok (.ireturn, 1) := by decide +kernel
theorem dW_kept_16 : decode method_15_code 16 = .ok (.astore 4, 2) := by decide +kernel
theorem dW_kept_18 : decode method_15_code 18 = .ok (.iconst 2, 1) := by decide +kernel
theorem dW_kept_19 : decode method_15_code 19 = .ok (.ireturn, 1) := by decide +kernel
theorem dW_kept_20 : decode method_15_code 20 = .ok (.iconst 0, 1) := by decide +kernel
theorem dW_kept_21 : decode method_15_code 21 = .ok (.ireturn, 1) := by decide +kernel
theorem dW_keptRows_0 : decode method_16_code 0 = .ok (.aload_n 3, 1) := by decide +kernel
theorem dW_keptRows_1 : decode method_16_code 1 = .ok (.iconst 0, 1) := by decide +kernel
theorem dW_keptRows_2 : decode method_16_code 2 = .ok (.aload_n 0, 1) := by decide +kernel
theorem dW_keptRows_3 : decode method_16_code 3 = .ok (.iload_n 1, 1) := by decide +kernel
theorem dW_keptRows_4 : decode method_16_code 4 = .ok (.iload_n 2, 1) := by decide +kernel
theorem dW_keptRows_5 : decode method_16_code 5 = .ok (.invokevirtual 62, 3) := by decide +kernel
theorem dW_keptRows_8 : decode method_16_code 8 = .ok (.i2l, 1) := by decide +kernel
theorem dW_keptRows_9 : decode method_16_code 9 = .ok (.lastore, 1) := by decide +kernel
theorem dW_keptRows_10 : decode method_16_code 10 = .ok (.goto 11, 3) := by decide +kernel
theorem dW_keptRows_13 : decode method_16_code 13 = .ok (.astore 4, 2) := by decide +kernel
theorem dW_keptRows_15 : decode method_16_code 15 = .ok (.iconst 1, 1) := by decide +kernel
theorem dW_keptRows_16 : decode method_16_code 16 = .ok (.ireturn, 1) := by decide +kernel
theorem dW_keptRows_17 : decode method_16_code 17 = .ok (.astore 4, 2) := by decide +kernel
theorem dW_keptRows_19 : decode method_16_code 19 = .ok (.iconst 2, 1) := by decide +kernel
theorem dW_keptRows_20 : decode method_16_code 20 = .ok (.ireturn, 1) := by decide +kernel
theorem dW_keptRows_21 : decode method_16_code 21 = .ok (.iconst 0, 1) := by decide +kernel
theorem dW_keptRows_22 : decode method_16_code 22 = .ok (.ireturn, 1) := by decide +kernel
theorem dW_position_0 : decode method_17_code 0 = .ok (.aload_n 3, 1) := by decide +kernel
theorem dW_position_1 : decode method_17_code 1 = .ok (.iconst 0, 1) := by decide +kernel
theorem dW_position_2 : decode method_17_code 2 = .ok (.aload_n 0, 1) := by decide +kernel
theorem dW_position_3 : decode method_17_code 3 = .ok (.iload_n 1, 1) := by decide +kernel
theorem dW_position_4 : decode method_17_code 4 = .ok (.iload_n 2, 1) := by decide +kernel
theorem dW_position_5 : decode method_17_code 5 = .ok (.invokevirtual 65, 3) := by decide +kernel
theorem dW_position_8 : decode method_17_code 8 = .ok (.i2l, 1) := by decide +kernel
theorem dW_position_9 : decode method_17_code 9 = .ok (.lastore, 1) := by decide +kernel
theorem dW_position_10 : decode method_17_code 10 = .ok (.goto 7, 3) := by decide +kernel
theorem dW_position_13 : decode method_17_code 13 = .ok (.astore 4, 2) := by decide +kernel
theorem dW_position_15 : decode method_17_code 15 = .ok (.iconst 1, 1) := by decide +kernel
theorem dW_position_16 : decode method_17_code 16 = .ok (.ireturn, 1) := by decide +kernel
theorem dW_position_17 : decode method_17_code 17 = .ok (.iconst 0, 1) := by decide +kernel
theorem dW_position_18 : decode method_17_code 18 = .ok (.ireturn, 1) := by decide +kernel
theorem dW_condition_0 : decode method_18_code 0 = .ok (.aload_n 2, 1) := by decide +kernel
theorem dW_condition_1 : decode method_18_code 1 = .ok (.iconst 0, 1) := by decide +kernel
theorem dW_condition_2 : decode method_18_code 2 = .ok (.aload_n 0, 1) := by decide +kernel
theorem dW_condition_3 : decode method_18_code 3 = .ok (.iload_n 1, 1) := by decide +kernel
theorem dW_condition_4 : decode method_18_code 4 = .ok (.invokevirtual 68, 3) := by decide +kernel
theorem dW_condition_7 : decode method_18_code 7 = .ok (.i2l, 1) := by decide +kernel
theorem dW_condition_8 : decode method_18_code 8 = .ok (.lastore, 1) := by decide +kernel
theorem dW_condition_9 : decode method_18_code 9 = .ok (.goto 6, 3) := by decide +kernel
theorem dW_condition_12 : decode method_18_code 12 = .ok (.astore_n 3, 1) := by decide +kernel
theorem dW_condition_13 : decode method_18_code 13 = .ok (.iconst 1, 1) := by decide +kernel
theorem dW_condition_14 : decode method_18_code 14 = .ok (.ireturn, 1) := by decide +kernel
theorem dW_condition_15 : decode method_18_code 15 = .ok (.iconst 0, 1) := by decide +kernel
theorem dW_condition_16 : decode method_18_code 16 = .ok (.ireturn, 1) := by decide +kernel
theorem dW_acknowledged_0 : decode method_19_code 0 = .ok (.aload_n 2, 1) := by decide +kernel
theorem dW_acknowledged_1 : decode method_19_code 1 = .ok (.iconst 0, 1) := by decide +kernel
theorem dW_acknowledged_2 : decode method_19_code 2 = .ok (.aload_n 0, 1) := by decide +kernel
theorem dW_acknowledged_3 : decode method_19_code 3 = .ok (.iload_n 1, 1) := by decide +kernel
theorem dW_acknowledged_4 : decode method_19_code 4 = .ok (.invokevirtual 71, 3) := by decide +kernel
theorem dW_acknowledged_7 : decode method_19_code 7 = .ok (.i2l, 1) := by decide +kernel
theorem dW_acknowledged_8 : decode method_19_code 8 = .ok (.lastore, 1) := by decide +kernel
theorem dW_acknowledged_9 : decode method_19_code 9 = .ok (.goto 6, 3) := by decide +kernel
theorem dW_acknowledged_12 : decode method_19_code 12 = .ok (.astore_n 3, 1) := by decide +kernel
theorem dW_acknowledged_13 : decode method_19_code 13 = .ok (.iconst 1, 1) := by decide +kernel
theorem dW_acknowledged_14 : decode method_19_code 14 = .ok (.ireturn, 1) := by decide +kernel
theorem dW_acknowledged_15 : decode method_19_code 15 = .ok (.iconst 0, 1) := by decide +kernel
theorem dW_acknowledged_16 : decode method_19_code 16 = .ok (.ireturn, 1) := by decide +kernel
theorem dW_exact_0 : decode method_20_code 0 = .ok (.aload_n 2, 1) := by decide +kernel
theorem dW_exact_1 : decode method_20_code 1 = .ok (.iconst 0, 1) := by decide +kernel
theorem dW_exact_2 : decode method_20_code 2 = .ok (.aload_n 0, 1) := by decide +kernel
theorem dW_exact_3 : decode method_20_code 3 = .ok (.iload_n 1, 1) := by decide +kernel
theorem dW_exact_4 : decode method_20_code 4 = .ok (.invokevirtual 74, 3) := by decide +kernel
theorem dW_exact_7 : decode method_20_code 7 = .ok (.ifCond .eq 7, 3) := by decide +kernel
theorem dW_exact_10 : decode method_20_code 10 = .ok (.lconst 1, 1) := by decide +kernel
theorem dW_exact_11 : decode method_20_code 11 = .ok (.goto 4, 3) := by decide +kernel
theorem dW_exact_14 : decode method_20_code 14 = .ok (.lconst 0, 1) := by decide +kernel
theorem dW_exact_15 : decode method_20_code 15 = .ok (.lastore, 1) := by decide +kernel
theorem dW_exact_16 : decode method_20_code 16 = .ok (.goto 9, 3) := by decide +kernel
theorem dW_exact_19 : decode method_20_code 19 = .ok (.astore_n 3, 1) := by decide +kernel
theorem dW_exact_20 : decode method_20_code 20 = .ok (.iconst 1, 1) := by decide +kernel
theorem dW_exact_21 : decode method_20_code 21 = .ok (.ireturn, 1) := by decide +kernel
theorem dW_exact_22 : decode method_20_code 22 = .ok (.astore_n 3, 1) := by decide +kernel
theorem dW_exact_23 : decode method_20_code 23 = .ok (.iconst 2, 1) := by decide +kernel
theorem dW_exact_24 : decode method_20_code 24 = .ok (.ireturn, 1) := by decide +kernel
theorem dW_exact_25 : decode method_20_code 25 = .ok (.iconst 0, 1) := by decide +kernel
theorem dW_exact_26 : decode method_20_code 26 = .ok (.ireturn, 1) := by decide +kernel
theorem dW_held_0 : decode method_21_code 0 = .ok (.aload_n 2, 1) := by decide +kernel
theorem dW_held_1 : decode method_21_code 1 = .ok (.iconst 0, 1) := by decide +kernel
theorem dW_held_2 : decode method_21_code 2 = .ok (.aload_n 0, 1) := by decide +kernel
theorem dW_held_3 : decode method_21_code 3 = .ok (.iload_n 1, 1) := by decide +kernel
theorem dW_held_4 : decode method_21_code 4 = .ok (.invokevirtual 78, 3) := by decide +kernel
theorem dW_held_7 : decode method_21_code 7 = .ok (.i2l, 1) := by decide +kernel
theorem dW_held_8 : decode method_21_code 8 = .ok (.lastore, 1) := by decide +kernel
theorem dW_held_9 : decode method_21_code 9 = .ok (.goto 6, 3) := by decide +kernel
theorem dW_held_12 : decode method_21_code 12 = .ok (.astore_n 3, 1) := by decide +kernel
theorem dW_held_13 : decode method_21_code 13 = .ok (.iconst 1, 1) := by decide +kernel
theorem dW_held_14 : decode method_21_code 14 = .ok (.ireturn, 1) := by decide +kernel
theorem dW_held_15 : decode method_21_code 15 = .ok (.iconst 0, 1) := by decide +kernel
theorem dW_held_16 : decode method_21_code 16 = .ok (.ireturn, 1) := by decide +kernel
theorem dW_waiting_0 : decode method_22_code 0 = .ok (.aload_n 2, 1) := by decide +kernel
theorem dW_waiting_1 : decode method_22_code 1 = .ok (.iconst 0, 1) := by decide +kernel
theorem dW_waiting_2 : decode method_22_code 2 = .ok (.aload_n 0, 1) := by decide +kernel
theorem dW_waiting_3 : decode method_22_code 3 = .ok (.iload_n 1, 1) := by decide +kernel
theorem dW_waiting_4 : decode method_22_code 4 = .ok (.invokevirtual 81, 3) := by decide +kernel
theorem dW_waiting_7 : decode method_22_code 7 = .ok (.i2l, 1) := by decide +kernel
theorem dW_waiting_8 : decode method_22_code 8 = .ok (.lastore, 1) := by decide +kernel
theorem dW_waiting_9 : decode method_22_code 9 = .ok (.goto 6, 3) := by decide +kernel
theorem dW_waiting_12 : decode method_22_code 12 = .ok (.astore_n 3, 1) := by decide +kernel
theorem dW_waiting_13 : decode method_22_code 13 = .ok (.iconst 1, 1) := by decide +kernel
theorem dW_waiting_14 : decode method_22_code 14 = .ok (.ireturn, 1) := by decide +kernel
theorem dW_waiting_15 : decode method_22_code 15 = .ok (.iconst 0, 1) := by decide +kernel
theorem dW_waiting_16 : decode method_22_code 16 = .ok (.ireturn, 1) := by decide +kernel
theorem dW_kind_0 : decode method_23_code 0 = .ok (.aload_n 3, 1) := by decide +kernel
theorem dW_kind_1 : decode method_23_code 1 = .ok (.iconst 0, 1) := by decide +kernel
theorem dW_kind_2 : decode method_23_code 2 = .ok (.aload_n 0, 1) := by decide +kernel
theorem dW_kind_3 : decode method_23_code 3 = .ok (.iload_n 1, 1) := by decide +kernel
theorem dW_kind_4 : decode method_23_code 4 = .ok (.iload_n 2, 1) := by decide +kernel
theorem dW_kind_5 : decode method_23_code 5 = .ok (.invokevirtual 84, 3) := by decide +kernel
theorem dW_kind_8 : decode method_23_code 8 = .ok (.i2l, 1) := by decide +kernel
theorem dW_kind_9 : decode method_23_code 9 = .ok (.lastore, 1) := by decide +kernel
theorem dW_kind_10 : decode method_23_code 10 = .ok (.goto 7, 3) := by decide +kernel
theorem dW_kind_13 : decode method_23_code 13 = .ok (.astore 4, 2) := by decide +kernel
theorem dW_kind_15 : decode method_23_code 15 = .ok (.iconst 1, 1) := by decide +kernel
theorem dW_kind_16 : decode method_23_code 16 = .ok (.ireturn, 1) := by decide +kernel
theorem dW_kind_17 : decode method_23_code 17 = .ok (.iconst 0, 1) := by decide +kernel
theorem dW_kind_18 : decode method_23_code 18 = .ok (.ireturn, 1) := by decide +kernel
theorem dW_value_0 : decode method_24_code 0 = .ok (.aload_n 3, 1) := by decide +kernel
theorem dW_value_1 : decode method_24_code 1 = .ok (.iconst 0, 1) := by decide +kernel
theorem dW_value_2 : decode method_24_code 2 = .ok (.aload_n 0, 1) := by decide +kernel
theorem dW_value_3 : decode method_24_code 3 = .ok (.iload_n 1, 1) := by decide +kernel
theorem dW_value_4 : decode method_24_code 4 = .ok (.iload_n 2, 1) := by decide +kernel
theorem dW_value_5 : decode method_24_code 5 = .ok (.invokevirtual 87, 3) := by decide +kernel
theorem dW_value_8 : decode method_24_code 8 = .ok (.lastore, 1) := by decide +kernel
theorem dW_value_9 : decode method_24_code 9 = .ok (.goto 7, 3) := by decide +kernel
theorem dW_value_12 : decode method_24_code 12 = .ok (.astore 4, 2) := by decide +kernel
theorem dW_value_14 : decode method_24_code 14 = .ok (.iconst 1, 1) := by decide +kernel
theorem dW_value_15 : decode method_24_code 15 = .ok (.ireturn, 1) := by decide +kernel
theorem dW_value_16 : decode method_24_code 16 = .ok (.iconst 0, 1) := by decide +kernel
theorem dW_value_17 : decode method_24_code 17 = .ok (.ireturn, 1) := by decide +kernel
theorem dW_told_0 : decode method_25_code 0 = .ok (.aload_n 2, 1) := by decide +kernel
theorem dW_told_1 : decode method_25_code 1 = .ok (.iconst 0, 1) := by decide +kernel
theorem dW_told_2 : decode method_25_code 2 = .ok (.aload_n 0, 1) := by decide +kernel
theorem dW_told_3 : decode method_25_code 3 = .ok (.iload_n 1, 1) := by decide +kernel
theorem dW_told_4 : decode method_25_code 4 = .ok (.invokevirtual 90, 3) := by decide +kernel
theorem dW_told_7 : decode method_25_code 7 = .ok (.i2l, 1) := by decide +kernel
theorem dW_told_8 : decode method_25_code 8 = .ok (.lastore, 1) := by decide +kernel
theorem dW_told_9 : decode method_25_code 9 = .ok (.goto 6, 3) := by decide +kernel
theorem dW_told_12 : decode method_25_code 12 = .ok (.astore_n 3, 1) := by decide +kernel
theorem dW_told_13 : decode method_25_code 13 = .ok (.iconst 1, 1) := by decide +kernel
theorem dW_told_14 : decode method_25_code 14 = .ok (.ireturn, 1) := by decide +kernel
theorem dW_told_15 : decode method_25_code 15 = .ok (.iconst 0, 1) := by decide +kernel
theorem dW_told_16 : decode method_25_code 16 = .ok (.ireturn, 1) := by decide +kernel
