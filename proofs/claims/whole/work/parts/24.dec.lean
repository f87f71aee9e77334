theorem dR_init_90 : decode prog_9_method_1_code 90 = .ok (.newarray .int, 2) := by decide +kernel
theorem dR_init_92 : decode prog_9_method_1_code 92 = .ok (.putfield 42, 3) := by decide +kernel
theorem dR_init_95 : decode prog_9_method_1_code 95 = .ok (.aload_n 0, 1) := by decide +kernel
theorem dR_init_96 : decode prog_9_method_1_code 96 = .ok (.bipush 16, 2) := by decide +kernel
theorem dR_init_98 : decode prog_9_method_1_code 98 = .ok (.newarray .boolean, 2) := by decide +kernel
theorem dR_init_100 : decode prog_9_method_1_code 100 = .ok (.putfield 45, 3) := by decide +kernel
theorem dR_init_103 : decode prog_9_method_1_code 103 = .ok (.aload_n 0, 1) := by decide +kernel
theorem dR_init_104 : decode prog_9_method_1_code 104 = .ok (.bipush 16, 2) := by decide +kernel
theorem dR_init_106 : decode prog_9_method_1_code 106 = .ok (.newarray .int, 2) := by decide +kernel
theorem dR_init_108 : decode prog_9_method_1_code 108 = .ok (.putfield 48, 3) := by decide +kernel
theorem dR_init_111 : decode prog_9_method_1_code 111 = .ok (.aload_n 0, 1) := by decide +kernel
theorem dR_init_112 : decode prog_9_method_1_code 112 = .ok (.bipush 16, 2) := by decide +kernel
theorem dR_init_114 : decode prog_9_method_1_code 114 = .ok (.newarray .boolean, 2) := by decide +kernel
theorem dR_init_116 : decode prog_9_method_1_code 116 = .ok (.putfield 51, 3) := by decide +kernel
theorem dR_init_119 : decode prog_9_method_1_code 119 = .ok (.aload_n 0, 1) := by decide +kernel
theorem dR_init_120 : decode prog_9_method_1_code 120 = .ok (.bipush 16, 2) := by decide +kernel
theorem dR_init_122 : decode prog_9_method_1_code 122 = .ok (.newarray .int, 2) := by decide +kernel
theorem dR_init_124 : decode prog_9_method_1_code 124 = .ok (.putfield 54, 3) := by decide +kernel
theorem dR_init_127 : decode prog_9_method_1_code 127 = .ok (.aload_n 0, 1) := by decide +kernel
theorem dR_init_128 : decode prog_9_method_1_code 128 = .ok (.bipush 40, 2) := by decide +kernel
theorem dR_init_130 : decode prog_9_method_1_code 130 = .ok (.newarray .int, 2) := by decide +kernel
theorem dR_init_132 : decode prog_9_method_1_code 132 = .ok (.putfield 57, 3) := by decide +kernel
theorem dR_init_135 : decode prog_9_method_1_code 135 = .ok (.aload_n 0, 1) := by decide +kernel
theorem dR_init_136 : decode prog_9_method_1_code 136 = .ok (.sipush 640, 3) := by decide +kernel
theorem dR_init_139 : decode prog_9_method_1_code 139 = .ok (.newarray .int, 2) := by decide +kernel
theorem dR_init_141 : decode prog_9_method_1_code 141 = .ok (.putfield 60, 3) := by decide +kernel
theorem dR_init_144 : decode prog_9_method_1_code 144 = .ok (.aload_n 0, 1) := by decide +kernel
theorem dR_init_145 : decode prog_9_method_1_code 145 = .ok (.sipush 640, 3) := by decide +kernel
theorem dR_init_148 : decode prog_9_method_1_code 148 = .ok (.newarray .boolean, 2) := by decide +kernel
theorem dR_init_150 : decode prog_9_method_1_code 150 = .ok (.putfield 63, 3) := by decide +kernel
theorem dR_init_153 : decode prog_9_method_1_code 153 = .ok (.aload_n 0, 1) := by decide +kernel
theorem dR_init_154 : decode prog_9_method_1_code 154 = .ok (.sipush 320, 3) := by decide +kernel
theorem dR_init_157 : decode prog_9_method_1_code 157 = .ok (.newarray .boolean, 2) := by decide +kernel
theorem dR_init_159 : decode prog_9_method_1_code 159 = .ok (.putfield 66, 3) := by decide +kernel
theorem dR_init_162 : decode prog_9_method_1_code 162 = .ok (.aload_n 0, 1) := by decide +kernel
theorem dR_init_163 : decode prog_9_method_1_code 163 = .ok (.sipush 320, 3) := by decide +kernel
theorem dR_init_166 : decode prog_9_method_1_code 166 = .ok (.newarray .boolean, 2) := by decide +kernel
theorem dR_init_168 : decode prog_9_method_1_code 168 = .ok (.putfield 69, 3) := by decide +kernel
theorem dR_init_171 : decode prog_9_method_1_code 171 = .ok (.aload_n 0, 1) := by decide +kernel
theorem dR_init_172 : decode prog_9_method_1_code 172 = .ok (.sipush 320, 3) := by decide +kernel
theorem dR_init_175 : decode prog_9_method_1_code 175 = .ok (.newarray .long, 2) := by decide +kernel
theorem dR_init_177 : decode prog_9_method_1_code 177 = .ok (.putfield 72, 3) := by decide +kernel
theorem dR_init_180 : decode prog_9_method_1_code 180 = .ok (.aload_n 0, 1) := by decide +kernel
theorem dR_init_181 : decode prog_9_method_1_code 181 = .ok (.sipush 320, 3) := by decide +kernel
theorem dR_init_184 : decode prog_9_method_1_code 184 = .ok (.newarray .int, 2) := by decide +kernel
theorem dR_init_186 : decode prog_9_method_1_code 186 = .ok (.putfield 75, 3) := by decide +kernel
theorem dR_init_189 : decode prog_9_method_1_code 189 = .ok (.aload_n 0, 1) := by decide +kernel
theorem dR_init_190 : decode prog_9_method_1_code 190 = .ok (.sipush 320, 3) := by decide +kernel
theorem dR_init_193 : decode prog_9_method_1_code 193 = .ok (.newarray .boolean, 2) := by decide +kernel
theorem dR_init_195 : decode prog_9_method_1_code 195 = .ok (.putfield 78, 3) := by decide +kernel
theorem dR_init_198 : decode prog_9_method_1_code 198 = .ok (.aload_n 0, 1) := by decide +kernel
theorem dR_init_199 : decode prog_9_method_1_code 199 = .ok (.sipush 320, 3) := by decide +kernel
theorem dR_init_202 : decode prog_9_method_1_code 202 = .ok (.newarray .boolean, 2) := by decide +kernel
theorem dR_init_204 : decode prog_9_method_1_code 204 = .ok (.putfield 81, 3) := by decide +kernel
theorem dR_init_207 : decode prog_9_method_1_code 207 = .ok (.aload_n 0, 1) := by decide +kernel
theorem dR_init_208 : decode prog_9_method_1_code 208 = .ok (.sipush 1024, 3) := by decide +kernel
theorem dR_init_211 : decode prog_9_method_1_code 211 = .ok (.newarray .int, 2) := by decide +kernel
theorem dR_init_213 : decode prog_9_method_1_code 213 = .ok (.putfield 84, 3) := by decide +kernel
theorem dR_init_216 : decode prog_9_method_1_code 216 = .ok (.aload_n 0, 1) := by decide +kernel
theorem dR_init_217 : decode prog_9_method_1_code 217 = .ok (.sipush 1024, 3) := by decide +kernel
theorem dR_init_220 : decode prog_9_method_1_code 220 = .ok (.newarray .int, 2) := by decide +kernel
theorem dR_init_222 : decode prog_9_method_1_code 222 = .ok (.putfield 87, 3) := by decide +kernel
theorem dR_init_225 : decode prog_9_method_1_code 225 = .ok (.aload_n 0, 1) := by decide +kernel
theorem dR_init_226 : decode prog_9_method_1_code 226 = .ok (.bipush 8, 2) := by decide +kernel
theorem dR_init_228 : decode prog_9_method_1_code 228 = .ok (.newarray .long, 2) := by decide +kernel
theorem dR_init_230 : decode prog_9_method_1_code 230 = .ok (.putfield 90, 3) := by decide +kernel
theorem dR_init_233 : decode prog_9_method_1_code 233 = .ok (.aload_n 0, 1) := by decide +kernel
theorem dR_init_234 : decode prog_9_method_1_code 234 = .ok (.bipush 8, 2) := by decide +kernel
theorem dR_init_236 : decode prog_9_method_1_code 236 = .ok (.newarray .long, 2) := by decide +kernel
theorem dR_init_238 : decode prog_9_method_1_code 238 = .ok (.putfield 93, 3) := by decide +kernel
theorem dR_init_241 : decode prog_9_method_1_code 241 = .ok (.aload_n 0, 1) := by decide +kernel
theorem dR_init_242 : decode prog_9_method_1_code 242 = .ok (.iload_n 1, 1) := by decide +kernel
theorem dR_init_243 : decode prog_9_method_1_code 243 = .ok (.iconst 1, 1) := by decide +kernel
theorem dR_init_244 : decode prog_9_method_1_code 244 = .ok (.if_icmp .ge 7, 3) := by decide +kernel
theorem dR_init_247 : decode prog_9_method_1_code 247 = .ok (.iconst 1, 1) := by decide +kernel
theorem dR_init_248 : decode prog_9_method_1_code 248 = .ok (.goto 15, 3) := by decide +kernel
theorem dR_init_251 : decode prog_9_method_1_code 251 = .ok (.iload_n 1, 1) := by decide +kernel
theorem dR_init_252 : decode prog_9_method_1_code 252 = .ok (.bipush 8, 2) := by decide +kernel
theorem dR_init_254 : decode prog_9_method_1_code 254 = .ok (.if_icmp .le 8, 3) := by decide +kernel
theorem dR_init_257 : decode prog_9_method_1_code 257 = .ok (.bipush 8, 2) := by decide +kernel
theorem dR_init_259 : decode prog_9_method_1_code 259 = .ok (.goto 4, 3) := by decide +kernel
theorem dR_init_262 : decode prog_9_method_1_code 262 = .ok (.iload_n 1, 1) := by decide +kernel
theorem dR_init_263 : decode prog_9_method_1_code 263 = .ok (.putfield 96, 3) := by decide +kernel
theorem dR_init_266 : decode prog_9_method_1_code 266 = .ok (.iconst 0, 1) := by decide +kernel
theorem dR_init_267 : decode prog_9_method_1_code 267 = .ok (.istore_n 2, 1) := by decide +kernel
theorem dR_init_268 : decode prog_9_method_1_code 268 = .ok (.iload_n 2, 1) := by decide +kernel
theorem dR_init_269 : decode prog_9_method_1_code 269 = .ok (.bipush 8, 2) := by decide +kernel
theorem dR_init_271 : decode prog_9_method_1_code 271 = .ok (.if_icmp .ge 16, 3) := by decide +kernel
theorem dR_init_274 : decode prog_9_method_1_code 274 = .ok (.aload_n 0, 1) := by decide +kernel
theorem dR_init_275 : decode prog_9_method_1_code 275 = .ok (.getfield 21, 3) := by decide +kernel
theorem dR_init_278 : decode prog_9_method_1_code 278 = .ok (.iload_n 2, 1) := by decide +kernel
theorem dR_init_279 : decode prog_9_method_1_code 279 = .ok (.iconst (-1), 1) := by decide +kernel
theorem dR_init_280 : decode prog_9_method_1_code 280 = .ok (.iastore, 1) := by decide +kernel
theorem dR_init_281 : decode prog_9_method_1_code 281 = .ok (.iinc 2 1, 3) := by decide +kernel
theorem dR_init_284 : decode prog_9_method_1_code 284 = .ok (.goto (-16), 3) := by decide +kernel
theorem dR_init_287 : decode prog_9_method_1_code 287 = .ok (.iconst 0, 1) := by decide +kernel
theorem dR_init_288 : decode prog_9_method_1_code 288 = .ok (.istore_n 2, 1) := by decide +kernel
theorem dR_init_289 : decode prog_9_method_1_code 289 = .ok (.iload_n 2, 1) := by decide +kernel
theorem dR_init_290 : decode prog_9_method_1_code 290 = .ok (.bipush 16, 2) := by decide +kernel
theorem dR_init_292 : decode prog_9_method_1_code 292 = .ok (.if_icmp .ge 16, 3) := by decide +kernel
theorem dR_init_295 : decode prog_9_method_1_code 295 = .ok (.aload_n 0, 1) := by decide +kernel
theorem dR_init_296 : decode prog_9_method_1_code 296 = .ok (.getfield 54, 3) := by decide +kernel
theorem dR_init_299 : decode prog_9_method_1_code 299 = .ok (.iload_n 2, 1) := by decide +kernel
theorem dR_init_300 : decode prog_9_method_1_code 300 = .ok (.iconst (-1), 1) := by decide +kernel
theorem dR_init_301 : decode prog_9_method_1_code 301 = .ok (.iastore, 1) := by decide +kernel
theorem dR_init_302 : decode prog_9_method_1_code 302 = .ok (.iinc 2 1, 3) := by decide +kernel
theorem dR_init_305 : decode prog_9_method_1_code 305 = .ok (.goto (-16), 3) := by decide +kernel
theorem dR_init_308 : decode prog_9_method_1_code 308 = .ok (.return_, 1) := by decide +kernel
theorem dR_thrown_0 : decode prog_9_method_2_code 0 = .ok (.aload_n 0, 1) := by decide +kernel
theorem dR_thrown_1 : decode prog_9_method_2_code 1 = .ok (.getfield 100, 3) := by decide +kernel
theorem dR_thrown_4 : decode prog_9_method_2_code 4 = .ok (.ireturn, 1) := by decide +kernel
theorem dR_isTask_0 : decode prog_9_method_3_code 0 = .ok (.iload_n 1, 1) := by decide +kernel
theorem dR_isTask_1 : decode prog_9_method_3_code 1 = .ok (.ifCond .lt 15, 3) := by decide +kernel
theorem dR_isTask_4 : decode prog_9_method_3_code 4 = .ok (.iload_n 1, 1) := by decide +kernel
theorem dR_isTask_5 : decode prog_9_method_3_code 5 = .ok (.aload_n 0, 1) := by decide +kernel
theorem dR_isTask_6 : decode prog_9_method_3_code 6 = .ok (.getfield 96, 3) := by decide +kernel
theorem dR_isTask_9 : decode prog_9_method_3_code 9 = .ok (.if_icmp .ge 7, 3) := by decide +kernel
theorem dR_isTask_12 : decode prog_9_method_3_code 12 = .ok (.iconst 1, 1) := by decide +kernel
theorem dR_isTask_13 : decode prog_9_method_3_code 13 = .ok (.goto 4, 3) := by decide +kernel
theorem dR_isTask_16 : decode prog_9_method_3_code 16 = .ok (.iconst 0, 1) := by decide +kernel
theorem dR_isTask_17 : decode prog_9_method_3_code 17 = .ok (.ireturn, 1) := by decide +kernel
theorem dR_reached_0 : decode prog_9_method_8_code 0 = .ok (.iconst 1, 1) := by decide +kernel
theorem dR_reached_1 : decode prog_9_method_8_code 1 = .ok (.iload_n 1, 1) := by decide +kernel
theorem dR_reached_2 : decode prog_9_method_8_code 2 = .ok (.ishl, 1) := by decide +kernel
theorem dR_reached_3 : decode prog_9_method_8_code 3 = .ok (.istore_n 2, 1) := by decide +kernel
theorem dR_reached_4 : decode prog_9_method_8_code 4 = .ok (.iconst 0, 1) := by decide +kernel
theorem dR_reached_5 : decode prog_9_method_8_code 5 = .ok (.istore_n 3, 1) := by decide +kernel
theorem dR_reached_6 : decode prog_9_method_8_code 6 = .ok (.iload_n 3, 1) := by decide +kernel
theorem dR_reached_7 : decode prog_9_method_8_code 7 = .ok (.aload_n 0, 1) := by decide +kernel
theorem dR_reached_8 : decode prog_9_method_8_code 8 = .ok (.getfield 96, 3) := by decide +kernel
theorem dR_reached_11 : decode prog_9_method_8_code 11 = .ok (.if_icmp .ge 65, 3) := by decide +kernel
theorem dR_reached_14 : decode prog_9_method_8_code 14 = .ok (.iconst 0, 1) := by decide +kernel
theorem dR_reached_15 : decode prog_9_method_8_code 15 = .ok (.istore 4, 2) := by decide +kernel
theorem dR_reached_17 : decode prog_9_method_8_code 17 = .ok (.iload 4, 2) := by decide +kernel
theorem dR_reached_19 : decode prog_9_method_8_code 19 = .ok (.aload_n 0, 1) := by decide +kernel
theorem dR_reached_20 : decode prog_9_method_8_code 20 = .ok (.getfield 103, 3) := by decide +kernel
theorem dR_reached_23 : decode prog_9_method_8_code 23 = .ok (.if_icmp .ge 47, 3) := by decide +kernel
theorem dR_reached_26 : decode prog_9_method_8_code 26 = .ok (.aload_n 0, 1) := by decide +kernel
theorem dR_reached_27 : decode prog_9_method_8_code 27 = .ok (.getfield 24, 3) := by decide +kernel
theorem dR_reached_30 : decode prog_9_method_8_code 30 = .ok (.iload 4, 2) := by decide +kernel
theorem dR_reached_32 : decode prog_9_method_8_code 32 = .ok (.iaload, 1) := by decide +kernel
theorem dR_reached_33 : decode prog_9_method_8_code 33 = .ok (.iconst (-1), 1) := by decide +kernel
theorem dR_reached_34 : decode prog_9_method_8_code 34 = .ok (.if_icmp .eq 30, 3) := by decide +kernel
theorem dR_reached_37 : decode prog_9_method_8_code 37 = .ok (.iload_n 2, 1) := by decide +kernel
theorem dR_reached_38 : decode prog_9_method_8_code 38 = .ok (.aload_n 0, 1) := by decide +kernel
theorem dR_reached_39 : decode prog_9_method_8_code 39 = .ok (.getfield 24, 3) := by decide +kernel
theorem dR_reached_42 : decode prog_9_method_8_code 42 = .ok (.iload 4, 2) := by decide +kernel
theorem dR_reached_44 : decode prog_9_method_8_code 44 = .ok (.iaload, 1) := by decide +kernel
theorem dR_reached_45 : decode prog_9_method_8_code 45 = .ok (.ishr, 1) := by decide +kernel
theorem dR_reached_46 : decode prog_9_method_8_code 46 = .ok (.iconst 1, 1) := by decide +kernel
theorem dR_reached_47 : decode prog_9_method_8_code 47 = .ok (.iand, 1) := by decide +kernel
theorem dR_reached_48 : decode prog_9_method_8_code 48 = .ok (.iconst 1, 1) := by decide +kernel
theorem dR_reached_49 : decode prog_9_method_8_code 49 = .ok (.if_icmp .ne 15, 3) := by decide +kernel
theorem dR_reached_52 : decode prog_9_method_8_code 52 = .ok (.iload_n 2, 1) := by decide +kernel
theorem dR_reached_53 : decode prog_9_method_8_code 53 = .ok (.iconst 1, 1) := by decide +kernel
theorem dR_reached_54 : decode prog_9_method_8_code 54 = .ok (.aload_n 0, 1) := by decide +kernel
theorem dR_reached_55 : decode prog_9_method_8_code 55 = .ok (.getfield 27, 3) := by decide +kernel
theorem dR_reached_58 : decode prog_9_method_8_code 58 = .ok (.iload 4, 2) := by decide +kernel
theorem dR_reached_60 : decode prog_9_method_8_code 60 = .ok (.iaload, 1) := by decide +kernel
theorem dR_reached_61 : decode prog_9_method_8_code 61 = .ok (.ishl, 1) := by decide +kernel
theorem dR_reached_62 : decode prog_9_method_8_code 62 = .ok (.ior, 1) := by decide +kernel
theorem dR_reached_63 : decode prog_9_method_8_code 63 = .ok (.istore_n 2, 1) := by decide +kernel
theorem dR_reached_64 : decode prog_9_method_8_code 64 = .ok (.iinc 4 1, 3) := by decide +kernel
theorem dR_reached_67 : decode prog_9_method_8_code 67 = .ok (.goto (-50), 3) := by decide +kernel
theorem dR_reached_70 : decode prog_9_method_8_code 70 = .ok (.iinc 3 1, 3) := by decide +kernel
theorem dR_reached_73 : decode prog_9_method_8_code 73 = .ok (.goto (-67), 3) := by decide +kernel
theorem dR_reached_76 : decode prog_9_method_8_code 76 = .ok (.iload_n 2, 1) := by decide +kernel
theorem dR_reached_77 : decode prog_9_method_8_code 77 = .ok (.ireturn, 1) := by decide +kernel
theorem dR_hasInto_0 : decode prog_9_method_7_code 0 = .ok (.iconst 0, 1) := by decide +kernel
theorem dR_hasInto_1 : decode prog_9_method_7_code 1 = .ok (.istore_n 2, 1) := by decide +kernel
theorem dR_hasInto_2 : decode prog_9_method_7_code 2 = .ok (.iconst 0, 1) := by decide +kernel
theorem dR_hasInto_3 : decode prog_9_method_7_code 3 = .ok (.istore_n 3, 1) := by decide +kernel
theorem dR_hasInto_4 : decode prog_9_method_7_code 4 = .ok (.iload_n 3, 1) := by decide +kernel
theorem dR_hasInto_5 : decode prog_9_method_7_code 5 = .ok (.aload_n 0, 1) := by decide +kernel
theorem dR_hasInto_6 : decode prog_9_method_7_code 6 = .ok (.getfield 103, 3) := by decide +kernel
theorem dR_hasInto_9 : decode prog_9_method_7_code 9 = .ok (.if_icmp .ge 27, 3) := by decide +kernel
theorem dR_hasInto_12 : decode prog_9_method_7_code 12 = .ok (.iload_n 2, 1) := by decide +kernel
theorem dR_hasInto_13 : decode prog_9_method_7_code 13 = .ok (.aload_n 0, 1) := by decide +kernel
theorem dR_hasInto_14 : decode prog_9_method_7_code 14 = .ok (.getfield 27, 3) := by decide +kernel
theorem dR_hasInto_17 : decode prog_9_method_7_code 17 = .ok (.iload_n 3, 1) := by decide +kernel
theorem dR_hasInto_18 : decode prog_9_method_7_code 18 = .ok (.iaload, 1) := by decide +kernel
theorem dR_hasInto_19 : decode prog_9_method_7_code 19 = .ok (.iload_n 1, 1) := by decide +kernel
theorem dR_hasInto_20 : decode prog_9_method_7_code 20 = .ok (.if_icmp .ne 7, 3) := by decide +kernel
theorem dR_hasInto_23 : decode prog_9_method_7_code 23 = .ok (.iconst 1, 1) := by decide +kernel
theorem dR_hasInto_24 : decode prog_9_method_7_code 24 = .ok (.goto 4, 3) := by decide +kernel
theorem dR_hasInto_27 : decode prog_9_method_7_code 27 = .ok (.iconst 0, 1) := by decide +kernel
theorem dR_hasInto_28 : decode prog_9_method_7_code 28 = .ok (.ior, 1) := by decide +kernel
theorem dR_hasInto_29 : decode prog_9_method_7_code 29 = .ok (.istore_n 2, 1) := by decide +kernel
theorem dR_hasInto_30 : decode prog_9_method_7_code 30 = .ok (.iinc 3 1, 3) := by decide +kernel
theorem dR_hasInto_33 : decode prog_9_method_7_code 33 = .ok (.goto (-29), 3) := by decide +kernel
theorem dR_hasInto_36 : decode prog_9_method_7_code 36 = .ok (.iload_n 2, 1) := by decide +kernel
theorem dR_hasInto_37 : decode prog_9_method_7_code 37 = .ok (.ireturn, 1) := by decide +kernel
theorem dR_channel_0 : decode prog_9_method_9_code 0 = .ok (.aload_n 0, 1) := by decide +kernel
theorem dR_channel_1 : decode prog_9_method_9_code 1 = .ok (.iload_n 1, 1) := by decide +kernel
theorem dR_channel_2 : decode prog_9_method_9_code 2 = .ok (.iconst (-1), 1) := by decide +kernel
theorem dR_channel_3 : decode prog_9_method_9_code 3 = .ok (.if_icmp .lt 19, 3) := by decide +kernel
theorem dR_channel_6 : decode prog_9_method_9_code 6 = .ok (.iload_n 1, 1) := by decide +kernel
theorem dR_channel_7 : decode prog_9_method_9_code 7 = .ok (.aload_n 0, 1) := by decide +kernel
theorem dR_channel_8 : decode prog_9_method_9_code 8 = .ok (.getfield 96, 3) := by decide +kernel
theorem dR_channel_11 : decode prog_9_method_9_code 11 = .ok (.if_icmp .ge 11, 3) := by decide +kernel
theorem dR_channel_14 : decode prog_9_method_9_code 14 = .ok (.aload_n 0, 1) := by decide +kernel
theorem dR_channel_15 : decode prog_9_method_9_code 15 = .ok (.iload_n 2, 1) := by decide +kernel
theorem dR_channel_16 : decode prog_9_method_9_code 16 = .ok (.invokevirtual 109, 3) := by decide +kernel
theorem dR_channel_19 : decode prog_9_method_9_code 19 = .ok (.ifCond .ne 7, 3) := by decide +kernel
theorem dR_channel_22 : decode prog_9_method_9_code 22 = .ok (.iconst 1, 1) := by decide +kernel
theorem dR_channel_23 : decode prog_9_method_9_code 23 = .ok (.goto 54, 3) := by decide +kernel
theorem dR_channel_26 : decode prog_9_method_9_code 26 = .ok (.aload_n 0, 1) := by decide +kernel
theorem dR_channel_27 : decode prog_9_method_9_code 27 = .ok (.getfield 103, 3) := by decide +kernel
theorem dR_channel_30 : decode prog_9_method_9_code 30 = .ok (.bipush 16, 2) := by decide +kernel
theorem dR_channel_32 : decode prog_9_method_9_code 32 = .ok (.if_icmp .eq 10, 3) := by decide +kernel
theorem dR_channel_35 : decode prog_9_method_9_code 35 = .ok (.aload_n 0, 1) := by decide +kernel
theorem dR_channel_36 : decode prog_9_method_9_code 36 = .ok (.getfield 113, 3) := by decide +kernel
theorem dR_channel_39 : decode prog_9_method_9_code 39 = .ok (.ifCond .eq 7, 3) := by decide +kernel
theorem dR_channel_42 : decode prog_9_method_9_code 42 = .ok (.iconst 2, 1) := by decide +kernel
theorem dR_channel_43 : decode prog_9_method_9_code 43 = .ok (.goto 34, 3) := by decide +kernel
theorem dR_channel_46 : decode prog_9_method_9_code 46 = .ok (.iload_n 1, 1) := by decide +kernel
theorem dR_channel_47 : decode prog_9_method_9_code 47 = .ok (.iconst (-1), 1) := by decide +kernel
theorem dR_channel_48 : decode prog_9_method_9_code 48 = .ok (.if_icmp .eq 28, 3) := by decide +kernel
theorem dR_channel_51 : decode prog_9_method_9_code 51 = .ok (.aload_n 0, 1) := by decide +kernel
theorem dR_channel_52 : decode prog_9_method_9_code 52 = .ok (.iload_n 2, 1) := by decide +kernel
theorem dR_channel_53 : decode prog_9_method_9_code 53 = .ok (.invokevirtual 117, 3) := by decide +kernel
theorem dR_channel_56 : decode prog_9_method_9_code 56 = .ok (.iload_n 1, 1) := by decide +kernel
theorem dR_channel_57 : decode prog_9_method_9_code 57 = .ok (.ishr, 1) := by decide +kernel
theorem dR_channel_58 : decode prog_9_method_9_code 58 = .ok (.iconst 1, 1) := by decide +kernel
theorem dR_channel_59 : decode prog_9_method_9_code 59 = .ok (.iand, 1) := by decide +kernel
theorem dR_channel_60 : decode prog_9_method_9_code 60 = .ok (.iconst 1, 1) := by decide +kernel
theorem dR_channel_61 : decode prog_9_method_9_code 61 = .ok (.if_icmp .eq 11, 3) := by decide +kernel
theorem dR_channel_64 : decode prog_9_method_9_code 64 = .ok (.aload_n 0, 1) := by decide +kernel
theorem dR_channel_65 : decode prog_9_method_9_code 65 = .ok (.iload_n 1, 1) := by decide +kernel
theorem dR_channel_66 : decode prog_9_method_9_code 66 = .ok (.invokevirtual 121, 3) := by decide +kernel
theorem dR_channel_69 : decode prog_9_method_9_code 69 = .ok (.ifCond .ne 7, 3) := by decide +kernel
theorem dR_channel_72 : decode prog_9_method_9_code 72 = .ok (.iconst 3, 1) := by decide +kernel
theorem dR_channel_73 : decode prog_9_method_9_code 73 = .ok (.goto 4, 3) := by decide +kernel
theorem dR_channel_76 : decode prog_9_method_9_code 76 = .ok (.iconst 0, 1) := by decide +kernel
theorem dR_channel_77 : decode prog_9_method_9_code 77 = .ok (.putfield 100, 3) := by decide +kernel
theorem dR_channel_80 : decode prog_9_method_9_code 80 = .ok (.aload_n 0, 1) := by decide +kernel
theorem dR_channel_81 : decode prog_9_method_9_code 81 = .ok (.getfield 100, 3) := by decide +kernel
theorem dR_channel_84 : decode prog_9_method_9_code 84 = .ok (.ifCond .le 5, 3) := by decide +kernel
theorem dR_channel_87 : decode prog_9_method_9_code 87 = .ok (.iconst 0, 1) := by decide +kernel
theorem dR_channel_88 : decode prog_9_method_9_code 88 = .ok (.ireturn, 1) := by decide +kernel
theorem dR_channel_89 : decode prog_9_method_9_code 89 = .ok (.aload_n 0, 1) := by decide +kernel
theorem dR_channel_90 : decode prog_9_method_9_code 90 = .ok (.getfield 24, 3) := by decide +kernel
theorem dR_channel_93 : decode prog_9_method_9_code 93 = .ok (.aload_n 0, 1) := by decide +kernel
theorem dR_channel_94 : decode prog_9_method_9_code 94 = .ok (.getfield 103, 3) := by decide +kernel
theorem dR_channel_97 : decode prog_9_method_9_code 97 = .ok (.iload_n 1, 1) := by decide +kernel
theorem dR_channel_98 : decode prog_9_method_9_code 98 = .ok (.iastore, 1) := by decide +kernel
theorem dR_channel_99 : decode prog_9_method_9_code 99 = .ok (.aload_n 0, 1) := by decide +kernel
theorem dR_channel_100 : decode prog_9_method_9_code 100 = .ok (.getfield 27, 3) := by decide +kernel
theorem dR_channel_103 : decode prog_9_method_9_code 103 = .ok (.aload_n 0, 1) := by decide +kernel
theorem dR_channel_104 : decode prog_9_method_9_code 104 = .ok (.getfield 103, 3) := by decide +kernel
theorem dR_channel_107 : decode prog_9_method_9_code 107 = .ok (.iload_n 2, 1) := by decide +kernel
theorem dR_channel_108 : decode prog_9_method_9_code 108 = .ok (.iastore, 1) := by decide +kernel
theorem dR_channel_109 : decode prog_9_method_9_code 109 = .ok (.aload_n 0, 1) := by decide +kernel
theorem dR_channel_110 : decode prog_9_method_9_code 110 = .ok (.dup, 1) := by decide +kernel
theorem dR_channel_111 : decode prog_9_method_9_code 111 = .ok (.getfield 103, 3) := by decide +kernel
theorem dR_channel_114 : decode prog_9_method_9_code 114 = .ok (.iconst 1, 1) := by decide +kernel
theorem dR_channel_115 : decode prog_9_method_9_code 115 = .ok (.iadd, 1) := by decide +kernel
theorem dR_channel_116 : decode prog_9_method_9_code 116 = .ok (.putfield 103, 3) := by decide +kernel
theorem dR_channel_119 : decode prog_9_method_9_code 119 = .ok (.aload_n 0, 1) := by decide +kernel
theorem dR_channel_120 : decode prog_9_method_9_code 120 = .ok (.getfield 103, 3) := by decide +kernel
theorem dR_channel_123 : decode prog_9_method_9_code 123 = .ok (.iconst 1, 1) := by decide +kernel
theorem dR_channel_124 : decode prog_9_method_9_code 124 = .ok (.isub, 1) := by decide +kernel
theorem dR_channel_125 : decode prog_9_method_9_code 125 = .ok (.ireturn, 1) := by decide +kernel
theorem dR_isChannel_0 : decode prog_9_method_4_code 0 = .ok (.iload_n 1, 1) := by decide +kernel
theorem dR_isChannel_1 : decode prog_9_method_4_code 1 = .ok (.ifCond .lt 15, 3) := by decide +kernel
theorem dR_isChannel_4 : decode prog_9_method_4_code 4 = .ok (.iload_n 1, 1) := by decide +kernel
theorem dR_isChannel_5 : decode prog_9_method_4_code 5 = .ok (.aload_n 0, 1) := by decide +kernel
theorem dR_isChannel_6 : decode prog_9_method_4_code 6 = .ok (.getfield 103, 3) := by decide +kernel
theorem dR_isChannel_9 : decode prog_9_method_4_code 9 = .ok (.if_icmp .ge 7, 3) := by decide +kernel
theorem dR_isChannel_12 : decode prog_9_method_4_code 12 = .ok (.iconst 1, 1) := by decide +kernel
theorem dR_isChannel_13 : decode prog_9_method_4_code 13 = .ok (.goto 4, 3) := by decide +kernel
theorem dR_isChannel_16 : decode prog_9_method_4_code 16 = .ok (.iconst 0, 1) := by decide +kernel
theorem dR_isChannel_17 : decode prog_9_method_4_code 17 = .ok (.ireturn, 1) := by decide +kernel
theorem dR_isSource_0 : decode prog_9_method_6_code 0 = .ok (.aload_n 0, 1) := by decide +kernel
theorem dR_isSource_1 : decode prog_9_method_6_code 1 = .ok (.getfield 24, 3) := by decide +kernel
theorem dR_isSource_4 : decode prog_9_method_6_code 4 = .ok (.iload_n 1, 1) := by decide +kernel
theorem dR_isSource_5 : decode prog_9_method_6_code 5 = .ok (.iaload, 1) := by decide +kernel
theorem dR_isSource_6 : decode prog_9_method_6_code 6 = .ok (.iconst (-1), 1) := by decide +kernel
theorem dR_isSource_7 : decode prog_9_method_6_code 7 = .ok (.if_icmp .ne 7, 3) := by decide +kernel
theorem dR_isSource_10 : decode prog_9_method_6_code 10 = .ok (.iconst 1, 1) := by decide +kernel
theorem dR_isSource_11 : decode prog_9_method_6_code 11 = .ok (.goto 4, 3) := by decide +kernel
theorem dR_isSource_14 : decode prog_9_method_6_code 14 = .ok (.iconst 0, 1) := by decide +kernel
theorem dR_isSource_15 : decode prog_9_method_6_code 15 = .ok (.ireturn, 1) := by decide +kernel
theorem dR_send_0 : decode prog_9_method_10_code 0 = .ok (.aload_n 0, 1) := by decide +kernel
theorem dR_send_1 : decode prog_9_method_10_code 1 = .ok (.aload_n 0, 1) := by decide +kernel
theorem dR_send_2 : decode prog_9_method_10_code 2 = .ok (.iload_n 1, 1) := by decide +kernel
theorem dR_send_3 : decode prog_9_method_10_code 3 = .ok (.invokevirtual 124, 3) := by decide +kernel
theorem dR_send_6 : decode prog_9_method_10_code 6 = .ok (.ifCond .ne 7, 3) := by decide +kernel
theorem dR_send_9 : decode prog_9_method_10_code 9 = .ok (.iconst 1, 1) := by decide +kernel
theorem dR_send_10 : decode prog_9_method_10_code 10 = .ok (.goto 37, 3) := by decide +kernel
theorem dR_send_13 : decode prog_9_method_10_code 13 = .ok (.aload_n 0, 1) := by decide +kernel
theorem dR_send_14 : decode prog_9_method_10_code 14 = .ok (.iload_n 1, 1) := by decide +kernel
theorem dR_send_15 : decode prog_9_method_10_code 15 = .ok (.invokevirtual 127, 3) := by decide +kernel
theorem dR_send_18 : decode prog_9_method_10_code 18 = .ok (.ifCond .eq 24, 3) := by decide +kernel
theorem dR_send_21 : decode prog_9_method_10_code 21 = .ok (.aload_n 0, 1) := by decide +kernel
theorem dR_send_22 : decode prog_9_method_10_code 22 = .ok (.getfield 45, 3) := by decide +kernel
theorem dR_send_25 : decode prog_9_method_10_code 25 = .ok (.iload_n 1, 1) := by decide +kernel
theorem dR_send_26 : decode prog_9_method_10_code 26 = .ok (.baload, 1) := by decide +kernel
theorem dR_send_27 : decode prog_9_method_10_code 27 = .ok (.ifCond .ne 15, 3) := by decide +kernel
theorem dR_send_30 : decode prog_9_method_10_code 30 = .ok (.aload_n 0, 1) := by decide +kernel
theorem dR_send_31 : decode prog_9_method_10_code 31 = .ok (.getfield 42, 3) := by decide +kernel
theorem dR_send_34 : decode prog_9_method_10_code 34 = .ok (.iload_n 1, 1) := by decide +kernel
theorem dR_send_35 : decode prog_9_method_10_code 35 = .ok (.iaload, 1) := by decide +kernel
theorem dR_send_36 : decode prog_9_method_10_code 36 = .ok (.sipush 200, 3) := by decide +kernel
theorem dR_send_39 : decode prog_9_method_10_code 39 = .ok (.if_icmp .ne 7, 3) := by decide +kernel
theorem dR_send_42 : decode prog_9_method_10_code 42 = .ok (.iconst 2, 1) := by decide +kernel
theorem dR_send_43 : decode prog_9_method_10_code 43 = .ok (.goto 4, 3) := by decide +kernel
theorem dR_send_46 : decode prog_9_method_10_code 46 = .ok (.iconst 0, 1) := by decide +kernel
theorem dR_send_47 : decode prog_9_method_10_code 47 = .ok (.putfield 100, 3) := by decide +kernel
theorem dR_send_50 : decode prog_9_method_10_code 50 = .ok (.aload_n 0, 1) := by decide +kernel
theorem dR_send_51 : decode prog_9_method_10_code 51 = .ok (.getfield 100, 3) := by decide +kernel
theorem dR_send_54 : decode prog_9_method_10_code 54 = .ok (.ifCond .le 5, 3) := by decide +kernel
theorem dR_send_57 : decode prog_9_method_10_code 57 = .ok (.iconst 0, 1) := by decide +kernel
theorem dR_send_58 : decode prog_9_method_10_code 58 = .ok (.ireturn, 1) := by decide +kernel
theorem dR_send_59 : decode prog_9_method_10_code 59 = .ok (.aload_n 0, 1) := by decide +kernel
theorem dR_send_60 : decode prog_9_method_10_code 60 = .ok (.iconst 1, 1) := by decide +kernel
theorem dR_send_61 : decode prog_9_method_10_code 61 = .ok (.putfield 113, 3) := by decide +kernel
theorem dR_send_64 : decode prog_9_method_10_code 64 = .ok (.aload_n 0, 1) := by decide +kernel
theorem dR_send_65 : decode prog_9_method_10_code 65 = .ok (.getfield 39, 3) := by decide +kernel
theorem dR_send_68 : decode prog_9_method_10_code 68 = .ok (.sipush 200, 3) := by decide +kernel
theorem dR_send_71 : decode prog_9_method_10_code 71 = .ok (.iload_n 1, 1) := by decide +kernel
theorem dR_send_72 : decode prog_9_method_10_code 72 = .ok (.imul, 1) := by decide +kernel
theorem dR_send_73 : decode prog_9_method_10_code 73 = .ok (.aload_n 0, 1) := by decide +kernel
theorem dR_send_74 : decode prog_9_method_10_code 74 = .ok (.getfield 42, 3) := by decide +kernel
theorem dR_send_77 : decode prog_9_method_10_code 77 = .ok (.iload_n 1, 1) := by decide +kernel
theorem dR_send_78 : decode prog_9_method_10_code 78 = .ok (.iaload, 1) := by decide +kernel
theorem dR_send_79 : decode prog_9_method_10_code 79 = .ok (.iadd, 1) := by decide +kernel
theorem dR_send_80 : decode prog_9_method_10_code 80 = .ok (.lload_n 2, 1) := by decide +kernel
theorem dR_send_81 : decode prog_9_method_10_code 81 = .ok (.lastore, 1) := by decide +kernel
theorem dR_send_82 : decode prog_9_method_10_code 82 = .ok (.aload_n 0, 1) := by decide +kernel
theorem dR_send_83 : decode prog_9_method_10_code 83 = .ok (.getfield 42, 3) := by decide +kernel
theorem dR_send_86 : decode prog_9_method_10_code 86 = .ok (.iload_n 1, 1) := by decide +kernel
theorem dR_send_87 : decode prog_9_method_10_code 87 = .ok (.dup2, 1) := by decide +kernel
theorem dR_send_88 : decode prog_9_method_10_code 88 = .ok (.iaload, 1) := by decide +kernel
theorem dR_send_89 : decode prog_9_method_10_code 89 = .ok (.iconst 1, 1) := by decide +kernel
theorem dR_send_90 : decode prog_9_method_10_code 90 = .ok (.iadd, 1) := by decide +kernel
theorem dR_send_91 : decode prog_9_method_10_code 91 = .ok (.iastore, 1) := by decide +kernel
theorem dR_send_92 : decode prog_9_method_10_code 92 = .ok (.aload_n 0, 1) := by decide +kernel
theorem dR_send_93 : decode prog_9_method_10_code 93 = .ok (.getfield 42, 3) := by decide +kernel
theorem dR_send_96 : decode prog_9_method_10_code 96 = .ok (.iload_n 1, 1) := by decide +kernel
theorem dR_send_97 : decode prog_9_method_10_code 97 = .ok (.iaload, 1) := by decide +kernel
theorem dR_send_98 : decode prog_9_method_10_code 98 = .ok (.ireturn, 1) := by decide +kernel
theorem dR_finish_0 : decode prog_9_method_11_code 0 = .ok (.aload_n 0, 1) := by decide +kernel
theorem dR_finish_1 : decode prog_9_method_11_code 1 = .ok (.aload_n 0, 1) := by decide +kernel
theorem dR_finish_2 : decode prog_9_method_11_code 2 = .ok (.iload_n 1, 1) := by decide +kernel
theorem dR_finish_3 : decode prog_9_method_11_code 3 = .ok (.invokevirtual 124, 3) := by decide +kernel
theorem dR_finish_6 : decode prog_9_method_11_code 6 = .ok (.ifCond .ne 7, 3) := by decide +kernel
theorem dR_finish_9 : decode prog_9_method_11_code 9 = .ok (.iconst 1, 1) := by decide +kernel
theorem dR_finish_10 : decode prog_9_method_11_code 10 = .ok (.goto 25, 3) := by decide +kernel
theorem dR_finish_13 : decode prog_9_method_11_code 13 = .ok (.aload_n 0, 1) := by decide +kernel
theorem dR_finish_14 : decode prog_9_method_11_code 14 = .ok (.iload_n 1, 1) := by decide +kernel
theorem dR_finish_15 : decode prog_9_method_11_code 15 = .ok (.invokevirtual 127, 3) := by decide +kernel
theorem dR_finish_18 : decode prog_9_method_11_code 18 = .ok (.ifCond .eq 12, 3) := by decide +kernel
theorem dR_finish_21 : decode prog_9_method_11_code 21 = .ok (.aload_n 0, 1) := by decide +kernel
theorem dR_finish_22 : decode prog_9_method_11_code 22 = .ok (.getfield 45, 3) := by decide +kernel
theorem dR_finish_25 : decode prog_9_method_11_code 25 = .ok (.iload_n 1, 1) := by decide +kernel
theorem dR_finish_26 : decode prog_9_method_11_code 26 = .ok (.baload, 1) := by decide +kernel
theorem dR_finish_27 : decode prog_9_method_11_code 27 = .ok (.ifCond .eq 7, 3) := by decide +kernel
theorem dR_finish_30 : decode prog_9_method_11_code 30 = .ok (.iconst 2, 1) := by decide +kernel
theorem dR_finish_31 : decode prog_9_method_11_code 31 = .ok (.goto 4, 3) := by decide +kernel
theorem dR_finish_34 : decode prog_9_method_11_code 34 = .ok (.iconst 0, 1) := by decide +kernel
theorem dR_finish_35 : decode prog_9_method_11_code 35 = .ok (.putfield 100, 3) := by decide +kernel
theorem dR_finish_38 : decode prog_9_method_11_code 38 = .ok (.aload_n 0, 1) := by decide +kernel
theorem dR_finish_39 : decode prog_9_method_11_code 39 = .ok (.getfield 100, 3) := by decide +kernel
theorem dR_finish_42 : decode prog_9_method_11_code 42 = .ok (.ifCond .le 5, 3) := by decide +kernel
theorem dR_finish_45 : decode prog_9_method_11_code 45 = .ok (.iconst 0, 1) := by decide +kernel
theorem dR_finish_46 : decode prog_9_method_11_code 46 = .ok (.ireturn, 1) := by decide +kernel
theorem dR_finish_47 : decode prog_9_method_11_code 47 = .ok (.aload_n 0, 1) := by decide +kernel
theorem dR_finish_48 : decode prog_9_method_11_code 48 = .ok (.iconst 1, 1) := by decide +kernel
theorem dR_finish_49 : decode prog_9_method_11_code 49 = .ok (.putfield 113, 3) := by decide +kernel
theorem dR_finish_52 : decode prog_9_method_11_code 52 = .ok (.aload_n 0, 1) := by decide +kernel
theorem dR_finish_53 : decode prog_9_method_11_code 53 = .ok (.getfield 45, 3) := by decide +kernel
theorem dR_finish_56 : decode prog_9_method_11_code 56 = .ok (.iload_n 1, 1) := by decide +kernel
theorem dR_finish_57 : decode prog_9_method_11_code 57 = .ok (.iconst 1, 1) := by decide +kernel
theorem dR_finish_58 : decode prog_9_method_11_code 58 = .ok (.bastore, 1) := by decide +kernel
theorem dR_finish_59 : decode prog_9_method_11_code 59 = .ok (.aload_n 0, 1) := by decide +kernel
theorem dR_finish_60 : decode prog_9_method_11_code 60 = .ok (.getfield 42, 3) := by decide +kernel
theorem dR_finish_63 : decode prog_9_method_11_code 63 = .ok (.iload_n 1, 1) := by decide +kernel
theorem dR_finish_64 : decode prog_9_method_11_code 64 = .ok (.iaload, 1) := by decide +kernel
theorem dR_finish_65 : decode prog_9_method_11_code 65 = .ok (.ireturn, 1) := by decide +kernel
theorem dR_begun_0 : decode prog_9_method_12_code 0 = .ok (.iconst 0, 1) := by decide +kernel
theorem dR_begun_1 : decode prog_9_method_12_code 1 = .ok (.istore_n 1, 1) := by decide +kernel
theorem dR_begun_2 : decode prog_9_method_12_code 2 = .ok (.iconst 0, 1) := by decide +kernel
theorem dR_begun_3 : decode prog_9_method_12_code 3 = .ok (.istore_n 2, 1) := by decide +kernel
theorem dR_begun_4 : decode prog_9_method_12_code 4 = .ok (.iload_n 2, 1) := by decide +kernel
theorem dR_begun_5 : decode prog_9_method_12_code 5 = .ok (.aload_n 0, 1) := by decide +kernel
theorem dR_begun_6 : decode prog_9_method_12_code 6 = .ok (.getfield 106, 3) := by decide +kernel
theorem dR_begun_9 : decode prog_9_method_12_code 9 = .ok (.if_icmp .ge 26, 3) := by decide +kernel
theorem dR_begun_12 : decode prog_9_method_12_code 12 = .ok (.iload_n 1, 1) := by decide +kernel
theorem dR_begun_13 : decode prog_9_method_12_code 13 = .ok (.aload_n 0, 1) := by decide +kernel
theorem dR_begun_14 : decode prog_9_method_12_code 14 = .ok (.getfield 57, 3) := by decide +kernel
theorem dR_begun_17 : decode prog_9_method_12_code 17 = .ok (.iload_n 2, 1) := by decide +kernel
theorem dR_begun_18 : decode prog_9_method_12_code 18 = .ok (.iaload, 1) := by decide +kernel
theorem dR_begun_19 : decode prog_9_method_12_code 19 = .ok (.ifCond .ne 7, 3) := by decide +kernel
theorem dR_begun_22 : decode prog_9_method_12_code 22 = .ok (.iconst 1, 1) := by decide +kernel
theorem dR_begun_23 : decode prog_9_method_12_code 23 = .ok (.goto 4, 3) := by decide +kernel
theorem dR_begun_26 : decode prog_9_method_12_code 26 = .ok (.iconst 0, 1) := by decide +kernel
theorem dR_begun_27 : decode prog_9_method_12_code 27 = .ok (.iadd, 1) := by decide +kernel
theorem dR_begun_28 : decode prog_9_method_12_code 28 = .ok (.istore_n 1, 1) := by decide +kernel
theorem dR_begun_29 : decode prog_9_method_12_code 29 = .ok (.iinc 2 1, 3) := by decide +kernel
theorem dR_begun_32 : decode prog_9_method_12_code 32 = .ok (.goto (-28), 3) := by decide +kernel
theorem dR_begun_35 : decode prog_9_method_12_code 35 = .ok (.iload_n 1, 1) := by decide +kernel
theorem dR_begun_36 : decode prog_9_method_12_code 36 = .ok (.ireturn, 1) := by decide +kernel
theorem dR_sent_0 : decode prog_9_method_14_code 0 = .ok (.aload_n 0, 1) := by decide +kernel
theorem dR_sent_1 : decode prog_9_method_14_code 1 = .ok (.getfield 84, 3) := by decide +kernel
theorem dR_sent_4 : decode prog_9_method_14_code 4 = .ok (.aload_n 0, 1) := by decide +kernel
theorem dR_sent_5 : decode prog_9_method_14_code 5 = .ok (.getfield 138, 3) := by decide +kernel
theorem dR_sent_8 : decode prog_9_method_14_code 8 = .ok (.iload_n 1, 1) := by decide +kernel
theorem dR_sent_9 : decode prog_9_method_14_code 9 = .ok (.iastore, 1) := by decide +kernel
theorem dR_sent_10 : decode prog_9_method_14_code 10 = .ok (.aload_n 0, 1) := by decide +kernel
theorem dR_sent_11 : decode prog_9_method_14_code 11 = .ok (.getfield 87, 3) := by decide +kernel
theorem dR_sent_14 : decode prog_9_method_14_code 14 = .ok (.aload_n 0, 1) := by decide +kernel
theorem dR_sent_15 : decode prog_9_method_14_code 15 = .ok (.getfield 138, 3) := by decide +kernel
theorem dR_sent_18 : decode prog_9_method_14_code 18 = .ok (.iload_n 2, 1) := by decide +kernel
theorem dR_sent_19 : decode prog_9_method_14_code 19 = .ok (.iastore, 1) := by decide +kernel
theorem dR_sent_20 : decode prog_9_method_14_code 20 = .ok (.aload_n 0, 1) := by decide +kernel
theorem dR_sent_21 : decode prog_9_method_14_code 21 = .ok (.dup, 1) := by decide +kernel
theorem dR_sent_22 : decode prog_9_method_14_code 22 = .ok (.getfield 138, 3) := by decide +kernel
theorem dR_sent_25 : decode prog_9_method_14_code 25 = .ok (.iconst 1, 1) := by decide +kernel
theorem dR_sent_26 : decode prog_9_method_14_code 26 = .ok (.iadd, 1) := by decide +kernel
theorem dR_sent_27 : decode prog_9_method_14_code 27 = .ok (.putfield 138, 3) := by decide +kernel
theorem dR_sent_30 : decode prog_9_method_14_code 30 = .ok (.return_, 1) := by decide +kernel
theorem dR_keep_0 : decode prog_9_method_15_code 0 = .ok (.aload_n 0, 1) := by decide +kernel
theorem dR_keep_1 : decode prog_9_method_15_code 1 = .ok (.getfield 66, 3) := by decide +kernel
theorem dR_keep_4 : decode prog_9_method_15_code 4 = .ok (.bipush 8, 2) := by decide +kernel
theorem dR_keep_6 : decode prog_9_method_15_code 6 = .ok (.iload_n 1, 1) := by decide +kernel
theorem dR_keep_7 : decode prog_9_method_15_code 7 = .ok (.imul, 1) := by decide +kernel
theorem dR_keep_8 : decode prog_9_method_15_code 8 = .ok (.iload_n 2, 1) := by decide +kernel
theorem dR_keep_9 : decode prog_9_method_15_code 9 = .ok (.iadd, 1) := by decide +kernel
theorem dR_keep_10 : decode prog_9_method_15_code 10 = .ok (.iconst 1, 1) := by decide +kernel
theorem dR_keep_11 : decode prog_9_method_15_code 11 = .ok (.bastore, 1) := by decide +kernel
theorem dR_keep_12 : decode prog_9_method_15_code 12 = .ok (.aload_n 0, 1) := by decide +kernel
theorem dR_keep_13 : decode prog_9_method_15_code 13 = .ok (.getfield 69, 3) := by decide +kernel
theorem dR_keep_16 : decode prog_9_method_15_code 16 = .ok (.bipush 8, 2) := by decide +kernel
theorem dR_keep_18 : decode prog_9_method_15_code 18 = .ok (.iload_n 1, 1) := by decide +kernel
theorem dR_keep_19 : decode prog_9_method_15_code 19 = .ok (.imul, 1) := by decide +kernel
theorem dR_keep_20 : decode prog_9_method_15_code 20 = .ok (.iload_n 2, 1) := by decide +kernel
theorem dR_keep_21 : decode prog_9_method_15_code 21 = .ok (.iadd, 1) := by decide +kernel
theorem dR_keep_22 : decode prog_9_method_15_code 22 = .ok (.aload_n 0, 1) := by decide +kernel
theorem dR_keep_23 : decode prog_9_method_15_code 23 = .ok (.getfield 17, 3) := by decide +kernel
theorem dR_keep_26 : decode prog_9_method_15_code 26 = .ok (.iload_n 2, 1) := by decide +kernel
theorem dR_keep_27 : decode prog_9_method_15_code 27 = .ok (.baload, 1) := by decide +kernel
theorem dR_keep_28 : decode prog_9_method_15_code 28 = .ok (.bastore, 1) := by decide +kernel
theorem dR_keep_29 : decode prog_9_method_15_code 29 = .ok (.aload_n 0, 1) := by decide +kernel
theorem dR_keep_30 : decode prog_9_method_15_code 30 = .ok (.getfield 72, 3) := by decide +kernel
theorem dR_keep_33 : decode prog_9_method_15_code 33 = .ok (.bipush 8, 2) := by decide +kernel
theorem dR_keep_35 : decode prog_9_method_15_code 35 = .ok (.iload_n 1, 1) := by decide +kernel
theorem dR_keep_36 : decode prog_9_method_15_code 36 = .ok (.imul, 1) := by decide +kernel
theorem dR_keep_37 : decode prog_9_method_15_code 37 = .ok (.iload_n 2, 1) := by decide +kernel
theorem dR_keep_38 : decode prog_9_method_15_code 38 = .ok (.iadd, 1) := by decide +kernel
theorem dR_keep_39 : decode prog_9_method_15_code 39 = .ok (.aload_n 0, 1) := by decide +kernel
theorem dR_keep_40 : decode prog_9_method_15_code 40 = .ok (.getfield 7, 3) := by decide +kernel
theorem dR_keep_43 : decode prog_9_method_15_code 43 = .ok (.iload_n 2, 1) := by decide +kernel
theorem dR_keep_44 : decode prog_9_method_15_code 44 = .ok (.laload, 1) := by decide +kernel
theorem dR_keep_45 : decode prog_9_method_15_code 45 = .ok (.lastore, 1) := by decide +kernel
theorem dR_keep_46 : decode prog_9_method_15_code 46 = .ok (.aload_n 0, 1) := by decide +kernel
theorem dR_keep_47 : decode prog_9_method_15_code 47 = .ok (.getfield 75, 3) := by decide +kernel
theorem dR_keep_50 : decode prog_9_method_15_code 50 = .ok (.bipush 8, 2) := by decide +kernel
theorem dR_keep_52 : decode prog_9_method_15_code 52 = .ok (.iload_n 1, 1) := by decide +kernel
theorem dR_keep_53 : decode prog_9_method_15_code 53 = .ok (.imul, 1) := by decide +kernel
theorem dR_keep_54 : decode prog_9_method_15_code 54 = .ok (.iload_n 2, 1) := by decide +kernel
theorem dR_keep_55 : decode prog_9_method_15_code 55 = .ok (.iadd, 1) := by decide +kernel
theorem dR_keep_56 : decode prog_9_method_15_code 56 = .ok (.aload_n 0, 1) := by decide +kernel
theorem dR_keep_57 : decode prog_9_method_15_code 57 = .ok (.getfield 13, 3) := by decide +kernel
theorem dR_keep_60 : decode prog_9_method_15_code 60 = .ok (.iload_n 2, 1) := by decide +kernel
theorem dR_keep_61 : decode prog_9_method_15_code 61 = .ok (.iaload, 1) := by decide +kernel
theorem dR_keep_62 : decode prog_9_method_15_code 62 = .ok (.iastore, 1) := by decide +kernel
theorem dR_keep_63 : decode prog_9_method_15_code 63 = .ok (.aload_n 0, 1) := by decide +kernel
theorem dR_keep_64 : decode prog_9_method_15_code 64 = .ok (.iload_n 1, 1) := by decide +kernel
theorem dR_keep_65 : decode prog_9_method_15_code 65 = .ok (.iload_n 2, 1) := by decide +kernel
theorem dR_keep_66 : decode prog_9_method_15_code 66 = .ok (.invokevirtual 141, 3) := by decide +kernel
theorem dR_keep_69 : decode prog_9_method_15_code 69 = .ok (.return_, 1) := by decide +kernel
theorem dR_mark_0 : decode prog_9_method_13_code 0 = .ok (.aload_n 0, 1) := by decide +kernel
theorem dR_mark_1 : decode prog_9_method_13_code 1 = .ok (.aload_n 0, 1) := by decide +kernel
theorem dR_mark_2 : decode prog_9_method_13_code 2 = .ok (.invokevirtual 130, 3) := by decide +kernel
theorem dR_mark_5 : decode prog_9_method_13_code 5 = .ok (.iconst 3, 1) := by decide +kernel
theorem dR_mark_6 : decode prog_9_method_13_code 6 = .ok (.if_icmp .eq 12, 3) := by decide +kernel
theorem dR_mark_9 : decode prog_9_method_13_code 9 = .ok (.aload_n 0, 1) := by decide +kernel
theorem dR_mark_10 : decode prog_9_method_13_code 10 = .ok (.getfield 106, 3) := by decide +kernel
theorem dR_mark_13 : decode prog_9_method_13_code 13 = .ok (.bipush 40, 2) := by decide +kernel
theorem dR_mark_15 : decode prog_9_method_13_code 15 = .ok (.if_icmp .ne 7, 3) := by decide +kernel
theorem dR_mark_18 : decode prog_9_method_13_code 18 = .ok (.iconst 1, 1) := by decide +kernel
theorem dR_mark_19 : decode prog_9_method_13_code 19 = .ok (.goto 4, 3) := by decide +kernel
theorem dR_mark_22 : decode prog_9_method_13_code 22 = .ok (.iconst 0, 1) := by decide +kernel
theorem dR_mark_23 : decode prog_9_method_13_code 23 = .ok (.putfield 100, 3) := by decide +kernel
theorem dR_mark_26 : decode prog_9_method_13_code 26 = .ok (.aload_n 0, 1) := by decide +kernel
theorem dR_mark_27 : decode prog_9_method_13_code 27 = .ok (.getfield 100, 3) := by decide +kernel
theorem dR_mark_30 : decode prog_9_method_13_code 30 = .ok (.ifCond .le 5, 3) := by decide +kernel
theorem dR_mark_33 : decode prog_9_method_13_code 33 = .ok (.iconst 0, 1) := by decide +kernel
theorem dR_mark_34 : decode prog_9_method_13_code 34 = .ok (.ireturn, 1) := by decide +kernel
theorem dR_mark_35 : decode prog_9_method_13_code 35 = .ok (.aload_n 0, 1) := by decide +kernel
theorem dR_mark_36 : decode prog_9_method_13_code 36 = .ok (.iconst 1, 1) := by decide +kernel
theorem dR_mark_37 : decode prog_9_method_13_code 37 = .ok (.putfield 113, 3) := by decide +kernel
theorem dR_mark_40 : decode prog_9_method_13_code 40 = .ok (.aload_n 0, 1) := by decide +kernel
theorem dR_mark_41 : decode prog_9_method_13_code 41 = .ok (.getfield 106, 3) := by decide +kernel
theorem dR_mark_44 : decode prog_9_method_13_code 44 = .ok (.istore_n 1, 1) := by decide +kernel
theorem dR_mark_45 : decode prog_9_method_13_code 45 = .ok (.aload_n 0, 1) := by decide +kernel
theorem dR_mark_46 : decode prog_9_method_13_code 46 = .ok (.dup, 1) := by decide +kernel
theorem dR_mark_47 : decode prog_9_method_13_code 47 = .ok (.getfield 106, 3) := by decide +kernel
theorem dR_mark_50 : decode prog_9_method_13_code 50 = .ok (.iconst 1, 1) := by decide +kernel
theorem dR_mark_51 : decode prog_9_method_13_code 51 = .ok (.iadd, 1) := by decide +kernel
theorem dR_mark_52 : decode prog_9_method_13_code 52 = .ok (.putfield 106, 3) := by decide +kernel
theorem dR_mark_55 : decode prog_9_method_13_code 55 = .ok (.iconst 0, 1) := by decide +kernel
theorem dR_mark_56 : decode prog_9_method_13_code 56 = .ok (.istore_n 2, 1) := by decide +kernel
theorem dR_mark_57 : decode prog_9_method_13_code 57 = .ok (.iload_n 2, 1) := by decide +kernel
theorem dR_mark_58 : decode prog_9_method_13_code 58 = .ok (.aload_n 0, 1) := by decide +kernel
theorem dR_mark_59 : decode prog_9_method_13_code 59 = .ok (.getfield 103, 3) := by decide +kernel
theorem dR_mark_62 : decode prog_9_method_13_code 62 = .ok (.if_icmp .ge 26, 3) := by decide +kernel
theorem dR_mark_65 : decode prog_9_method_13_code 65 = .ok (.aload_n 0, 1) := by decide +kernel
theorem dR_mark_66 : decode prog_9_method_13_code 66 = .ok (.getfield 60, 3) := by decide +kernel
theorem dR_mark_69 : decode prog_9_method_13_code 69 = .ok (.bipush 16, 2) := by decide +kernel
theorem dR_mark_71 : decode prog_9_method_13_code 71 = .ok (.iload_n 1, 1) := by decide +kernel
theorem dR_mark_72 : decode prog_9_method_13_code 72 = .ok (.imul, 1) := by decide +kernel
theorem dR_mark_73 : decode prog_9_method_13_code 73 = .ok (.iload_n 2, 1) := by decide +kernel
theorem dR_mark_74 : decode prog_9_method_13_code 74 = .ok (.iadd, 1) := by decide +kernel
theorem dR_mark_75 : decode prog_9_method_13_code 75 = .ok (.aload_n 0, 1) := by decide +kernel
theorem dR_mark_76 : decode prog_9_method_13_code 76 = .ok (.getfield 42, 3) := by decide +kernel
theorem dR_mark_79 : decode prog_9_method_13_code 79 = .ok (.iload_n 2, 1) := by decide +kernel
theorem dR_mark_80 : decode prog_9_method_13_code 80 = .ok (.iaload, 1) := by decide +kernel
theorem dR_mark_81 : decode prog_9_method_13_code 81 = .ok (.iastore, 1) := by decide +kernel
theorem dR_mark_82 : decode prog_9_method_13_code 82 = .ok (.iinc 2 1, 3) := by decide +kernel
theorem dR_mark_85 : decode prog_9_method_13_code 85 = .ok (.goto (-28), 3) := by decide +kernel
theorem dR_mark_88 : decode prog_9_method_13_code 88 = .ok (.iconst 0, 1) := by decide +kernel
theorem dR_mark_89 : decode prog_9_method_13_code 89 = .ok (.istore_n 2, 1) := by decide +kernel
theorem dR_mark_90 : decode prog_9_method_13_code 90 = .ok (.iload_n 2, 1) := by decide +kernel
theorem dR_mark_91 : decode prog_9_method_13_code 91 = .ok (.aload_n 0, 1) := by decide +kernel
theorem dR_mark_92 : decode prog_9_method_13_code 92 = .ok (.getfield 96, 3) := by decide +kernel
theorem dR_mark_95 : decode prog_9_method_13_code 95 = .ok (.if_icmp .ge 32, 3) := by decide +kernel
theorem dR_mark_98 : decode prog_9_method_13_code 98 = .ok (.aload_n 0, 1) := by decide +kernel
theorem dR_mark_99 : decode prog_9_method_13_code 99 = .ok (.getfield 17, 3) := by decide +kernel
theorem dR_mark_102 : decode prog_9_method_13_code 102 = .ok (.iload_n 2, 1) := by decide +kernel
theorem dR_mark_103 : decode prog_9_method_13_code 103 = .ok (.baload, 1) := by decide +kernel
theorem dR_mark_104 : decode prog_9_method_13_code 104 = .ok (.ifCond .ne 11, 3) := by decide +kernel
theorem dR_mark_107 : decode prog_9_method_13_code 107 = .ok (.aload_n 0, 1) := by decide +kernel
theorem dR_mark_108 : decode prog_9_method_13_code 108 = .ok (.iload_n 2, 1) := by decide +kernel
theorem dR_mark_109 : decode prog_9_method_13_code 109 = .ok (.invokevirtual 121, 3) := by decide +kernel
theorem dR_mark_112 : decode prog_9_method_13_code 112 = .ok (.ifCond .ne 9, 3) := by decide +kernel
theorem dR_mark_115 : decode prog_9_method_13_code 115 = .ok (.aload_n 0, 1) := by decide +kernel
theorem dR_mark_116 : decode prog_9_method_13_code 116 = .ok (.iload_n 1, 1) := by decide +kernel
theorem dR_mark_117 : decode prog_9_method_13_code 117 = .ok (.iload_n 2, 1) := by decide +kernel
theorem dR_mark_118 : decode prog_9_method_13_code 118 = .ok (.invokevirtual 134, 3) := by decide +kernel
theorem dR_mark_121 : decode prog_9_method_13_code 121 = .ok (.iinc 2 1, 3) := by decide +kernel
theorem dR_mark_124 : decode prog_9_method_13_code 124 = .ok (.goto (-34), 3) := by decide +kernel
theorem dR_mark_127 : decode prog_9_method_13_code 127 = .ok (.iload_n 1, 1) := by decide +kernel
theorem dR_mark_128 : decode prog_9_method_13_code 128 = .ok (.ireturn, 1) := by decide +kernel
theorem dR_count_0 : decode prog_9_method_27_code 0 = .ok (.iconst 0, 1) := by decide +kernel
theorem dR_count_1 : decode prog_9_method_27_code 1 = .ok (.istore_n 2, 1) := by decide +kernel
theorem dR_count_2 : decode prog_9_method_27_code 2 = .ok (.iconst 0, 1) := by decide +kernel
theorem dR_count_3 : decode prog_9_method_27_code 3 = .ok (.istore_n 3, 1) := by decide +kernel
theorem dR_count_4 : decode prog_9_method_27_code 4 = .ok (.iload_n 3, 1) := by decide +kernel
theorem dR_count_5 : decode prog_9_method_27_code 5 = .ok (.aload_n 0, 1) := by decide +kernel
theorem dR_count_6 : decode prog_9_method_27_code 6 = .ok (.getfield 96, 3) := by decide +kernel
theorem dR_count_9 : decode prog_9_method_27_code 9 = .ok (.if_icmp .ge 31, 3) := by decide +kernel
theorem dR_count_12 : decode prog_9_method_27_code 12 = .ok (.iload_n 2, 1) := by decide +kernel
theorem dR_count_13 : decode prog_9_method_27_code 13 = .ok (.aload_n 0, 1) := by decide +kernel
theorem dR_count_14 : decode prog_9_method_27_code 14 = .ok (.getfield 81, 3) := by decide +kernel
theorem dR_count_17 : decode prog_9_method_27_code 17 = .ok (.bipush 8, 2) := by decide +kernel
theorem dR_count_19 : decode prog_9_method_27_code 19 = .ok (.iload_n 1, 1) := by decide +kernel
theorem dR_count_20 : decode prog_9_method_27_code 20 = .ok (.imul, 1) := by decide +kernel
theorem dR_count_21 : decode prog_9_method_27_code 21 = .ok (.iload_n 3, 1) := by decide +kernel
theorem dR_count_22 : decode prog_9_method_27_code 22 = .ok (.iadd, 1) := by decide +kernel
theorem dR_count_23 : decode prog_9_method_27_code 23 = .ok (.baload, 1) := by decide +kernel
theorem dR_count_24 : decode prog_9_method_27_code 24 = .ok (.ifCond .eq 7, 3) := by decide +kernel
theorem dR_count_27 : decode prog_9_method_27_code 27 = .ok (.iconst 1, 1) := by decide +kernel
theorem dR_count_28 : decode prog_9_method_27_code 28 = .ok (.goto 4, 3) := by decide +kernel
theorem dR_count_31 : decode prog_9_method_27_code 31 = .ok (.iconst 0, 1) := by decide +kernel
theorem dR_count_32 : decode prog_9_method_27_code 32 = .ok (.iadd, 1) := by decide +kernel
theorem dR_count_33 : decode prog_9_method_27_code 33 = .ok (.istore_n 2, 1) := by decide +kernel
theorem dR_count_34 : decode prog_9_method_27_code 34 = .ok (.iinc 3 1, 3) := by decide +kernel
theorem dR_count_37 : decode prog_9_method_27_code 37 = .ok (.goto (-33), 3) := by decide +kernel
theorem dR_count_40 : decode prog_9_method_27_code 40 = .ok (.iload_n 2, 1) := by decide +kernel
theorem dR_count_41 : decode prog_9_method_27_code 41 = .ok (.ireturn, 1) := by decide +kernel
theorem dR_gone_0 : decode prog_9_method_16_code 0 = .ok (.aload_n 0, 1) := by decide +kernel
theorem dR_gone_1 : decode prog_9_method_16_code 1 = .ok (.getfield 36, 3) := by decide +kernel
theorem dR_gone_4 : decode prog_9_method_16_code 4 = .ok (.iload_n 1, 1) := by decide +kernel
theorem dR_gone_5 : decode prog_9_method_16_code 5 = .ok (.dup2, 1) := by decide +kernel
theorem dR_gone_6 : decode prog_9_method_16_code 6 = .ok (.iaload, 1) := by decide +kernel
theorem dR_gone_7 : decode prog_9_method_16_code 7 = .ok (.iconst 1, 1) := by decide +kernel
theorem dR_gone_8 : decode prog_9_method_16_code 8 = .ok (.isub, 1) := by decide +kernel
theorem dR_gone_9 : decode prog_9_method_16_code 9 = .ok (.iastore, 1) := by decide +kernel
theorem dR_gone_10 : decode prog_9_method_16_code 10 = .ok (.iload_n 2, 1) := by decide +kernel
theorem dR_gone_11 : decode prog_9_method_16_code 11 = .ok (.istore_n 3, 1) := by decide +kernel
theorem dR_gone_12 : decode prog_9_method_16_code 12 = .ok (.iload_n 3, 1) := by decide +kernel
theorem dR_gone_13 : decode prog_9_method_16_code 13 = .ok (.aload_n 0, 1) := by decide +kernel
theorem dR_gone_14 : decode prog_9_method_16_code 14 = .ok (.getfield 36, 3) := by decide +kernel
theorem dR_gone_17 : decode prog_9_method_16_code 17 = .ok (.iload_n 1, 1) := by decide +kernel
theorem dR_gone_18 : decode prog_9_method_16_code 18 = .ok (.iaload, 1) := by decide +kernel
theorem dR_gone_19 : decode prog_9_method_16_code 19 = .ok (.if_icmp .ge 57, 3) := by decide +kernel
theorem dR_gone_22 : decode prog_9_method_16_code 22 = .ok (.aload_n 0, 1) := by decide +kernel
theorem dR_gone_23 : decode prog_9_method_16_code 23 = .ok (.getfield 30, 3) := by decide +kernel
theorem dR_gone_26 : decode prog_9_method_16_code 26 = .ok (.bipush 16, 2) := by decide +kernel
theorem dR_gone_28 : decode prog_9_method_16_code 28 = .ok (.iload_n 1, 1) := by decide +kernel
theorem dR_gone_29 : decode prog_9_method_16_code 29 = .ok (.imul, 1) := by decide +kernel
theorem dR_gone_30 : decode prog_9_method_16_code 30 = .ok (.iload_n 3, 1) := by decide +kernel
theorem dR_gone_31 : decode prog_9_method_16_code 31 = .ok (.iadd, 1) := by decide +kernel
theorem dR_gone_32 : decode prog_9_method_16_code 32 = .ok (.aload_n 0, 1) := by decide +kernel
theorem dR_gone_33 : decode prog_9_method_16_code 33 = .ok (.getfield 30, 3) := by decide +kernel
theorem dR_gone_36 : decode prog_9_method_16_code 36 = .ok (.bipush 16, 2) := by decide +kernel
theorem dR_gone_38 : decode prog_9_method_16_code 38 = .ok (.iload_n 1, 1) := by decide +kernel
theorem dR_gone_39 : decode prog_9_method_16_code 39 = .ok (.imul, 1) := by decide +kernel
theorem dR_gone_40 : decode prog_9_method_16_code 40 = .ok (.iload_n 3, 1) := by decide +kernel
theorem dR_gone_41 : decode prog_9_method_16_code 41 = .ok (.iadd, 1) := by decide +kernel
theorem dR_gone_42 : decode prog_9_method_16_code 42 = .ok (.iconst 1, 1) := by decide +kernel
theorem dR_gone_43 : decode prog_9_method_16_code 43 = .ok (.iadd, 1) := by decide +kernel
theorem dR_gone_44 : decode prog_9_method_16_code 44 = .ok (.iaload, 1) := by decide +kernel
theorem dR_gone_45 : decode prog_9_method_16_code 45 = .ok (.iastore, 1) := by decide +kernel
theorem dR_gone_46 : decode prog_9_method_16_code 46 = .ok (.aload_n 0, 1) := by decide +kernel
theorem dR_gone_47 : decode prog_9_method_16_code 47 = .ok (.getfield 33, 3) := by decide +kernel
theorem dR_gone_50 : decode prog_9_method_16_code 50 = .ok (.bipush 16, 2) := by decide +kernel
theorem dR_gone_52 : decode prog_9_method_16_code 52 = .ok (.iload_n 1, 1) := by decide +kernel
theorem dR_gone_53 : decode prog_9_method_16_code 53 = .ok (.imul, 1) := by decide +kernel
theorem dR_gone_54 : decode prog_9_method_16_code 54 = .ok (.iload_n 3, 1) := by decide +kernel
theorem dR_gone_55 : decode prog_9_method_16_code 55 = .ok (.iadd, 1) := by decide +kernel
theorem dR_gone_56 : decode prog_9_method_16_code 56 = .ok (.aload_n 0, 1) := by decide +kernel
theorem dR_gone_57 : decode prog_9_method_16_code 57 = .ok (.getfield 33, 3) := by decide +kernel
theorem dR_gone_60 : decode prog_9_method_16_code 60 = .ok (.bipush 16, 2) := by decide +kernel
theorem dR_gone_62 : decode prog_9_method_16_code 62 = .ok (.iload_n 1, 1) := by decide +kernel
theorem dR_gone_63 : decode prog_9_method_16_code 63 = .ok (.imul, 1) := by decide +kernel
theorem dR_gone_64 : decode prog_9_method_16_code 64 = .ok (.iload_n 3, 1) := by decide +kernel
theorem dR_gone_65 : decode prog_9_method_16_code 65 = .ok (.iadd, 1) := by decide +kernel
theorem dR_gone_66 : decode prog_9_method_16_code 66 = .ok (.iconst 1, 1) := by decide +kernel
theorem dR_gone_67 : decode prog_9_method_16_code 67 = .ok (.iadd, 1) := by decide +kernel
theorem dR_gone_68 : decode prog_9_method_16_code 68 = .ok (.laload, 1) := by decide +kernel
theorem dR_gone_69 : decode prog_9_method_16_code 69 = .ok (.lastore, 1) := by decide +kernel
theorem dR_gone_70 : decode prog_9_method_16_code 70 = .ok (.iinc 3 1, 3) := by decide +kernel
theorem dR_gone_73 : decode prog_9_method_16_code 73 = .ok (.goto (-61), 3) := by decide +kernel
theorem dR_gone_76 : decode prog_9_method_16_code 76 = .ok (.return_, 1) := by decide +kernel
theorem dR_close_0 : decode prog_9_method_17_code 0 = .ok (.aload_n 0, 1) := by decide +kernel
theorem dR_close_1 : decode prog_9_method_17_code 1 = .ok (.getfield 57, 3) := by decide +kernel
theorem dR_close_4 : decode prog_9_method_17_code 4 = .ok (.iload_n 1, 1) := by decide +kernel
theorem dR_close_5 : decode prog_9_method_17_code 5 = .ok (.iload_n 2, 1) := by decide +kernel
theorem dR_close_6 : decode prog_9_method_17_code 6 = .ok (.iastore, 1) := by decide +kernel
theorem dR_close_7 : decode prog_9_method_17_code 7 = .ok (.iconst 0, 1) := by decide +kernel
theorem dR_close_8 : decode prog_9_method_17_code 8 = .ok (.istore_n 3, 1) := by decide +kernel
theorem dR_close_9 : decode prog_9_method_17_code 9 = .ok (.iload_n 3, 1) := by decide +kernel
theorem dR_close_10 : decode prog_9_method_17_code 10 = .ok (.aload_n 0, 1) := by decide +kernel
theorem dR_close_11 : decode prog_9_method_17_code 11 = .ok (.getfield 103, 3) := by decide +kernel
theorem dR_close_14 : decode prog_9_method_17_code 14 = .ok (.if_icmp .ge 88, 3) := by decide +kernel
theorem dR_close_17 : decode prog_9_method_17_code 17 = .ok (.aload_n 0, 1) := by decide +kernel
theorem dR_close_18 : decode prog_9_method_17_code 18 = .ok (.getfield 54, 3) := by decide +kernel
theorem dR_close_21 : decode prog_9_method_17_code 21 = .ok (.iload_n 3, 1) := by decide +kernel
theorem dR_close_22 : decode prog_9_method_17_code 22 = .ok (.iaload, 1) := by decide +kernel
theorem dR_close_23 : decode prog_9_method_17_code 23 = .ok (.iload_n 1, 1) := by decide +kernel
theorem dR_close_24 : decode prog_9_method_17_code 24 = .ok (.if_icmp .ne 10, 3) := by decide +kernel
theorem dR_close_27 : decode prog_9_method_17_code 27 = .ok (.aload_n 0, 1) := by decide +kernel
theorem dR_close_28 : decode prog_9_method_17_code 28 = .ok (.getfield 54, 3) := by decide +kernel
theorem dR_close_31 : decode prog_9_method_17_code 31 = .ok (.iload_n 3, 1) := by decide +kernel
theorem dR_close_32 : decode prog_9_method_17_code 32 = .ok (.iconst (-1), 1) := by decide +kernel
theorem dR_close_33 : decode prog_9_method_17_code 33 = .ok (.iastore, 1) := by decide +kernel
theorem dR_close_34 : decode prog_9_method_17_code 34 = .ok (.aload_n 0, 1) := by decide +kernel
theorem dR_close_35 : decode prog_9_method_17_code 35 = .ok (.getfield 36, 3) := by decide +kernel
theorem dR_close_38 : decode prog_9_method_17_code 38 = .ok (.iload_n 3, 1) := by decide +kernel
theorem dR_close_39 : decode prog_9_method_17_code 39 = .ok (.iaload, 1) := by decide +kernel
theorem dR_close_40 : decode prog_9_method_17_code 40 = .ok (.iconst 1, 1) := by decide +kernel
theorem dR_close_41 : decode prog_9_method_17_code 41 = .ok (.isub, 1) := by decide +kernel
theorem dR_close_42 : decode prog_9_method_17_code 42 = .ok (.istore 4, 2) := by decide +kernel
theorem dR_close_44 : decode prog_9_method_17_code 44 = .ok (.iload 4, 2) := by decide +kernel
theorem dR_close_46 : decode prog_9_method_17_code 46 = .ok (.ifCond .lt 50, 3) := by decide +kernel
theorem dR_close_49 : decode prog_9_method_17_code 49 = .ok (.aload_n 0, 1) := by decide +kernel
theorem dR_close_50 : decode prog_9_method_17_code 50 = .ok (.getfield 30, 3) := by decide +kernel
theorem dR_close_53 : decode prog_9_method_17_code 53 = .ok (.bipush 16, 2) := by decide +kernel
theorem dR_close_55 : decode prog_9_method_17_code 55 = .ok (.iload_n 3, 1) := by decide +kernel
theorem dR_close_56 : decode prog_9_method_17_code 56 = .ok (.imul, 1) := by decide +kernel
theorem dR_close_57 : decode prog_9_method_17_code 57 = .ok (.iload 4, 2) := by decide +kernel
theorem dR_close_59 : decode prog_9_method_17_code 59 = .ok (.iadd, 1) := by decide +kernel
theorem dR_close_60 : decode prog_9_method_17_code 60 = .ok (.iaload, 1) := by decide +kernel
theorem dR_close_61 : decode prog_9_method_17_code 61 = .ok (.iconst 1, 1) := by decide +kernel
theorem dR_close_62 : decode prog_9_method_17_code 62 = .ok (.if_icmp .ne 28, 3) := by decide +kernel
theorem dR_close_65 : decode prog_9_method_17_code 65 = .ok (.aload_n 0, 1) := by decide +kernel
theorem dR_close_66 : decode prog_9_method_17_code 66 = .ok (.getfield 33, 3) := by decide +kernel
theorem dR_close_69 : decode prog_9_method_17_code 69 = .ok (.bipush 16, 2) := by decide +kernel
theorem dR_close_71 : decode prog_9_method_17_code 71 = .ok (.iload_n 3, 1) := by decide +kernel
theorem dR_close_72 : decode prog_9_method_17_code 72 = .ok (.imul, 1) := by decide +kernel
theorem dR_close_73 : decode prog_9_method_17_code 73 = .ok (.iload 4, 2) := by decide +kernel
theorem dR_close_75 : decode prog_9_method_17_code 75 = .ok (.iadd, 1) := by decide +kernel
theorem dR_close_76 : decode prog_9_method_17_code 76 = .ok (.laload, 1) := by decide +kernel
theorem dR_close_77 : decode prog_9_method_17_code 77 = .ok (.iload_n 1, 1) := by decide +kernel
theorem dR_close_78 : decode prog_9_method_17_code 78 = .ok (.i2l, 1) := by decide +kernel
theorem dR_close_79 : decode prog_9_method_17_code 79 = .ok (.lcmp, 1) := by decide +kernel
theorem dR_close_80 : decode prog_9_method_17_code 80 = .ok (.ifCond .ne 10, 3) := by decide +kernel
theorem dR_close_83 : decode prog_9_method_17_code 83 = .ok (.aload_n 0, 1) := by decide +kernel
theorem dR_close_84 : decode prog_9_method_17_code 84 = .ok (.iload_n 3, 1) := by decide +kernel
theorem dR_close_85 : decode prog_9_method_17_code 85 = .ok (.iload 4, 2) := by decide +kernel
theorem dR_close_87 : decode prog_9_method_17_code 87 = .ok (.invokevirtual 144, 3) := by decide +kernel
theorem dR_close_90 : decode prog_9_method_17_code 90 = .ok (.iinc 4 (-1), 3) := by decide +kernel
theorem dR_close_93 : decode prog_9_method_17_code 93 = .ok (.goto (-49), 3) := by decide +kernel
theorem dR_close_96 : decode prog_9_method_17_code 96 = .ok (.iinc 3 1, 3) := by decide +kernel
theorem dR_close_99 : decode prog_9_method_17_code 99 = .ok (.goto (-90), 3) := by decide +kernel
theorem dR_close_102 : decode prog_9_method_17_code 102 = .ok (.return_, 1) := by decide +kernel
theorem dR_keeper_0 : decode prog_9_method_23_code 0 = .ok (.aload_n 0, 1) := by decide +kernel
theorem dR_keeper_1 : decode prog_9_method_23_code 1 = .ok (.getfield 138, 3) := by decide +kernel
theorem dR_keeper_4 : decode prog_9_method_23_code 4 = .ok (.ifCond .ne 5, 3) := by decide +kernel
theorem dR_keeper_7 : decode prog_9_method_23_code 7 = .ok (.iconst 0, 1) := by decide +kernel
theorem dR_keeper_8 : decode prog_9_method_23_code 8 = .ok (.ireturn, 1) := by decide +kernel
theorem dR_keeper_9 : decode prog_9_method_23_code 9 = .ok (.aload_n 0, 1) := by decide +kernel
theorem dR_keeper_10 : decode prog_9_method_23_code 10 = .ok (.getfield 84, 3) := by decide +kernel
theorem dR_keeper_13 : decode prog_9_method_23_code 13 = .ok (.iconst 0, 1) := by decide +kernel
theorem dR_keeper_14 : decode prog_9_method_23_code 14 = .ok (.iaload, 1) := by decide +kernel
theorem dR_keeper_15 : decode prog_9_method_23_code 15 = .ok (.istore_n 1, 1) := by decide +kernel
theorem dR_keeper_16 : decode prog_9_method_23_code 16 = .ok (.aload_n 0, 1) := by decide +kernel
