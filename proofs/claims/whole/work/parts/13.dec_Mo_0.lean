theorem d_Mo_init_0 : decode prog_8_method_1_code 0 = .ok (.aload_n 0, 1) := by decide +kernel
theorem d_Mo_init_1 : decode prog_8_method_1_code 1 = .ok (.invokespecial 1, 3) := by decide +kernel
theorem d_Mo_init_4 : decode prog_8_method_1_code 4 = .ok (.aload_n 0, 1) := by decide +kernel
theorem d_Mo_init_5 : decode prog_8_method_1_code 5 = .ok (.iconst 1, 1) := by decide +kernel
theorem d_Mo_init_6 : decode prog_8_method_1_code 6 = .ok (.putfield 7, 3) := by decide +kernel
theorem d_Mo_init_9 : decode prog_8_method_1_code 9 = .ok (.aload_n 0, 1) := by decide +kernel
theorem d_Mo_init_10 : decode prog_8_method_1_code 10 = .ok (.bipush 6, 2) := by decide +kernel
theorem d_Mo_init_12 : decode prog_8_method_1_code 12 = .ok (.newarray .int, 2) := by decide +kernel
theorem d_Mo_init_14 : decode prog_8_method_1_code 14 = .ok (.putfield 13, 3) := by decide +kernel
theorem d_Mo_init_17 : decode prog_8_method_1_code 17 = .ok (.aload_n 0, 1) := by decide +kernel
theorem d_Mo_init_18 : decode prog_8_method_1_code 18 = .ok (.sipush 360, 3) := by decide +kernel
theorem d_Mo_init_21 : decode prog_8_method_1_code 21 = .ok (.newarray .int, 2) := by decide +kernel
theorem d_Mo_init_23 : decode prog_8_method_1_code 23 = .ok (.putfield 17, 3) := by decide +kernel
theorem d_Mo_init_26 : decode prog_8_method_1_code 26 = .ok (.aload_n 0, 1) := by decide +kernel
theorem d_Mo_init_27 : decode prog_8_method_1_code 27 = .ok (.sipush 360, 3) := by decide +kernel
theorem d_Mo_init_30 : decode prog_8_method_1_code 30 = .ok (.newarray .int, 2) := by decide +kernel
theorem d_Mo_init_32 : decode prog_8_method_1_code 32 = .ok (.putfield 20, 3) := by decide +kernel
theorem d_Mo_init_35 : decode prog_8_method_1_code 35 = .ok (.aload_n 0, 1) := by decide +kernel
theorem d_Mo_init_36 : decode prog_8_method_1_code 36 = .ok (.sipush 360, 3) := by decide +kernel
theorem d_Mo_init_39 : decode prog_8_method_1_code 39 = .ok (.newarray .int, 2) := by decide +kernel
theorem d_Mo_init_41 : decode prog_8_method_1_code 41 = .ok (.putfield 23, 3) := by decide +kernel
theorem d_Mo_init_44 : decode prog_8_method_1_code 44 = .ok (.aload_n 0, 1) := by decide +kernel
theorem d_Mo_init_45 : decode prog_8_method_1_code 45 = .ok (.bipush 6, 2) := by decide +kernel
theorem d_Mo_init_47 : decode prog_8_method_1_code 47 = .ok (.newarray .int, 2) := by decide +kernel
theorem d_Mo_init_49 : decode prog_8_method_1_code 49 = .ok (.putfield 26, 3) := by decide +kernel
theorem d_Mo_init_52 : decode prog_8_method_1_code 52 = .ok (.aload_n 0, 1) := by decide +kernel
theorem d_Mo_init_53 : decode prog_8_method_1_code 53 = .ok (.bipush 120, 2) := by decide +kernel
theorem d_Mo_init_55 : decode prog_8_method_1_code 55 = .ok (.newarray .int, 2) := by decide +kernel
theorem d_Mo_init_57 : decode prog_8_method_1_code 57 = .ok (.putfield 29, 3) := by decide +kernel
theorem d_Mo_init_60 : decode prog_8_method_1_code 60 = .ok (.aload_n 0, 1) := by decide +kernel
theorem d_Mo_init_61 : decode prog_8_method_1_code 61 = .ok (.bipush 120, 2) := by decide +kernel
theorem d_Mo_init_63 : decode prog_8_method_1_code 63 = .ok (.newarray .int, 2) := by decide +kernel
theorem d_Mo_init_65 : decode prog_8_method_1_code 65 = .ok (.putfield 32, 3) := by decide +kernel
theorem d_Mo_init_68 : decode prog_8_method_1_code 68 = .ok (.aload_n 0, 1) := by decide +kernel
theorem d_Mo_init_69 : decode prog_8_method_1_code 69 = .ok (.bipush 120, 2) := by decide +kernel
theorem d_Mo_init_71 : decode prog_8_method_1_code 71 = .ok (.newarray .int, 2) := by decide +kernel
theorem d_Mo_init_73 : decode prog_8_method_1_code 73 = .ok (.putfield 35, 3) := by decide +kernel
theorem d_Mo_init_76 : decode prog_8_method_1_code 76 = .ok (.aload_n 0, 1) := by decide +kernel
theorem d_Mo_init_77 : decode prog_8_method_1_code 77 = .ok (.sipush 486, 3) := by decide +kernel
theorem d_Mo_init_80 : decode prog_8_method_1_code 80 = .ok (.newarray .boolean, 2) := by decide +kernel
theorem d_Mo_init_82 : decode prog_8_method_1_code 82 = .ok (.putfield 38, 3) := by decide +kernel
theorem d_Mo_init_85 : decode prog_8_method_1_code 85 = .ok (.aload_n 0, 1) := by decide +kernel
theorem d_Mo_init_86 : decode prog_8_method_1_code 86 = .ok (.bipush 8, 2) := by decide +kernel
theorem d_Mo_init_88 : decode prog_8_method_1_code 88 = .ok (.newarray .int, 2) := by decide +kernel
theorem d_Mo_init_90 : decode prog_8_method_1_code 90 = .ok (.putfield 42, 3) := by decide +kernel
theorem d_Mo_init_93 : decode prog_8_method_1_code 93 = .ok (.aload_n 0, 1) := by decide +kernel
theorem d_Mo_init_94 : decode prog_8_method_1_code 94 = .ok (.bipush 8, 2) := by decide +kernel
theorem d_Mo_init_96 : decode prog_8_method_1_code 96 = .ok (.newarray .int, 2) := by decide +kernel
theorem d_Mo_init_98 : decode prog_8_method_1_code 98 = .ok (.putfield 45, 3) := by decide +kernel
theorem d_Mo_init_101 : decode prog_8_method_1_code 101 = .ok (.aload_n 0, 1) := by decide +kernel
theorem d_Mo_init_102 : decode prog_8_method_1_code 102 = .ok (.bipush 8, 2) := by decide +kernel
theorem d_Mo_init_104 : decode prog_8_method_1_code 104 = .ok (.newarray .int, 2) := by decide +kernel
theorem d_Mo_init_106 : decode prog_8_method_1_code 106 = .ok (.putfield 48, 3) := by decide +kernel
theorem d_Mo_init_109 : decode prog_8_method_1_code 109 = .ok (.aload_n 0, 1) := by decide +kernel
theorem d_Mo_init_110 : decode prog_8_method_1_code 110 = .ok (.bipush 8, 2) := by decide +kernel
theorem d_Mo_init_112 : decode prog_8_method_1_code 112 = .ok (.newarray .int, 2) := by decide +kernel
theorem d_Mo_init_114 : decode prog_8_method_1_code 114 = .ok (.putfield 51, 3) := by decide +kernel
theorem d_Mo_init_117 : decode prog_8_method_1_code 117 = .ok (.aload_n 0, 1) := by decide +kernel
theorem d_Mo_init_118 : decode prog_8_method_1_code 118 = .ok (.bipush 8, 2) := by decide +kernel
theorem d_Mo_init_120 : decode prog_8_method_1_code 120 = .ok (.newarray .long, 2) := by decide +kernel
theorem d_Mo_init_122 : decode prog_8_method_1_code 122 = .ok (.putfield 54, 3) := by decide +kernel
theorem d_Mo_init_125 : decode prog_8_method_1_code 125 = .ok (.aload_n 0, 1) := by decide +kernel
theorem d_Mo_init_126 : decode prog_8_method_1_code 126 = .ok (.bipush 64, 2) := by decide +kernel
theorem d_Mo_init_128 : decode prog_8_method_1_code 128 = .ok (.newarray .boolean, 2) := by decide +kernel
theorem d_Mo_init_130 : decode prog_8_method_1_code 130 = .ok (.putfield 58, 3) := by decide +kernel
theorem d_Mo_init_133 : decode prog_8_method_1_code 133 = .ok (.aload_n 0, 1) := by decide +kernel
theorem d_Mo_init_134 : decode prog_8_method_1_code 134 = .ok (.bipush 8, 2) := by decide +kernel
theorem d_Mo_init_136 : decode prog_8_method_1_code 136 = .ok (.newarray .long, 2) := by decide +kernel
theorem d_Mo_init_138 : decode prog_8_method_1_code 138 = .ok (.putfield 61, 3) := by decide +kernel
theorem d_Mo_init_141 : decode prog_8_method_1_code 141 = .ok (.aload_n 0, 1) := by decide +kernel
theorem d_Mo_init_142 : decode prog_8_method_1_code 142 = .ok (.bipush 56, 2) := by decide +kernel
theorem d_Mo_init_144 : decode prog_8_method_1_code 144 = .ok (.newarray .long, 2) := by decide +kernel
theorem d_Mo_init_146 : decode prog_8_method_1_code 146 = .ok (.putfield 64, 3) := by decide +kernel
theorem d_Mo_init_149 : decode prog_8_method_1_code 149 = .ok (.aload_n 0, 1) := by decide +kernel
theorem d_Mo_init_150 : decode prog_8_method_1_code 150 = .ok (.bipush 8, 2) := by decide +kernel
theorem d_Mo_init_152 : decode prog_8_method_1_code 152 = .ok (.newarray .long, 2) := by decide +kernel
theorem d_Mo_init_154 : decode prog_8_method_1_code 154 = .ok (.putfield 67, 3) := by decide +kernel
theorem d_Mo_init_157 : decode prog_8_method_1_code 157 = .ok (.aload_n 0, 1) := by decide +kernel
theorem d_Mo_init_158 : decode prog_8_method_1_code 158 = .ok (.bipush 8, 2) := by decide +kernel
theorem d_Mo_init_160 : decode prog_8_method_1_code 160 = .ok (.newarray .long, 2) := by decide +kernel
theorem d_Mo_init_162 : decode prog_8_method_1_code 162 = .ok (.putfield 70, 3) := by decide +kernel
theorem d_Mo_init_165 : decode prog_8_method_1_code 165 = .ok (.aload_n 0, 1) := by decide +kernel
theorem d_Mo_init_166 : decode prog_8_method_1_code 166 = .ok (.sipush 486, 3) := by decide +kernel
theorem d_Mo_init_169 : decode prog_8_method_1_code 169 = .ok (.newarray .int, 2) := by decide +kernel
theorem d_Mo_init_171 : decode prog_8_method_1_code 171 = .ok (.putfield 73, 3) := by decide +kernel
theorem d_Mo_init_174 : decode prog_8_method_1_code 174 = .ok (.aload_n 0, 1) := by decide +kernel
theorem d_Mo_init_175 : decode prog_8_method_1_code 175 = .ok (.sipush 486, 3) := by decide +kernel
theorem d_Mo_init_178 : decode prog_8_method_1_code 178 = .ok (.newarray .int, 2) := by decide +kernel
theorem d_Mo_init_180 : decode prog_8_method_1_code 180 = .ok (.putfield 76, 3) := by decide +kernel
theorem d_Mo_init_183 : decode prog_8_method_1_code 183 = .ok (.aload_n 0, 1) := by decide +kernel
theorem d_Mo_init_184 : decode prog_8_method_1_code 184 = .ok (.sipush 486, 3) := by decide +kernel
theorem d_Mo_init_187 : decode prog_8_method_1_code 187 = .ok (.newarray .int, 2) := by decide +kernel
theorem d_Mo_init_189 : decode prog_8_method_1_code 189 = .ok (.putfield 79, 3) := by decide +kernel
theorem d_Mo_init_192 : decode prog_8_method_1_code 192 = .ok (.aload_n 0, 1) := by decide +kernel
theorem d_Mo_init_193 : decode prog_8_method_1_code 193 = .ok (.sipush 486, 3) := by decide +kernel
theorem d_Mo_init_196 : decode prog_8_method_1_code 196 = .ok (.newarray .int, 2) := by decide +kernel
theorem d_Mo_init_198 : decode prog_8_method_1_code 198 = .ok (.putfield 82, 3) := by decide +kernel
theorem d_Mo_init_201 : decode prog_8_method_1_code 201 = .ok (.aload_n 0, 1) := by decide +kernel
theorem d_Mo_init_202 : decode prog_8_method_1_code 202 = .ok (.sipush 486, 3) := by decide +kernel
theorem d_Mo_init_205 : decode prog_8_method_1_code 205 = .ok (.newarray .int, 2) := by decide +kernel
theorem d_Mo_init_207 : decode prog_8_method_1_code 207 = .ok (.putfield 85, 3) := by decide +kernel
theorem d_Mo_init_210 : decode prog_8_method_1_code 210 = .ok (.aload_n 0, 1) := by decide +kernel
theorem d_Mo_init_211 : decode prog_8_method_1_code 211 = .ok (.sipush 486, 3) := by decide +kernel
theorem d_Mo_init_214 : decode prog_8_method_1_code 214 = .ok (.newarray .int, 2) := by decide +kernel
theorem d_Mo_init_216 : decode prog_8_method_1_code 216 = .ok (.putfield 88, 3) := by decide +kernel
theorem d_Mo_init_219 : decode prog_8_method_1_code 219 = .ok (.aload_n 0, 1) := by decide +kernel
theorem d_Mo_init_220 : decode prog_8_method_1_code 220 = .ok (.bipush 81, 2) := by decide +kernel
theorem d_Mo_init_222 : decode prog_8_method_1_code 222 = .ok (.newarray .long, 2) := by decide +kernel
theorem d_Mo_init_224 : decode prog_8_method_1_code 224 = .ok (.putfield 91, 3) := by decide +kernel
theorem d_Mo_init_227 : decode prog_8_method_1_code 227 = .ok (.aload_n 0, 1) := by decide +kernel
theorem d_Mo_init_228 : decode prog_8_method_1_code 228 = .ok (.bipush 81, 2) := by decide +kernel
theorem d_Mo_init_230 : decode prog_8_method_1_code 230 = .ok (.newarray .int, 2) := by decide +kernel
theorem d_Mo_init_232 : decode prog_8_method_1_code 232 = .ok (.putfield 94, 3) := by decide +kernel
theorem d_Mo_init_235 : decode prog_8_method_1_code 235 = .ok (.aload_n 0, 1) := by decide +kernel
theorem d_Mo_init_236 : decode prog_8_method_1_code 236 = .ok (.iload_n 1, 1) := by decide +kernel
theorem d_Mo_init_237 : decode prog_8_method_1_code 237 = .ok (.iconst 1, 1) := by decide +kernel
theorem d_Mo_init_238 : decode prog_8_method_1_code 238 = .ok (.if_icmp .ge 7, 3) := by decide +kernel
theorem d_Mo_init_241 : decode prog_8_method_1_code 241 = .ok (.iconst 1, 1) := by decide +kernel
theorem d_Mo_init_242 : decode prog_8_method_1_code 242 = .ok (.goto 15, 3) := by decide +kernel
theorem d_Mo_init_245 : decode prog_8_method_1_code 245 = .ok (.iload_n 1, 1) := by decide +kernel
theorem d_Mo_init_246 : decode prog_8_method_1_code 246 = .ok (.ldc 97, 2) := by decide +kernel
theorem d_Mo_init_248 : decode prog_8_method_1_code 248 = .ok (.if_icmp .le 8, 3) := by decide +kernel
theorem d_Mo_init_251 : decode prog_8_method_1_code 251 = .ok (.ldc 97, 2) := by decide +kernel
theorem d_Mo_init_253 : decode prog_8_method_1_code 253 = .ok (.goto 4, 3) := by decide +kernel
theorem d_Mo_init_256 : decode prog_8_method_1_code 256 = .ok (.iload_n 1, 1) := by decide +kernel
theorem d_Mo_init_257 : decode prog_8_method_1_code 257 = .ok (.putfield 98, 3) := by decide +kernel
theorem d_Mo_init_260 : decode prog_8_method_1_code 260 = .ok (.iconst 0, 1) := by decide +kernel
theorem d_Mo_init_261 : decode prog_8_method_1_code 261 = .ok (.istore_n 2, 1) := by decide +kernel
theorem d_Mo_init_262 : decode prog_8_method_1_code 262 = .ok (.iload_n 2, 1) := by decide +kernel
theorem d_Mo_init_263 : decode prog_8_method_1_code 263 = .ok (.bipush 8, 2) := by decide +kernel
theorem d_Mo_init_265 : decode prog_8_method_1_code 265 = .ok (.if_icmp .ge 18, 3) := by decide +kernel
theorem d_Mo_init_268 : decode prog_8_method_1_code 268 = .ok (.aload_n 0, 1) := by decide +kernel
theorem d_Mo_init_269 : decode prog_8_method_1_code 269 = .ok (.getfield 61, 3) := by decide +kernel
theorem d_Mo_init_272 : decode prog_8_method_1_code 272 = .ok (.iload_n 2, 1) := by decide +kernel
theorem d_Mo_init_273 : decode prog_8_method_1_code 273 = .ok (.ldc2_w 101, 3) := by decide +kernel
theorem d_Mo_init_276 : decode prog_8_method_1_code 276 = .ok (.lastore, 1) := by decide +kernel
theorem d_Mo_init_277 : decode prog_8_method_1_code 277 = .ok (.iinc 2 1, 3) := by decide +kernel
theorem d_Mo_init_280 : decode prog_8_method_1_code 280 = .ok (.goto (-18), 3) := by decide +kernel
theorem d_Mo_init_283 : decode prog_8_method_1_code 283 = .ok (.return_, 1) := by decide +kernel
theorem d_Mo_thrown_0 : decode prog_8_method_2_code 0 = .ok (.aload_n 0, 1) := by decide +kernel
theorem d_Mo_thrown_1 : decode prog_8_method_2_code 1 = .ok (.getfield 103, 3) := by decide +kernel
theorem d_Mo_thrown_4 : decode prog_8_method_2_code 4 = .ok (.ireturn, 1) := by decide +kernel
theorem d_Mo_isIn_0 : decode prog_8_method_3_code 0 = .ok (.lload_n 0, 1) := by decide +kernel
theorem d_Mo_isIn_1 : decode prog_8_method_3_code 1 = .ok (.lload_n 2, 1) := by decide +kernel
theorem d_Mo_isIn_2 : decode prog_8_method_3_code 2 = .ok (.lcmp, 1) := by decide +kernel
theorem d_Mo_isIn_3 : decode prog_8_method_3_code 3 = .ok (.ifCond .lt 14, 3) := by decide +kernel
theorem d_Mo_isIn_6 : decode prog_8_method_3_code 6 = .ok (.lload_n 0, 1) := by decide +kernel
theorem d_Mo_isIn_7 : decode prog_8_method_3_code 7 = .ok (.lload 4, 2) := by decide +kernel
theorem d_Mo_isIn_9 : decode prog_8_method_3_code 9 = .ok (.lcmp, 1) := by decide +kernel
theorem d_Mo_isIn_10 : decode prog_8_method_3_code 10 = .ok (.ifCond .gt 7, 3) := by decide +kernel
theorem d_Mo_isIn_13 : decode prog_8_method_3_code 13 = .ok (.iconst 1, 1) := by decide +kernel
theorem d_Mo_isIn_14 : decode prog_8_method_3_code 14 = .ok (.goto 4, 3) := by decide +kernel
theorem d_Mo_isIn_17 : decode prog_8_method_3_code 17 = .ok (.iconst 0, 1) := by decide +kernel
theorem d_Mo_isIn_18 : decode prog_8_method_3_code 18 = .ok (.ireturn, 1) := by decide +kernel
theorem d_Mo_told_0 : decode prog_8_method_4_code 0 = .ok (.aload_n 0, 1) := by decide +kernel
theorem d_Mo_told_1 : decode prog_8_method_4_code 1 = .ok (.aload_n 0, 1) := by decide +kernel
theorem d_Mo_told_2 : decode prog_8_method_4_code 2 = .ok (.getfield 106, 3) := by decide +kernel
theorem d_Mo_told_5 : decode prog_8_method_4_code 5 = .ok (.ifCond .eq 11, 3) := by decide +kernel
theorem d_Mo_told_8 : decode prog_8_method_4_code 8 = .ok (.iload_n 1, 1) := by decide +kernel
theorem d_Mo_told_9 : decode prog_8_method_4_code 9 = .ok (.ifCond .ne 7, 3) := by decide +kernel
theorem d_Mo_told_12 : decode prog_8_method_4_code 12 = .ok (.iconst 1, 1) := by decide +kernel
theorem d_Mo_told_13 : decode prog_8_method_4_code 13 = .ok (.goto 4, 3) := by decide +kernel
theorem d_Mo_told_16 : decode prog_8_method_4_code 16 = .ok (.iconst 0, 1) := by decide +kernel
theorem d_Mo_told_17 : decode prog_8_method_4_code 17 = .ok (.putfield 106, 3) := by decide +kernel
theorem d_Mo_told_20 : decode prog_8_method_4_code 20 = .ok (.iload_n 1, 1) := by decide +kernel
theorem d_Mo_told_21 : decode prog_8_method_4_code 21 = .ok (.ireturn, 1) := by decide +kernel
theorem d_Mo_stepsOf_0 : decode prog_8_method_5_code 0 = .ok (.aload_n 0, 1) := by decide +kernel
theorem d_Mo_stepsOf_1 : decode prog_8_method_5_code 1 = .ok (.getfield 13, 3) := by decide +kernel
theorem d_Mo_stepsOf_4 : decode prog_8_method_5_code 4 = .ok (.iload_n 1, 1) := by decide +kernel
theorem d_Mo_stepsOf_5 : decode prog_8_method_5_code 5 = .ok (.iaload, 1) := by decide +kernel
theorem d_Mo_stepsOf_6 : decode prog_8_method_5_code 6 = .ok (.ifCond .ne 7, 3) := by decide +kernel
theorem d_Mo_stepsOf_9 : decode prog_8_method_5_code 9 = .ok (.iconst 0, 1) := by decide +kernel
theorem d_Mo_stepsOf_10 : decode prog_8_method_5_code 10 = .ok (.goto 26, 3) := by decide +kernel
theorem d_Mo_stepsOf_13 : decode prog_8_method_5_code 13 = .ok (.aload_n 0, 1) := by decide +kernel
theorem d_Mo_stepsOf_14 : decode prog_8_method_5_code 14 = .ok (.getfield 17, 3) := by decide +kernel
theorem d_Mo_stepsOf_17 : decode prog_8_method_5_code 17 = .ok (.bipush 60, 2) := by decide +kernel
theorem d_Mo_stepsOf_19 : decode prog_8_method_5_code 19 = .ok (.iload_n 1, 1) := by decide +kernel
theorem d_Mo_stepsOf_20 : decode prog_8_method_5_code 20 = .ok (.imul, 1) := by decide +kernel
theorem d_Mo_stepsOf_21 : decode prog_8_method_5_code 21 = .ok (.aload_n 0, 1) := by decide +kernel
theorem d_Mo_stepsOf_22 : decode prog_8_method_5_code 22 = .ok (.getfield 13, 3) := by decide +kernel
theorem d_Mo_stepsOf_25 : decode prog_8_method_5_code 25 = .ok (.iload_n 1, 1) := by decide +kernel
theorem d_Mo_stepsOf_26 : decode prog_8_method_5_code 26 = .ok (.iaload, 1) := by decide +kernel
theorem d_Mo_stepsOf_27 : decode prog_8_method_5_code 27 = .ok (.iadd, 1) := by decide +kernel
theorem d_Mo_stepsOf_28 : decode prog_8_method_5_code 28 = .ok (.iconst 1, 1) := by decide +kernel
theorem d_Mo_stepsOf_29 : decode prog_8_method_5_code 29 = .ok (.isub, 1) := by decide +kernel
theorem d_Mo_stepsOf_30 : decode prog_8_method_5_code 30 = .ok (.iaload, 1) := by decide +kernel
theorem d_Mo_stepsOf_31 : decode prog_8_method_5_code 31 = .ok (.aload_n 0, 1) := by decide +kernel
theorem d_Mo_stepsOf_32 : decode prog_8_method_5_code 32 = .ok (.getfield 98, 3) := by decide +kernel
theorem d_Mo_stepsOf_35 : decode prog_8_method_5_code 35 = .ok (.idiv, 1) := by decide +kernel
theorem d_Mo_stepsOf_36 : decode prog_8_method_5_code 36 = .ok (.ireturn, 1) := by decide +kernel
theorem d_Mo_stem_0 : decode prog_8_method_6_code 0 = .ok (.aload_n 0, 1) := by decide +kernel
theorem d_Mo_stem_1 : decode prog_8_method_6_code 1 = .ok (.getfield 7, 3) := by decide +kernel
theorem d_Mo_stem_4 : decode prog_8_method_6_code 4 = .ok (.iconst 1, 1) := by decide +kernel
theorem d_Mo_stem_5 : decode prog_8_method_6_code 5 = .ok (.isub, 1) := by decide +kernel
theorem d_Mo_stem_6 : decode prog_8_method_6_code 6 = .ok (.istore 4, 2) := by decide +kernel
theorem d_Mo_stem_8 : decode prog_8_method_6_code 8 = .ok (.aload_n 0, 1) := by decide +kernel
theorem d_Mo_stem_9 : decode prog_8_method_6_code 9 = .ok (.aload_n 0, 1) := by decide +kernel
theorem d_Mo_stem_10 : decode prog_8_method_6_code 10 = .ok (.getfield 13, 3) := by decide +kernel
theorem d_Mo_stem_13 : decode prog_8_method_6_code 13 = .ok (.iload 4, 2) := by decide +kernel
theorem d_Mo_stem_15 : decode prog_8_method_6_code 15 = .ok (.iaload, 1) := by decide +kernel
theorem d_Mo_stem_16 : decode prog_8_method_6_code 16 = .ok (.bipush 60, 2) := by decide +kernel
theorem d_Mo_stem_18 : decode prog_8_method_6_code 18 = .ok (.if_icmp .ne 7, 3) := by decide +kernel
theorem d_Mo_stem_21 : decode prog_8_method_6_code 21 = .ok (.iconst 1, 1) := by decide +kernel
theorem d_Mo_stem_22 : decode prog_8_method_6_code 22 = .ok (.goto 44, 3) := by decide +kernel
theorem d_Mo_stem_25 : decode prog_8_method_6_code 25 = .ok (.iload_n 1, 1) := by decide +kernel
theorem d_Mo_stem_26 : decode prog_8_method_6_code 26 = .ok (.i2l, 1) := by decide +kernel
theorem d_Mo_stem_27 : decode prog_8_method_6_code 27 = .ok (.lconst 0, 1) := by decide +kernel
theorem d_Mo_stem_28 : decode prog_8_method_6_code 28 = .ok (.ldc2_w 110, 3) := by decide +kernel
theorem d_Mo_stem_31 : decode prog_8_method_6_code 31 = .ok (.invokestatic 112, 3) := by decide +kernel
theorem d_Mo_stem_34 : decode prog_8_method_6_code 34 = .ok (.ifCond .eq 31, 3) := by decide +kernel
theorem d_Mo_stem_37 : decode prog_8_method_6_code 37 = .ok (.iload_n 2, 1) := by decide +kernel
theorem d_Mo_stem_38 : decode prog_8_method_6_code 38 = .ok (.i2l, 1) := by decide +kernel
theorem d_Mo_stem_39 : decode prog_8_method_6_code 39 = .ok (.lconst 0, 1) := by decide +kernel
theorem d_Mo_stem_40 : decode prog_8_method_6_code 40 = .ok (.ldc2_w 116, 3) := by decide +kernel
theorem d_Mo_stem_43 : decode prog_8_method_6_code 43 = .ok (.invokestatic 112, 3) := by decide +kernel
theorem d_Mo_stem_46 : decode prog_8_method_6_code 46 = .ok (.ifCond .eq 19, 3) := by decide +kernel
theorem d_Mo_stem_49 : decode prog_8_method_6_code 49 = .ok (.iload_n 3, 1) := by decide +kernel
theorem d_Mo_stem_50 : decode prog_8_method_6_code 50 = .ok (.i2l, 1) := by decide +kernel
theorem d_Mo_stem_51 : decode prog_8_method_6_code 51 = .ok (.lconst 0, 1) := by decide +kernel
theorem d_Mo_stem_52 : decode prog_8_method_6_code 52 = .ok (.ldc2_w 116, 3) := by decide +kernel
theorem d_Mo_stem_55 : decode prog_8_method_6_code 55 = .ok (.invokestatic 112, 3) := by decide +kernel
theorem d_Mo_stem_58 : decode prog_8_method_6_code 58 = .ok (.ifCond .eq 7, 3) := by decide +kernel
theorem d_Mo_stem_61 : decode prog_8_method_6_code 61 = .ok (.iconst 0, 1) := by decide +kernel
theorem d_Mo_stem_62 : decode prog_8_method_6_code 62 = .ok (.goto 4, 3) := by decide +kernel
theorem d_Mo_stem_65 : decode prog_8_method_6_code 65 = .ok (.iconst 2, 1) := by decide +kernel
theorem d_Mo_stem_66 : decode prog_8_method_6_code 66 = .ok (.putfield 103, 3) := by decide +kernel
theorem d_Mo_stem_69 : decode prog_8_method_6_code 69 = .ok (.aload_n 0, 1) := by decide +kernel
theorem d_Mo_stem_70 : decode prog_8_method_6_code 70 = .ok (.getfield 103, 3) := by decide +kernel
theorem d_Mo_stem_73 : decode prog_8_method_6_code 73 = .ok (.ifCond .le 5, 3) := by decide +kernel
theorem d_Mo_stem_76 : decode prog_8_method_6_code 76 = .ok (.iconst 0, 1) := by decide +kernel
theorem d_Mo_stem_77 : decode prog_8_method_6_code 77 = .ok (.ireturn, 1) := by decide +kernel
theorem d_Mo_stem_78 : decode prog_8_method_6_code 78 = .ok (.bipush 60, 2) := by decide +kernel
theorem d_Mo_stem_80 : decode prog_8_method_6_code 80 = .ok (.iload 4, 2) := by decide +kernel
theorem d_Mo_stem_82 : decode prog_8_method_6_code 82 = .ok (.imul, 1) := by decide +kernel
theorem d_Mo_stem_83 : decode prog_8_method_6_code 83 = .ok (.aload_n 0, 1) := by decide +kernel
theorem d_Mo_stem_84 : decode prog_8_method_6_code 84 = .ok (.getfield 13, 3) := by decide +kernel
theorem d_Mo_stem_87 : decode prog_8_method_6_code 87 = .ok (.iload 4, 2) := by decide +kernel
theorem d_Mo_stem_89 : decode prog_8_method_6_code 89 = .ok (.iaload, 1) := by decide +kernel
theorem d_Mo_stem_90 : decode prog_8_method_6_code 90 = .ok (.iadd, 1) := by decide +kernel
theorem d_Mo_stem_91 : decode prog_8_method_6_code 91 = .ok (.istore 5, 2) := by decide +kernel
theorem d_Mo_stem_93 : decode prog_8_method_6_code 93 = .ok (.aload_n 0, 1) := by decide +kernel
theorem d_Mo_stem_94 : decode prog_8_method_6_code 94 = .ok (.getfield 13, 3) := by decide +kernel
theorem d_Mo_stem_97 : decode prog_8_method_6_code 97 = .ok (.iload 4, 2) := by decide +kernel
theorem d_Mo_stem_99 : decode prog_8_method_6_code 99 = .ok (.iaload, 1) := by decide +kernel
theorem d_Mo_stem_100 : decode prog_8_method_6_code 100 = .ok (.ifCond .ne 15, 3) := by decide +kernel
theorem d_Mo_stem_103 : decode prog_8_method_6_code 103 = .ok (.iload_n 1, 1) := by decide +kernel
theorem d_Mo_stem_104 : decode prog_8_method_6_code 104 = .ok (.ifCond .ne 7, 3) := by decide +kernel
theorem d_Mo_stem_107 : decode prog_8_method_6_code 107 = .ok (.iconst 1, 1) := by decide +kernel
theorem d_Mo_stem_108 : decode prog_8_method_6_code 108 = .ok (.goto 38, 3) := by decide +kernel
theorem d_Mo_stem_111 : decode prog_8_method_6_code 111 = .ok (.iconst 0, 1) := by decide +kernel
theorem d_Mo_stem_112 : decode prog_8_method_6_code 112 = .ok (.goto 34, 3) := by decide +kernel
theorem d_Mo_stem_115 : decode prog_8_method_6_code 115 = .ok (.iload_n 1, 1) := by decide +kernel
theorem d_Mo_stem_116 : decode prog_8_method_6_code 116 = .ok (.aload_n 0, 1) := by decide +kernel
theorem d_Mo_stem_117 : decode prog_8_method_6_code 117 = .ok (.getfield 17, 3) := by decide +kernel
theorem d_Mo_stem_120 : decode prog_8_method_6_code 120 = .ok (.iload 5, 2) := by decide +kernel
theorem d_Mo_stem_122 : decode prog_8_method_6_code 122 = .ok (.iconst 1, 1) := by decide +kernel
theorem d_Mo_stem_123 : decode prog_8_method_6_code 123 = .ok (.isub, 1) := by decide +kernel
theorem d_Mo_stem_124 : decode prog_8_method_6_code 124 = .ok (.iaload, 1) := by decide +kernel
theorem d_Mo_stem_125 : decode prog_8_method_6_code 125 = .ok (.if_icmp .le 20, 3) := by decide +kernel
theorem d_Mo_stem_128 : decode prog_8_method_6_code 128 = .ok (.iload_n 2, 1) := by decide +kernel
theorem d_Mo_stem_129 : decode prog_8_method_6_code 129 = .ok (.aload_n 0, 1) := by decide +kernel
theorem d_Mo_stem_130 : decode prog_8_method_6_code 130 = .ok (.getfield 20, 3) := by decide +kernel
theorem d_Mo_stem_133 : decode prog_8_method_6_code 133 = .ok (.iload 5, 2) := by decide +kernel
theorem d_Mo_stem_135 : decode prog_8_method_6_code 135 = .ok (.iconst 1, 1) := by decide +kernel
theorem d_Mo_stem_136 : decode prog_8_method_6_code 136 = .ok (.isub, 1) := by decide +kernel
theorem d_Mo_stem_137 : decode prog_8_method_6_code 137 = .ok (.iaload, 1) := by decide +kernel
theorem d_Mo_stem_138 : decode prog_8_method_6_code 138 = .ok (.if_icmp .gt 7, 3) := by decide +kernel
theorem d_Mo_stem_141 : decode prog_8_method_6_code 141 = .ok (.iconst 1, 1) := by decide +kernel
theorem d_Mo_stem_142 : decode prog_8_method_6_code 142 = .ok (.goto 4, 3) := by decide +kernel
theorem d_Mo_stem_145 : decode prog_8_method_6_code 145 = .ok (.iconst 0, 1) := by decide +kernel
theorem d_Mo_stem_146 : decode prog_8_method_6_code 146 = .ok (.istore 6, 2) := by decide +kernel
theorem d_Mo_stem_148 : decode prog_8_method_6_code 148 = .ok (.iload 6, 2) := by decide +kernel
theorem d_Mo_stem_150 : decode prog_8_method_6_code 150 = .ok (.ifCond .eq 14, 3) := by decide +kernel
theorem d_Mo_stem_153 : decode prog_8_method_6_code 153 = .ok (.iload_n 1, 1) := by decide +kernel
theorem d_Mo_stem_154 : decode prog_8_method_6_code 154 = .ok (.aload_n 0, 1) := by decide +kernel
theorem d_Mo_stem_155 : decode prog_8_method_6_code 155 = .ok (.getfield 98, 3) := by decide +kernel
theorem d_Mo_stem_158 : decode prog_8_method_6_code 158 = .ok (.idiv, 1) := by decide +kernel
theorem d_Mo_stem_159 : decode prog_8_method_6_code 159 = .ok (.bipush 80, 2) := by decide +kernel
theorem d_Mo_stem_161 : decode prog_8_method_6_code 161 = .ok (.if_icmp .le 5, 3) := by decide +kernel
theorem d_Mo_stem_164 : decode prog_8_method_6_code 164 = .ok (.iconst 0, 1) := by decide +kernel
theorem d_Mo_stem_165 : decode prog_8_method_6_code 165 = .ok (.ireturn, 1) := by decide +kernel
theorem d_Mo_stem_166 : decode prog_8_method_6_code 166 = .ok (.aload_n 0, 1) := by decide +kernel
theorem d_Mo_stem_167 : decode prog_8_method_6_code 167 = .ok (.getfield 17, 3) := by decide +kernel
theorem d_Mo_stem_170 : decode prog_8_method_6_code 170 = .ok (.iload 5, 2) := by decide +kernel
theorem d_Mo_stem_172 : decode prog_8_method_6_code 172 = .ok (.iload_n 1, 1) := by decide +kernel
theorem d_Mo_stem_173 : decode prog_8_method_6_code 173 = .ok (.iastore, 1) := by decide +kernel
theorem d_Mo_stem_174 : decode prog_8_method_6_code 174 = .ok (.aload_n 0, 1) := by decide +kernel
theorem d_Mo_stem_175 : decode prog_8_method_6_code 175 = .ok (.getfield 20, 3) := by decide +kernel
theorem d_Mo_stem_178 : decode prog_8_method_6_code 178 = .ok (.iload 5, 2) := by decide +kernel
theorem d_Mo_stem_180 : decode prog_8_method_6_code 180 = .ok (.iload_n 2, 1) := by decide +kernel
theorem d_Mo_stem_181 : decode prog_8_method_6_code 181 = .ok (.iastore, 1) := by decide +kernel
theorem d_Mo_stem_182 : decode prog_8_method_6_code 182 = .ok (.aload_n 0, 1) := by decide +kernel
theorem d_Mo_stem_183 : decode prog_8_method_6_code 183 = .ok (.getfield 23, 3) := by decide +kernel
theorem d_Mo_stem_186 : decode prog_8_method_6_code 186 = .ok (.iload 5, 2) := by decide +kernel
theorem d_Mo_stem_188 : decode prog_8_method_6_code 188 = .ok (.iload_n 3, 1) := by decide +kernel
theorem d_Mo_stem_189 : decode prog_8_method_6_code 189 = .ok (.iastore, 1) := by decide +kernel
theorem d_Mo_stem_190 : decode prog_8_method_6_code 190 = .ok (.aload_n 0, 1) := by decide +kernel
theorem d_Mo_stem_191 : decode prog_8_method_6_code 191 = .ok (.getfield 13, 3) := by decide +kernel
theorem d_Mo_stem_194 : decode prog_8_method_6_code 194 = .ok (.iload 4, 2) := by decide +kernel
theorem d_Mo_stem_196 : decode prog_8_method_6_code 196 = .ok (.dup2, 1) := by decide +kernel
theorem d_Mo_stem_197 : decode prog_8_method_6_code 197 = .ok (.iaload, 1) := by decide +kernel
theorem d_Mo_stem_198 : decode prog_8_method_6_code 198 = .ok (.iconst 1, 1) := by decide +kernel
theorem d_Mo_stem_199 : decode prog_8_method_6_code 199 = .ok (.iadd, 1) := by decide +kernel
theorem d_Mo_stem_200 : decode prog_8_method_6_code 200 = .ok (.iastore, 1) := by decide +kernel
theorem d_Mo_stem_201 : decode prog_8_method_6_code 201 = .ok (.aload_n 0, 1) := by decide +kernel
theorem d_Mo_stem_202 : decode prog_8_method_6_code 202 = .ok (.iconst 1, 1) := by decide +kernel
theorem d_Mo_stem_203 : decode prog_8_method_6_code 203 = .ok (.invokevirtual 118, 3) := by decide +kernel
theorem d_Mo_stem_206 : decode prog_8_method_6_code 206 = .ok (.ireturn, 1) := by decide +kernel
theorem d_Mo_fault_0 : decode prog_8_method_7_code 0 = .ok (.aload_n 0, 1) := by decide +kernel
theorem d_Mo_fault_1 : decode prog_8_method_7_code 1 = .ok (.getfield 7, 3) := by decide +kernel
theorem d_Mo_fault_4 : decode prog_8_method_7_code 4 = .ok (.iconst 1, 1) := by decide +kernel
theorem d_Mo_fault_5 : decode prog_8_method_7_code 5 = .ok (.isub, 1) := by decide +kernel
theorem d_Mo_fault_6 : decode prog_8_method_7_code 6 = .ok (.istore 4, 2) := by decide +kernel
theorem d_Mo_fault_8 : decode prog_8_method_7_code 8 = .ok (.aload_n 0, 1) := by decide +kernel
theorem d_Mo_fault_9 : decode prog_8_method_7_code 9 = .ok (.aload_n 0, 1) := by decide +kernel
theorem d_Mo_fault_10 : decode prog_8_method_7_code 10 = .ok (.getfield 26, 3) := by decide +kernel
theorem d_Mo_fault_13 : decode prog_8_method_7_code 13 = .ok (.iload 4, 2) := by decide +kernel
theorem d_Mo_fault_15 : decode prog_8_method_7_code 15 = .ok (.iaload, 1) := by decide +kernel
theorem d_Mo_fault_16 : decode prog_8_method_7_code 16 = .ok (.bipush 20, 2) := by decide +kernel
theorem d_Mo_fault_18 : decode prog_8_method_7_code 18 = .ok (.if_icmp .ne 7, 3) := by decide +kernel
theorem d_Mo_fault_21 : decode prog_8_method_7_code 21 = .ok (.iconst 1, 1) := by decide +kernel
theorem d_Mo_fault_22 : decode prog_8_method_7_code 22 = .ok (.goto 44, 3) := by decide +kernel
theorem d_Mo_fault_25 : decode prog_8_method_7_code 25 = .ok (.iload_n 1, 1) := by decide +kernel
theorem d_Mo_fault_26 : decode prog_8_method_7_code 26 = .ok (.i2l, 1) := by decide +kernel
theorem d_Mo_fault_27 : decode prog_8_method_7_code 27 = .ok (.lconst 0, 1) := by decide +kernel
theorem d_Mo_fault_28 : decode prog_8_method_7_code 28 = .ok (.ldc2_w 110, 3) := by decide +kernel
theorem d_Mo_fault_31 : decode prog_8_method_7_code 31 = .ok (.invokestatic 112, 3) := by decide +kernel
theorem d_Mo_fault_34 : decode prog_8_method_7_code 34 = .ok (.ifCond .eq 31, 3) := by decide +kernel
theorem d_Mo_fault_37 : decode prog_8_method_7_code 37 = .ok (.iload_n 2, 1) := by decide +kernel
theorem d_Mo_fault_38 : decode prog_8_method_7_code 38 = .ok (.i2l, 1) := by decide +kernel
theorem d_Mo_fault_39 : decode prog_8_method_7_code 39 = .ok (.lconst 0, 1) := by decide +kernel
theorem d_Mo_fault_40 : decode prog_8_method_7_code 40 = .ok (.ldc2_w 110, 3) := by decide +kernel
theorem d_Mo_fault_43 : decode prog_8_method_7_code 43 = .ok (.invokestatic 112, 3) := by decide +kernel
theorem d_Mo_fault_46 : decode prog_8_method_7_code 46 = .ok (.ifCond .eq 19, 3) := by decide +kernel
theorem d_Mo_fault_49 : decode prog_8_method_7_code 49 = .ok (.iload_n 3, 1) := by decide +kernel
theorem d_Mo_fault_50 : decode prog_8_method_7_code 50 = .ok (.i2l, 1) := by decide +kernel
theorem d_Mo_fault_51 : decode prog_8_method_7_code 51 = .ok (.lconst 0, 1) := by decide +kernel
theorem d_Mo_fault_52 : decode prog_8_method_7_code 52 = .ok (.ldc2_w 122, 3) := by decide +kernel
theorem d_Mo_fault_55 : decode prog_8_method_7_code 55 = .ok (.invokestatic 112, 3) := by decide +kernel
theorem d_Mo_fault_58 : decode prog_8_method_7_code 58 = .ok (.ifCond .eq 7, 3) := by decide +kernel
theorem d_Mo_fault_61 : decode prog_8_method_7_code 61 = .ok (.iconst 0, 1) := by decide +kernel
theorem d_Mo_fault_62 : decode prog_8_method_7_code 62 = .ok (.goto 4, 3) := by decide +kernel
theorem d_Mo_fault_65 : decode prog_8_method_7_code 65 = .ok (.iconst 2, 1) := by decide +kernel
theorem d_Mo_fault_66 : decode prog_8_method_7_code 66 = .ok (.putfield 103, 3) := by decide +kernel
theorem d_Mo_fault_69 : decode prog_8_method_7_code 69 = .ok (.aload_n 0, 1) := by decide +kernel
theorem d_Mo_fault_70 : decode prog_8_method_7_code 70 = .ok (.getfield 103, 3) := by decide +kernel
theorem d_Mo_fault_73 : decode prog_8_method_7_code 73 = .ok (.ifCond .gt 8, 3) := by decide +kernel
theorem d_Mo_fault_76 : decode prog_8_method_7_code 76 = .ok (.iload_n 2, 1) := by decide +kernel
theorem d_Mo_fault_77 : decode prog_8_method_7_code 77 = .ok (.iload_n 1, 1) := by decide +kernel
theorem d_Mo_fault_78 : decode prog_8_method_7_code 78 = .ok (.if_icmp .gt 5, 3) := by decide +kernel
theorem d_Mo_fault_81 : decode prog_8_method_7_code 81 = .ok (.iconst 0, 1) := by decide +kernel
theorem d_Mo_fault_82 : decode prog_8_method_7_code 82 = .ok (.ireturn, 1) := by decide +kernel
theorem d_Mo_fault_83 : decode prog_8_method_7_code 83 = .ok (.bipush 20, 2) := by decide +kernel
theorem d_Mo_fault_85 : decode prog_8_method_7_code 85 = .ok (.iload 4, 2) := by decide +kernel
theorem d_Mo_fault_87 : decode prog_8_method_7_code 87 = .ok (.imul, 1) := by decide +kernel
theorem d_Mo_fault_88 : decode prog_8_method_7_code 88 = .ok (.aload_n 0, 1) := by decide +kernel
theorem d_Mo_fault_89 : decode prog_8_method_7_code 89 = .ok (.getfield 26, 3) := by decide +kernel
theorem d_Mo_fault_92 : decode prog_8_method_7_code 92 = .ok (.iload 4, 2) := by decide +kernel
theorem d_Mo_fault_94 : decode prog_8_method_7_code 94 = .ok (.iaload, 1) := by decide +kernel
theorem d_Mo_fault_95 : decode prog_8_method_7_code 95 = .ok (.iadd, 1) := by decide +kernel
theorem d_Mo_fault_96 : decode prog_8_method_7_code 96 = .ok (.istore 5, 2) := by decide +kernel
theorem d_Mo_fault_98 : decode prog_8_method_7_code 98 = .ok (.aload_n 0, 1) := by decide +kernel
theorem d_Mo_fault_99 : decode prog_8_method_7_code 99 = .ok (.getfield 29, 3) := by decide +kernel
theorem d_Mo_fault_102 : decode prog_8_method_7_code 102 = .ok (.iload 5, 2) := by decide +kernel
theorem d_Mo_fault_104 : decode prog_8_method_7_code 104 = .ok (.iload_n 1, 1) := by decide +kernel
theorem d_Mo_fault_105 : decode prog_8_method_7_code 105 = .ok (.iastore, 1) := by decide +kernel
theorem d_Mo_fault_106 : decode prog_8_method_7_code 106 = .ok (.aload_n 0, 1) := by decide +kernel
theorem d_Mo_fault_107 : decode prog_8_method_7_code 107 = .ok (.getfield 32, 3) := by decide +kernel
theorem d_Mo_fault_110 : decode prog_8_method_7_code 110 = .ok (.iload 5, 2) := by decide +kernel
theorem d_Mo_fault_112 : decode prog_8_method_7_code 112 = .ok (.iload_n 2, 1) := by decide +kernel
theorem d_Mo_fault_113 : decode prog_8_method_7_code 113 = .ok (.iastore, 1) := by decide +kernel
theorem d_Mo_fault_114 : decode prog_8_method_7_code 114 = .ok (.aload_n 0, 1) := by decide +kernel
theorem d_Mo_fault_115 : decode prog_8_method_7_code 115 = .ok (.getfield 35, 3) := by decide +kernel
theorem d_Mo_fault_118 : decode prog_8_method_7_code 118 = .ok (.iload 5, 2) := by decide +kernel
theorem d_Mo_fault_120 : decode prog_8_method_7_code 120 = .ok (.iload_n 3, 1) := by decide +kernel
theorem d_Mo_fault_121 : decode prog_8_method_7_code 121 = .ok (.iastore, 1) := by decide +kernel
theorem d_Mo_fault_122 : decode prog_8_method_7_code 122 = .ok (.aload_n 0, 1) := by decide +kernel
theorem d_Mo_fault_123 : decode prog_8_method_7_code 123 = .ok (.getfield 26, 3) := by decide +kernel
theorem d_Mo_fault_126 : decode prog_8_method_7_code 126 = .ok (.iload 4, 2) := by decide +kernel
theorem d_Mo_fault_128 : decode prog_8_method_7_code 128 = .ok (.dup2, 1) := by decide +kernel
theorem d_Mo_fault_129 : decode prog_8_method_7_code 129 = .ok (.iaload, 1) := by decide +kernel
theorem d_Mo_fault_130 : decode prog_8_method_7_code 130 = .ok (.iconst 1, 1) := by decide +kernel
theorem d_Mo_fault_131 : decode prog_8_method_7_code 131 = .ok (.iadd, 1) := by decide +kernel
theorem d_Mo_fault_132 : decode prog_8_method_7_code 132 = .ok (.iastore, 1) := by decide +kernel
theorem d_Mo_fault_133 : decode prog_8_method_7_code 133 = .ok (.aload_n 0, 1) := by decide +kernel
theorem d_Mo_fault_134 : decode prog_8_method_7_code 134 = .ok (.iconst 1, 1) := by decide +kernel
theorem d_Mo_fault_135 : decode prog_8_method_7_code 135 = .ok (.invokevirtual 118, 3) := by decide +kernel
theorem d_Mo_fault_138 : decode prog_8_method_7_code 138 = .ok (.ireturn, 1) := by decide +kernel
theorem d_Mo_stems_0 : decode prog_8_method_8_code 0 = .ok (.aload_n 0, 1) := by decide +kernel
theorem d_Mo_stems_1 : decode prog_8_method_8_code 1 = .ok (.aload_n 0, 1) := by decide +kernel
theorem d_Mo_stems_2 : decode prog_8_method_8_code 2 = .ok (.getfield 7, 3) := by decide +kernel
theorem d_Mo_stems_5 : decode prog_8_method_8_code 5 = .ok (.bipush 6, 2) := by decide +kernel
theorem d_Mo_stems_7 : decode prog_8_method_8_code 7 = .ok (.if_icmp .ne 7, 3) := by decide +kernel
theorem d_Mo_stems_10 : decode prog_8_method_8_code 10 = .ok (.iconst 1, 1) := by decide +kernel
theorem d_Mo_stems_11 : decode prog_8_method_8_code 11 = .ok (.goto 4, 3) := by decide +kernel
theorem d_Mo_stems_14 : decode prog_8_method_8_code 14 = .ok (.iconst 0, 1) := by decide +kernel
theorem d_Mo_stems_15 : decode prog_8_method_8_code 15 = .ok (.putfield 103, 3) := by decide +kernel
theorem d_Mo_stems_18 : decode prog_8_method_8_code 18 = .ok (.aload_n 0, 1) := by decide +kernel
theorem d_Mo_stems_19 : decode prog_8_method_8_code 19 = .ok (.getfield 103, 3) := by decide +kernel
theorem d_Mo_stems_22 : decode prog_8_method_8_code 22 = .ok (.ifCond .le 5, 3) := by decide +kernel
theorem d_Mo_stems_25 : decode prog_8_method_8_code 25 = .ok (.iconst 0, 1) := by decide +kernel
theorem d_Mo_stems_26 : decode prog_8_method_8_code 26 = .ok (.ireturn, 1) := by decide +kernel
theorem d_Mo_stems_27 : decode prog_8_method_8_code 27 = .ok (.aload_n 0, 1) := by decide +kernel
theorem d_Mo_stems_28 : decode prog_8_method_8_code 28 = .ok (.dup, 1) := by decide +kernel
theorem d_Mo_stems_29 : decode prog_8_method_8_code 29 = .ok (.getfield 7, 3) := by decide +kernel
theorem d_Mo_stems_32 : decode prog_8_method_8_code 32 = .ok (.iconst 1, 1) := by decide +kernel
theorem d_Mo_stems_33 : decode prog_8_method_8_code 33 = .ok (.iadd, 1) := by decide +kernel
theorem d_Mo_stems_34 : decode prog_8_method_8_code 34 = .ok (.putfield 7, 3) := by decide +kernel
theorem d_Mo_stems_37 : decode prog_8_method_8_code 37 = .ok (.aload_n 0, 1) := by decide +kernel
theorem d_Mo_stems_38 : decode prog_8_method_8_code 38 = .ok (.iconst 0, 1) := by decide +kernel
theorem d_Mo_stems_39 : decode prog_8_method_8_code 39 = .ok (.putfield 106, 3) := by decide +kernel
theorem d_Mo_stems_42 : decode prog_8_method_8_code 42 = .ok (.aload_n 0, 1) := by decide +kernel
theorem d_Mo_stems_43 : decode prog_8_method_8_code 43 = .ok (.getfield 7, 3) := by decide +kernel
theorem d_Mo_stems_46 : decode prog_8_method_8_code 46 = .ok (.ireturn, 1) := by decide +kernel
theorem d_Mo_product_0 : decode prog_8_method_9_code 0 = .ok (.iload_n 1, 1) := by decide +kernel
theorem d_Mo_product_1 : decode prog_8_method_9_code 1 = .ok (.i2l, 1) := by decide +kernel
theorem d_Mo_product_2 : decode prog_8_method_9_code 2 = .ok (.lconst 1, 1) := by decide +kernel
theorem d_Mo_product_3 : decode prog_8_method_9_code 3 = .ok (.ldc2_w 110, 3) := by decide +kernel
theorem d_Mo_product_6 : decode prog_8_method_9_code 6 = .ok (.invokestatic 112, 3) := by decide +kernel
theorem d_Mo_product_9 : decode prog_8_method_9_code 9 = .ok (.ifCond .eq 61, 3) := by decide +kernel
theorem d_Mo_product_12 : decode prog_8_method_9_code 12 = .ok (.iload_n 2, 1) := by decide +kernel
theorem d_Mo_product_13 : decode prog_8_method_9_code 13 = .ok (.i2l, 1) := by decide +kernel
theorem d_Mo_product_14 : decode prog_8_method_9_code 14 = .ok (.lconst 1, 1) := by decide +kernel
theorem d_Mo_product_15 : decode prog_8_method_9_code 15 = .ok (.ldc2_w 110, 3) := by decide +kernel
theorem d_Mo_product_18 : decode prog_8_method_9_code 18 = .ok (.invokestatic 112, 3) := by decide +kernel
theorem d_Mo_product_21 : decode prog_8_method_9_code 21 = .ok (.ifCond .eq 49, 3) := by decide +kernel
theorem d_Mo_product_24 : decode prog_8_method_9_code 24 = .ok (.iload_n 1, 1) := by decide +kernel
theorem d_Mo_product_25 : decode prog_8_method_9_code 25 = .ok (.iload_n 2, 1) := by decide +kernel
theorem d_Mo_product_26 : decode prog_8_method_9_code 26 = .ok (.if_icmp .gt 44, 3) := by decide +kernel
theorem d_Mo_product_29 : decode prog_8_method_9_code 29 = .ok (.iload_n 3, 1) := by decide +kernel
theorem d_Mo_product_30 : decode prog_8_method_9_code 30 = .ok (.i2l, 1) := by decide +kernel
theorem d_Mo_product_31 : decode prog_8_method_9_code 31 = .ok (.lconst 0, 1) := by decide +kernel
theorem d_Mo_product_32 : decode prog_8_method_9_code 32 = .ok (.ldc2_w 116, 3) := by decide +kernel
theorem d_Mo_product_35 : decode prog_8_method_9_code 35 = .ok (.invokestatic 112, 3) := by decide +kernel
theorem d_Mo_product_38 : decode prog_8_method_9_code 38 = .ok (.ifCond .eq 32, 3) := by decide +kernel
theorem d_Mo_product_41 : decode prog_8_method_9_code 41 = .ok (.iload 4, 2) := by decide +kernel
theorem d_Mo_product_43 : decode prog_8_method_9_code 43 = .ok (.i2l, 1) := by decide +kernel
theorem d_Mo_product_44 : decode prog_8_method_9_code 44 = .ok (.lconst 0, 1) := by decide +kernel
theorem d_Mo_product_45 : decode prog_8_method_9_code 45 = .ok (.ldc2_w 116, 3) := by decide +kernel
theorem d_Mo_product_48 : decode prog_8_method_9_code 48 = .ok (.invokestatic 112, 3) := by decide +kernel
theorem d_Mo_product_51 : decode prog_8_method_9_code 51 = .ok (.ifCond .eq 19, 3) := by decide +kernel
theorem d_Mo_product_54 : decode prog_8_method_9_code 54 = .ok (.lload 5, 2) := by decide +kernel
theorem d_Mo_product_56 : decode prog_8_method_9_code 56 = .ok (.lconst 0, 1) := by decide +kernel
theorem d_Mo_product_57 : decode prog_8_method_9_code 57 = .ok (.ldc2_w 116, 3) := by decide +kernel
theorem d_Mo_product_60 : decode prog_8_method_9_code 60 = .ok (.invokestatic 112, 3) := by decide +kernel
theorem d_Mo_product_63 : decode prog_8_method_9_code 63 = .ok (.ifCond .eq 7, 3) := by decide +kernel
theorem d_Mo_product_66 : decode prog_8_method_9_code 66 = .ok (.iconst 1, 1) := by decide +kernel
theorem d_Mo_product_67 : decode prog_8_method_9_code 67 = .ok (.goto 4, 3) := by decide +kernel
theorem d_Mo_product_70 : decode prog_8_method_9_code 70 = .ok (.iconst 0, 1) := by decide +kernel
theorem d_Mo_product_71 : decode prog_8_method_9_code 71 = .ok (.istore 7, 2) := by decide +kernel
theorem d_Mo_product_73 : decode prog_8_method_9_code 73 = .ok (.aload_n 0, 1) := by decide +kernel
theorem d_Mo_product_74 : decode prog_8_method_9_code 74 = .ok (.aload_n 0, 1) := by decide +kernel
theorem d_Mo_product_75 : decode prog_8_method_9_code 75 = .ok (.getfield 124, 3) := by decide +kernel
theorem d_Mo_product_78 : decode prog_8_method_9_code 78 = .ok (.bipush 8, 2) := by decide +kernel
theorem d_Mo_product_80 : decode prog_8_method_9_code 80 = .ok (.if_icmp .ne 7, 3) := by decide +kernel
theorem d_Mo_product_83 : decode prog_8_method_9_code 83 = .ok (.iconst 1, 1) := by decide +kernel
theorem d_Mo_product_84 : decode prog_8_method_9_code 84 = .ok (.goto 13, 3) := by decide +kernel
theorem d_Mo_product_87 : decode prog_8_method_9_code 87 = .ok (.iload 7, 2) := by decide +kernel
theorem d_Mo_product_89 : decode prog_8_method_9_code 89 = .ok (.ifCond .eq 7, 3) := by decide +kernel
theorem d_Mo_product_92 : decode prog_8_method_9_code 92 = .ok (.iconst 0, 1) := by decide +kernel
theorem d_Mo_product_93 : decode prog_8_method_9_code 93 = .ok (.goto 4, 3) := by decide +kernel
theorem d_Mo_product_96 : decode prog_8_method_9_code 96 = .ok (.iconst 2, 1) := by decide +kernel
theorem d_Mo_product_97 : decode prog_8_method_9_code 97 = .ok (.putfield 103, 3) := by decide +kernel
theorem d_Mo_product_100 : decode prog_8_method_9_code 100 = .ok (.aload_n 0, 1) := by decide +kernel
theorem d_Mo_product_101 : decode prog_8_method_9_code 101 = .ok (.getfield 103, 3) := by decide +kernel
theorem d_Mo_product_104 : decode prog_8_method_9_code 104 = .ok (.ifCond .le 5, 3) := by decide +kernel
theorem d_Mo_product_107 : decode prog_8_method_9_code 107 = .ok (.iconst 0, 1) := by decide +kernel
theorem d_Mo_product_108 : decode prog_8_method_9_code 108 = .ok (.ireturn, 1) := by decide +kernel
theorem d_Mo_product_109 : decode prog_8_method_9_code 109 = .ok (.aload_n 0, 1) := by decide +kernel
theorem d_Mo_product_110 : decode prog_8_method_9_code 110 = .ok (.getfield 42, 3) := by decide +kernel
theorem d_Mo_product_113 : decode prog_8_method_9_code 113 = .ok (.aload_n 0, 1) := by decide +kernel
theorem d_Mo_product_114 : decode prog_8_method_9_code 114 = .ok (.getfield 124, 3) := by decide +kernel
theorem d_Mo_product_117 : decode prog_8_method_9_code 117 = .ok (.iload_n 1, 1) := by decide +kernel
theorem d_Mo_product_118 : decode prog_8_method_9_code 118 = .ok (.iastore, 1) := by decide +kernel
theorem d_Mo_product_119 : decode prog_8_method_9_code 119 = .ok (.aload_n 0, 1) := by decide +kernel
theorem d_Mo_product_120 : decode prog_8_method_9_code 120 = .ok (.getfield 45, 3) := by decide +kernel
theorem d_Mo_product_123 : decode prog_8_method_9_code 123 = .ok (.aload_n 0, 1) := by decide +kernel
theorem d_Mo_product_124 : decode prog_8_method_9_code 124 = .ok (.getfield 124, 3) := by decide +kernel
theorem d_Mo_product_127 : decode prog_8_method_9_code 127 = .ok (.iload_n 2, 1) := by decide +kernel
theorem d_Mo_product_128 : decode prog_8_method_9_code 128 = .ok (.iastore, 1) := by decide +kernel
theorem d_Mo_product_129 : decode prog_8_method_9_code 129 = .ok (.aload_n 0, 1) := by decide +kernel
theorem d_Mo_product_130 : decode prog_8_method_9_code 130 = .ok (.getfield 48, 3) := by decide +kernel
theorem d_Mo_product_133 : decode prog_8_method_9_code 133 = .ok (.aload_n 0, 1) := by decide +kernel
theorem d_Mo_product_134 : decode prog_8_method_9_code 134 = .ok (.getfield 124, 3) := by decide +kernel
theorem d_Mo_product_137 : decode prog_8_method_9_code 137 = .ok (.iload_n 3, 1) := by decide +kernel
theorem d_Mo_product_138 : decode prog_8_method_9_code 138 = .ok (.iastore, 1) := by decide +kernel
theorem d_Mo_product_139 : decode prog_8_method_9_code 139 = .ok (.aload_n 0, 1) := by decide +kernel
theorem d_Mo_product_140 : decode prog_8_method_9_code 140 = .ok (.getfield 51, 3) := by decide +kernel
theorem d_Mo_product_143 : decode prog_8_method_9_code 143 = .ok (.aload_n 0, 1) := by decide +kernel
theorem d_Mo_product_144 : decode prog_8_method_9_code 144 = .ok (.getfield 124, 3) := by decide +kernel
theorem d_Mo_product_147 : decode prog_8_method_9_code 147 = .ok (.iload 4, 2) := by decide +kernel
theorem d_Mo_product_149 : decode prog_8_method_9_code 149 = .ok (.iastore, 1) := by decide +kernel
theorem d_Mo_product_150 : decode prog_8_method_9_code 150 = .ok (.aload_n 0, 1) := by decide +kernel
theorem d_Mo_product_151 : decode prog_8_method_9_code 151 = .ok (.getfield 54, 3) := by decide +kernel
theorem d_Mo_product_154 : decode prog_8_method_9_code 154 = .ok (.aload_n 0, 1) := by decide +kernel
theorem d_Mo_product_155 : decode prog_8_method_9_code 155 = .ok (.getfield 124, 3) := by decide +kernel
theorem d_Mo_product_158 : decode prog_8_method_9_code 158 = .ok (.lload 5, 2) := by decide +kernel
theorem d_Mo_product_160 : decode prog_8_method_9_code 160 = .ok (.lastore, 1) := by decide +kernel
theorem d_Mo_product_161 : decode prog_8_method_9_code 161 = .ok (.aload_n 0, 1) := by decide +kernel
theorem d_Mo_product_162 : decode prog_8_method_9_code 162 = .ok (.dup, 1) := by decide +kernel
theorem d_Mo_product_163 : decode prog_8_method_9_code 163 = .ok (.getfield 124, 3) := by decide +kernel
theorem d_Mo_product_166 : decode prog_8_method_9_code 166 = .ok (.iconst 1, 1) := by decide +kernel
theorem d_Mo_product_167 : decode prog_8_method_9_code 167 = .ok (.iadd, 1) := by decide +kernel
theorem d_Mo_product_168 : decode prog_8_method_9_code 168 = .ok (.putfield 124, 3) := by decide +kernel
theorem d_Mo_product_171 : decode prog_8_method_9_code 171 = .ok (.aload_n 0, 1) := by decide +kernel
theorem d_Mo_product_172 : decode prog_8_method_9_code 172 = .ok (.iconst 0, 1) := by decide +kernel
theorem d_Mo_product_173 : decode prog_8_method_9_code 173 = .ok (.putfield 106, 3) := by decide +kernel
theorem d_Mo_product_176 : decode prog_8_method_9_code 176 = .ok (.aload_n 0, 1) := by decide +kernel
theorem d_Mo_product_177 : decode prog_8_method_9_code 177 = .ok (.getfield 124, 3) := by decide +kernel
theorem d_Mo_product_180 : decode prog_8_method_9_code 180 = .ok (.iconst 1, 1) := by decide +kernel
theorem d_Mo_product_181 : decode prog_8_method_9_code 181 = .ok (.isub, 1) := by decide +kernel
theorem d_Mo_product_182 : decode prog_8_method_9_code 182 = .ok (.ireturn, 1) := by decide +kernel
theorem d_Mo_noProduct_0 : decode prog_8_method_10_code 0 = .ok (.aload_n 0, 1) := by decide +kernel
theorem d_Mo_noProduct_1 : decode prog_8_method_10_code 1 = .ok (.iload_n 1, 1) := by decide +kernel
theorem d_Mo_noProduct_2 : decode prog_8_method_10_code 2 = .ok (.ifCond .lt 11, 3) := by decide +kernel
theorem d_Mo_noProduct_5 : decode prog_8_method_10_code 5 = .ok (.iload_n 1, 1) := by decide +kernel
theorem d_Mo_noProduct_6 : decode prog_8_method_10_code 6 = .ok (.aload_n 0, 1) := by decide +kernel
theorem d_Mo_noProduct_7 : decode prog_8_method_10_code 7 = .ok (.getfield 124, 3) := by decide +kernel
theorem d_Mo_noProduct_10 : decode prog_8_method_10_code 10 = .ok (.if_icmp .lt 7, 3) := by decide +kernel
theorem d_Mo_noProduct_13 : decode prog_8_method_10_code 13 = .ok (.iconst 1, 1) := by decide +kernel
theorem d_Mo_noProduct_14 : decode prog_8_method_10_code 14 = .ok (.goto 4, 3) := by decide +kernel
theorem d_Mo_noProduct_17 : decode prog_8_method_10_code 17 = .ok (.iconst 0, 1) := by decide +kernel
theorem d_Mo_noProduct_18 : decode prog_8_method_10_code 18 = .ok (.putfield 103, 3) := by decide +kernel
theorem d_Mo_noProduct_21 : decode prog_8_method_10_code 21 = .ok (.aload_n 0, 1) := by decide +kernel
theorem d_Mo_noProduct_22 : decode prog_8_method_10_code 22 = .ok (.getfield 103, 3) := by decide +kernel
theorem d_Mo_noProduct_25 : decode prog_8_method_10_code 25 = .ok (.ifCond .le 7, 3) := by decide +kernel
theorem d_Mo_noProduct_28 : decode prog_8_method_10_code 28 = .ok (.iconst 1, 1) := by decide +kernel
theorem d_Mo_noProduct_29 : decode prog_8_method_10_code 29 = .ok (.goto 4, 3) := by decide +kernel
theorem d_Mo_noProduct_32 : decode prog_8_method_10_code 32 = .ok (.iconst 0, 1) := by decide +kernel
theorem d_Mo_noProduct_33 : decode prog_8_method_10_code 33 = .ok (.ireturn, 1) := by decide +kernel
theorem d_Mo_bars_0 : decode prog_8_method_11_code 0 = .ok (.aload_n 0, 1) := by decide +kernel
theorem d_Mo_bars_1 : decode prog_8_method_11_code 1 = .ok (.iload_n 1, 1) := by decide +kernel
theorem d_Mo_bars_2 : decode prog_8_method_11_code 2 = .ok (.invokevirtual 127, 3) := by decide +kernel
theorem d_Mo_bars_5 : decode prog_8_method_11_code 5 = .ok (.ifCond .eq 5, 3) := by decide +kernel
theorem d_Mo_bars_8 : decode prog_8_method_11_code 8 = .ok (.iconst 0, 1) := by decide +kernel
theorem d_Mo_bars_9 : decode prog_8_method_11_code 9 = .ok (.ireturn, 1) := by decide +kernel
theorem d_Mo_bars_10 : decode prog_8_method_11_code 10 = .ok (.aload_n 0, 1) := by decide +kernel
theorem d_Mo_bars_11 : decode prog_8_method_11_code 11 = .ok (.iload_n 2, 1) := by decide +kernel
theorem d_Mo_bars_12 : decode prog_8_method_11_code 12 = .ok (.i2l, 1) := by decide +kernel
theorem d_Mo_bars_13 : decode prog_8_method_11_code 13 = .ok (.lconst 0, 1) := by decide +kernel
theorem d_Mo_bars_14 : decode prog_8_method_11_code 14 = .ok (.ldc2_w 122, 3) := by decide +kernel
theorem d_Mo_bars_17 : decode prog_8_method_11_code 17 = .ok (.invokestatic 112, 3) := by decide +kernel
theorem d_Mo_bars_20 : decode prog_8_method_11_code 20 = .ok (.ifCond .eq 7, 3) := by decide +kernel
theorem d_Mo_bars_23 : decode prog_8_method_11_code 23 = .ok (.iconst 0, 1) := by decide +kernel
theorem d_Mo_bars_24 : decode prog_8_method_11_code 24 = .ok (.goto 4, 3) := by decide +kernel
theorem d_Mo_bars_27 : decode prog_8_method_11_code 27 = .ok (.iconst 2, 1) := by decide +kernel
theorem d_Mo_bars_28 : decode prog_8_method_11_code 28 = .ok (.putfield 103, 3) := by decide +kernel
theorem d_Mo_bars_31 : decode prog_8_method_11_code 31 = .ok (.aload_n 0, 1) := by decide +kernel
theorem d_Mo_bars_32 : decode prog_8_method_11_code 32 = .ok (.getfield 103, 3) := by decide +kernel
theorem d_Mo_bars_35 : decode prog_8_method_11_code 35 = .ok (.ifCond .gt 17, 3) := by decide +kernel
theorem d_Mo_bars_38 : decode prog_8_method_11_code 38 = .ok (.aload_n 0, 1) := by decide +kernel
theorem d_Mo_bars_39 : decode prog_8_method_11_code 39 = .ok (.getfield 58, 3) := by decide +kernel
theorem d_Mo_bars_42 : decode prog_8_method_11_code 42 = .ok (.bipush 8, 2) := by decide +kernel
theorem d_Mo_bars_44 : decode prog_8_method_11_code 44 = .ok (.iload_n 1, 1) := by decide +kernel
theorem d_Mo_bars_45 : decode prog_8_method_11_code 45 = .ok (.imul, 1) := by decide +kernel
theorem d_Mo_bars_46 : decode prog_8_method_11_code 46 = .ok (.iload_n 2, 1) := by decide +kernel
theorem d_Mo_bars_47 : decode prog_8_method_11_code 47 = .ok (.iadd, 1) := by decide +kernel
theorem d_Mo_bars_48 : decode prog_8_method_11_code 48 = .ok (.baload, 1) := by decide +kernel
theorem d_Mo_bars_49 : decode prog_8_method_11_code 49 = .ok (.ifCond .eq 5, 3) := by decide +kernel
theorem d_Mo_bars_52 : decode prog_8_method_11_code 52 = .ok (.iconst 0, 1) := by decide +kernel
theorem d_Mo_bars_53 : decode prog_8_method_11_code 53 = .ok (.ireturn, 1) := by decide +kernel
theorem d_Mo_bars_54 : decode prog_8_method_11_code 54 = .ok (.aload_n 0, 1) := by decide +kernel
theorem d_Mo_bars_55 : decode prog_8_method_11_code 55 = .ok (.getfield 58, 3) := by decide +kernel
theorem d_Mo_bars_58 : decode prog_8_method_11_code 58 = .ok (.bipush 8, 2) := by decide +kernel
theorem d_Mo_bars_60 : decode prog_8_method_11_code 60 = .ok (.iload_n 1, 1) := by decide +kernel
theorem d_Mo_bars_61 : decode prog_8_method_11_code 61 = .ok (.imul, 1) := by decide +kernel
theorem d_Mo_bars_62 : decode prog_8_method_11_code 62 = .ok (.iload_n 2, 1) := by decide +kernel
theorem d_Mo_bars_63 : decode prog_8_method_11_code 63 = .ok (.iadd, 1) := by decide +kernel
theorem d_Mo_bars_64 : decode prog_8_method_11_code 64 = .ok (.iconst 1, 1) := by decide +kernel
theorem d_Mo_bars_65 : decode prog_8_method_11_code 65 = .ok (.bastore, 1) := by decide +kernel
theorem d_Mo_bars_66 : decode prog_8_method_11_code 66 = .ok (.aload_n 0, 1) := by decide +kernel
theorem d_Mo_bars_67 : decode prog_8_method_11_code 67 = .ok (.iconst 1, 1) := by decide +kernel
theorem d_Mo_bars_68 : decode prog_8_method_11_code 68 = .ok (.invokevirtual 118, 3) := by decide +kernel
theorem d_Mo_bars_71 : decode prog_8_method_11_code 71 = .ok (.ireturn, 1) := by decide +kernel
theorem d_Mo_isEnd_0 : decode prog_8_method_12_code 0 = .ok (.iload_n 1, 1) := by decide +kernel
theorem d_Mo_isEnd_1 : decode prog_8_method_12_code 1 = .ok (.ifCond .le 35, 3) := by decide +kernel
theorem d_Mo_isEnd_4 : decode prog_8_method_12_code 4 = .ok (.iload_n 1, 1) := by decide +kernel
theorem d_Mo_isEnd_5 : decode prog_8_method_12_code 5 = .ok (.aload_n 0, 1) := by decide +kernel
theorem d_Mo_isEnd_6 : decode prog_8_method_12_code 6 = .ok (.getfield 98, 3) := by decide +kernel
theorem d_Mo_isEnd_9 : decode prog_8_method_12_code 9 = .ok (.irem, 1) := by decide +kernel
theorem d_Mo_isEnd_10 : decode prog_8_method_12_code 10 = .ok (.ifCond .ne 26, 3) := by decide +kernel
theorem d_Mo_isEnd_13 : decode prog_8_method_12_code 13 = .ok (.iload_n 1, 1) := by decide +kernel
theorem d_Mo_isEnd_14 : decode prog_8_method_12_code 14 = .ok (.aload_n 0, 1) := by decide +kernel
theorem d_Mo_isEnd_15 : decode prog_8_method_12_code 15 = .ok (.getfield 98, 3) := by decide +kernel
theorem d_Mo_isEnd_18 : decode prog_8_method_12_code 18 = .ok (.idiv, 1) := by decide +kernel
theorem d_Mo_isEnd_19 : decode prog_8_method_12_code 19 = .ok (.aload_n 0, 1) := by decide +kernel
theorem d_Mo_isEnd_20 : decode prog_8_method_12_code 20 = .ok (.aload_n 0, 1) := by decide +kernel
theorem d_Mo_isEnd_21 : decode prog_8_method_12_code 21 = .ok (.getfield 7, 3) := by decide +kernel
theorem d_Mo_isEnd_24 : decode prog_8_method_12_code 24 = .ok (.iconst 1, 1) := by decide +kernel
theorem d_Mo_isEnd_25 : decode prog_8_method_12_code 25 = .ok (.isub, 1) := by decide +kernel
theorem d_Mo_isEnd_26 : decode prog_8_method_12_code 26 = .ok (.invokevirtual 131, 3) := by decide +kernel
theorem d_Mo_isEnd_29 : decode prog_8_method_12_code 29 = .ok (.if_icmp .gt 7, 3) := by decide +kernel
theorem d_Mo_isEnd_32 : decode prog_8_method_12_code 32 = .ok (.iconst 1, 1) := by decide +kernel
theorem d_Mo_isEnd_33 : decode prog_8_method_12_code 33 = .ok (.goto 4, 3) := by decide +kernel
theorem d_Mo_isEnd_36 : decode prog_8_method_12_code 36 = .ok (.iconst 0, 1) := by decide +kernel
theorem d_Mo_isEnd_37 : decode prog_8_method_12_code 37 = .ok (.ireturn, 1) := by decide +kernel
theorem d_Mo_force_0 : decode prog_8_method_13_code 0 = .ok (.aload_n 0, 1) := by decide +kernel
theorem d_Mo_force_1 : decode prog_8_method_13_code 1 = .ok (.iload_n 1, 1) := by decide +kernel
theorem d_Mo_force_2 : decode prog_8_method_13_code 2 = .ok (.i2l, 1) := by decide +kernel
theorem d_Mo_force_3 : decode prog_8_method_13_code 3 = .ok (.lconst 0, 1) := by decide +kernel
theorem d_Mo_force_4 : decode prog_8_method_13_code 4 = .ok (.ldc2_w 110, 3) := by decide +kernel
theorem d_Mo_force_7 : decode prog_8_method_13_code 7 = .ok (.invokestatic 112, 3) := by decide +kernel
theorem d_Mo_force_10 : decode prog_8_method_13_code 10 = .ok (.ifCond .eq 7, 3) := by decide +kernel
theorem d_Mo_force_13 : decode prog_8_method_13_code 13 = .ok (.iconst 0, 1) := by decide +kernel
theorem d_Mo_force_14 : decode prog_8_method_13_code 14 = .ok (.goto 4, 3) := by decide +kernel
theorem d_Mo_force_17 : decode prog_8_method_13_code 17 = .ok (.iconst 1, 1) := by decide +kernel
theorem d_Mo_force_18 : decode prog_8_method_13_code 18 = .ok (.putfield 103, 3) := by decide +kernel
theorem d_Mo_force_21 : decode prog_8_method_13_code 21 = .ok (.aload_n 0, 1) := by decide +kernel
theorem d_Mo_force_22 : decode prog_8_method_13_code 22 = .ok (.getfield 103, 3) := by decide +kernel
theorem d_Mo_force_25 : decode prog_8_method_13_code 25 = .ok (.ifCond .gt 35, 3) := by decide +kernel
theorem d_Mo_force_28 : decode prog_8_method_13_code 28 = .ok (.aload_n 0, 1) := by decide +kernel
theorem d_Mo_force_29 : decode prog_8_method_13_code 29 = .ok (.iload_n 1, 1) := by decide +kernel
theorem d_Mo_force_30 : decode prog_8_method_13_code 30 = .ok (.invokevirtual 135, 3) := by decide +kernel
theorem d_Mo_force_33 : decode prog_8_method_13_code 33 = .ok (.ifCond .eq 27, 3) := by decide +kernel
theorem d_Mo_force_36 : decode prog_8_method_13_code 36 = .ok (.aload_n 0, 1) := by decide +kernel
theorem d_Mo_force_37 : decode prog_8_method_13_code 37 = .ok (.getfield 38, 3) := by decide +kernel
theorem d_Mo_force_40 : decode prog_8_method_13_code 40 = .ok (.bipush 81, 2) := by decide +kernel
theorem d_Mo_force_42 : decode prog_8_method_13_code 42 = .ok (.aload_n 0, 1) := by decide +kernel
theorem d_Mo_force_43 : decode prog_8_method_13_code 43 = .ok (.getfield 7, 3) := by decide +kernel
theorem d_Mo_force_46 : decode prog_8_method_13_code 46 = .ok (.iconst 1, 1) := by decide +kernel
theorem d_Mo_force_47 : decode prog_8_method_13_code 47 = .ok (.isub, 1) := by decide +kernel
theorem d_Mo_force_48 : decode prog_8_method_13_code 48 = .ok (.imul, 1) := by decide +kernel
theorem d_Mo_force_49 : decode prog_8_method_13_code 49 = .ok (.iload_n 1, 1) := by decide +kernel
theorem d_Mo_force_50 : decode prog_8_method_13_code 50 = .ok (.aload_n 0, 1) := by decide +kernel
theorem d_Mo_force_51 : decode prog_8_method_13_code 51 = .ok (.getfield 98, 3) := by decide +kernel
theorem d_Mo_force_54 : decode prog_8_method_13_code 54 = .ok (.idiv, 1) := by decide +kernel
theorem d_Mo_force_55 : decode prog_8_method_13_code 55 = .ok (.iadd, 1) := by decide +kernel
theorem d_Mo_force_56 : decode prog_8_method_13_code 56 = .ok (.baload, 1) := by decide +kernel
theorem d_Mo_force_57 : decode prog_8_method_13_code 57 = .ok (.ifCond .eq 5, 3) := by decide +kernel
theorem d_Mo_force_60 : decode prog_8_method_13_code 60 = .ok (.iconst 0, 1) := by decide +kernel
theorem d_Mo_force_61 : decode prog_8_method_13_code 61 = .ok (.ireturn, 1) := by decide +kernel
theorem d_Mo_force_62 : decode prog_8_method_13_code 62 = .ok (.aload_n 0, 1) := by decide +kernel
theorem d_Mo_force_63 : decode prog_8_method_13_code 63 = .ok (.getfield 38, 3) := by decide +kernel
theorem d_Mo_force_66 : decode prog_8_method_13_code 66 = .ok (.bipush 81, 2) := by decide +kernel
theorem d_Mo_force_68 : decode prog_8_method_13_code 68 = .ok (.aload_n 0, 1) := by decide +kernel
theorem d_Mo_force_69 : decode prog_8_method_13_code 69 = .ok (.getfield 7, 3) := by decide +kernel
theorem d_Mo_force_72 : decode prog_8_method_13_code 72 = .ok (.iconst 1, 1) := by decide +kernel
theorem d_Mo_force_73 : decode prog_8_method_13_code 73 = .ok (.isub, 1) := by decide +kernel
theorem d_Mo_force_74 : decode prog_8_method_13_code 74 = .ok (.imul, 1) := by decide +kernel
theorem d_Mo_force_75 : decode prog_8_method_13_code 75 = .ok (.iload_n 1, 1) := by decide +kernel
theorem d_Mo_force_76 : decode prog_8_method_13_code 76 = .ok (.aload_n 0, 1) := by decide +kernel
theorem d_Mo_force_77 : decode prog_8_method_13_code 77 = .ok (.getfield 98, 3) := by decide +kernel
theorem d_Mo_force_80 : decode prog_8_method_13_code 80 = .ok (.idiv, 1) := by decide +kernel
theorem d_Mo_force_81 : decode prog_8_method_13_code 81 = .ok (.iadd, 1) := by decide +kernel
theorem d_Mo_force_82 : decode prog_8_method_13_code 82 = .ok (.iconst 1, 1) := by decide +kernel
theorem d_Mo_force_83 : decode prog_8_method_13_code 83 = .ok (.bastore, 1) := by decide +kernel
theorem d_Mo_force_84 : decode prog_8_method_13_code 84 = .ok (.aload_n 0, 1) := by decide +kernel
theorem d_Mo_force_85 : decode prog_8_method_13_code 85 = .ok (.iconst 1, 1) := by decide +kernel
theorem d_Mo_force_86 : decode prog_8_method_13_code 86 = .ok (.invokevirtual 118, 3) := by decide +kernel
theorem d_Mo_force_89 : decode prog_8_method_13_code 89 = .ok (.ireturn, 1) := by decide +kernel
theorem d_Mo_margin_0 : decode prog_8_method_14_code 0 = .ok (.aload_n 0, 1) := by decide +kernel
theorem d_Mo_margin_1 : decode prog_8_method_14_code 1 = .ok (.iload_n 1, 1) := by decide +kernel
theorem d_Mo_margin_2 : decode prog_8_method_14_code 2 = .ok (.i2l, 1) := by decide +kernel
theorem d_Mo_margin_3 : decode prog_8_method_14_code 3 = .ok (.lconst 0, 1) := by decide +kernel
theorem d_Mo_margin_4 : decode prog_8_method_14_code 4 = .ok (.ldc2_w 116, 3) := by decide +kernel
theorem d_Mo_margin_7 : decode prog_8_method_14_code 7 = .ok (.invokestatic 112, 3) := by decide +kernel
theorem d_Mo_margin_10 : decode prog_8_method_14_code 10 = .ok (.ifCond .eq 7, 3) := by decide +kernel
theorem d_Mo_margin_13 : decode prog_8_method_14_code 13 = .ok (.iconst 0, 1) := by decide +kernel
theorem d_Mo_margin_14 : decode prog_8_method_14_code 14 = .ok (.goto 4, 3) := by decide +kernel
theorem d_Mo_margin_17 : decode prog_8_method_14_code 17 = .ok (.iconst 1, 1) := by decide +kernel
theorem d_Mo_margin_18 : decode prog_8_method_14_code 18 = .ok (.putfield 103, 3) := by decide +kernel
theorem d_Mo_margin_21 : decode prog_8_method_14_code 21 = .ok (.aload_n 0, 1) := by decide +kernel
theorem d_Mo_margin_22 : decode prog_8_method_14_code 22 = .ok (.getfield 103, 3) := by decide +kernel
theorem d_Mo_margin_25 : decode prog_8_method_14_code 25 = .ok (.ifCond .gt 11, 3) := by decide +kernel
theorem d_Mo_margin_28 : decode prog_8_method_14_code 28 = .ok (.iload_n 1, 1) := by decide +kernel
theorem d_Mo_margin_29 : decode prog_8_method_14_code 29 = .ok (.aload_n 0, 1) := by decide +kernel
theorem d_Mo_margin_30 : decode prog_8_method_14_code 30 = .ok (.getfield 138, 3) := by decide +kernel
theorem d_Mo_margin_33 : decode prog_8_method_14_code 33 = .ok (.if_icmp .ne 5, 3) := by decide +kernel
theorem d_Mo_margin_36 : decode prog_8_method_14_code 36 = .ok (.iconst 0, 1) := by decide +kernel
theorem d_Mo_margin_37 : decode prog_8_method_14_code 37 = .ok (.ireturn, 1) := by decide +kernel
theorem d_Mo_margin_38 : decode prog_8_method_14_code 38 = .ok (.aload_n 0, 1) := by decide +kernel
theorem d_Mo_margin_39 : decode prog_8_method_14_code 39 = .ok (.iload_n 1, 1) := by decide +kernel
theorem d_Mo_margin_40 : decode prog_8_method_14_code 40 = .ok (.putfield 138, 3) := by decide +kernel
theorem d_Mo_margin_43 : decode prog_8_method_14_code 43 = .ok (.aload_n 0, 1) := by decide +kernel
theorem d_Mo_margin_44 : decode prog_8_method_14_code 44 = .ok (.iconst 1, 1) := by decide +kernel
theorem d_Mo_margin_45 : decode prog_8_method_14_code 45 = .ok (.invokevirtual 118, 3) := by decide +kernel
theorem d_Mo_margin_48 : decode prog_8_method_14_code 48 = .ok (.ireturn, 1) := by decide +kernel
theorem d_Mo_saw_0 : decode prog_8_method_15_code 0 = .ok (.aload_n 0, 1) := by decide +kernel
theorem d_Mo_saw_1 : decode prog_8_method_15_code 1 = .ok (.iload_n 1, 1) := by decide +kernel
theorem d_Mo_saw_2 : decode prog_8_method_15_code 2 = .ok (.i2l, 1) := by decide +kernel
theorem d_Mo_saw_3 : decode prog_8_method_15_code 3 = .ok (.lconst 0, 1) := by decide +kernel
theorem d_Mo_saw_4 : decode prog_8_method_15_code 4 = .ok (.ldc2_w 141, 3) := by decide +kernel
theorem d_Mo_saw_7 : decode prog_8_method_15_code 7 = .ok (.invokestatic 112, 3) := by decide +kernel
theorem d_Mo_saw_10 : decode prog_8_method_15_code 10 = .ok (.ifCond .eq 7, 3) := by decide +kernel
theorem d_Mo_saw_13 : decode prog_8_method_15_code 13 = .ok (.iconst 0, 1) := by decide +kernel
theorem d_Mo_saw_14 : decode prog_8_method_15_code 14 = .ok (.goto 4, 3) := by decide +kernel
theorem d_Mo_saw_17 : decode prog_8_method_15_code 17 = .ok (.iconst 1, 1) := by decide +kernel
theorem d_Mo_saw_18 : decode prog_8_method_15_code 18 = .ok (.putfield 103, 3) := by decide +kernel
theorem d_Mo_saw_21 : decode prog_8_method_15_code 21 = .ok (.aload_n 0, 1) := by decide +kernel
theorem d_Mo_saw_22 : decode prog_8_method_15_code 22 = .ok (.getfield 103, 3) := by decide +kernel
theorem d_Mo_saw_25 : decode prog_8_method_15_code 25 = .ok (.ifCond .gt 11, 3) := by decide +kernel
theorem d_Mo_saw_28 : decode prog_8_method_15_code 28 = .ok (.iload_n 1, 1) := by decide +kernel
theorem d_Mo_saw_29 : decode prog_8_method_15_code 29 = .ok (.aload_n 0, 1) := by decide +kernel
theorem d_Mo_saw_30 : decode prog_8_method_15_code 30 = .ok (.getfield 143, 3) := by decide +kernel
theorem d_Mo_saw_33 : decode prog_8_method_15_code 33 = .ok (.if_icmp .ne 5, 3) := by decide +kernel
theorem d_Mo_saw_36 : decode prog_8_method_15_code 36 = .ok (.iconst 0, 1) := by decide +kernel
theorem d_Mo_saw_37 : decode prog_8_method_15_code 37 = .ok (.ireturn, 1) := by decide +kernel
theorem d_Mo_saw_38 : decode prog_8_method_15_code 38 = .ok (.aload_n 0, 1) := by decide +kernel
theorem d_Mo_saw_39 : decode prog_8_method_15_code 39 = .ok (.iload_n 1, 1) := by decide +kernel
theorem d_Mo_saw_40 : decode prog_8_method_15_code 40 = .ok (.putfield 143, 3) := by decide +kernel
