theorem d_Cu_init_0 : decode prog_2_method_1_code 0 = .ok (.aload_n 0, 1) := by decide +kernel
theorem d_Cu_init_1 : decode prog_2_method_1_code 1 = .ok (.invokespecial 3, 3) := by decide +kernel
theorem d_Cu_init_4 : decode prog_2_method_1_code 4 = .ok (.aload_n 0, 1) := by decide +kernel
theorem d_Cu_init_5 : decode prog_2_method_1_code 5 = .ok (.bipush 81, 2) := by decide +kernel
theorem d_Cu_init_7 : decode prog_2_method_1_code 7 = .ok (.newarray .long, 2) := by decide +kernel
theorem d_Cu_init_9 : decode prog_2_method_1_code 9 = .ok (.putfield 9, 3) := by decide +kernel
theorem d_Cu_init_12 : decode prog_2_method_1_code 12 = .ok (.aload_n 0, 1) := by decide +kernel
theorem d_Cu_init_13 : decode prog_2_method_1_code 13 = .ok (.bipush 80, 2) := by decide +kernel
theorem d_Cu_init_15 : decode prog_2_method_1_code 15 = .ok (.newarray .int, 2) := by decide +kernel
theorem d_Cu_init_17 : decode prog_2_method_1_code 17 = .ok (.putfield 15, 3) := by decide +kernel
theorem d_Cu_init_20 : decode prog_2_method_1_code 20 = .ok (.aload_n 0, 1) := by decide +kernel
theorem d_Cu_init_21 : decode prog_2_method_1_code 21 = .ok (.bipush 80, 2) := by decide +kernel
theorem d_Cu_init_23 : decode prog_2_method_1_code 23 = .ok (.newarray .int, 2) := by decide +kernel
theorem d_Cu_init_25 : decode prog_2_method_1_code 25 = .ok (.putfield 19, 3) := by decide +kernel
theorem d_Cu_init_28 : decode prog_2_method_1_code 28 = .ok (.aload_n 0, 1) := by decide +kernel
theorem d_Cu_init_29 : decode prog_2_method_1_code 29 = .ok (.bipush 8, 2) := by decide +kernel
theorem d_Cu_init_31 : decode prog_2_method_1_code 31 = .ok (.anewarray 22, 3) := by decide +kernel
theorem d_Cu_init_34 : decode prog_2_method_1_code 34 = .ok (.putfield 24, 3) := by decide +kernel
theorem d_Cu_init_37 : decode prog_2_method_1_code 37 = .ok (.iconst 0, 1) := by decide +kernel
theorem d_Cu_init_38 : decode prog_2_method_1_code 38 = .ok (.istore_n 1, 1) := by decide +kernel
theorem d_Cu_init_39 : decode prog_2_method_1_code 39 = .ok (.iload_n 1, 1) := by decide +kernel
theorem d_Cu_init_40 : decode prog_2_method_1_code 40 = .ok (.bipush 8, 2) := by decide +kernel
theorem d_Cu_init_42 : decode prog_2_method_1_code 42 = .ok (.if_icmp .ge 22, 3) := by decide +kernel
theorem d_Cu_init_45 : decode prog_2_method_1_code 45 = .ok (.aload_n 0, 1) := by decide +kernel
theorem d_Cu_init_46 : decode prog_2_method_1_code 46 = .ok (.getfield 24, 3) := by decide +kernel
theorem d_Cu_init_49 : decode prog_2_method_1_code 49 = .ok (.iload_n 1, 1) := by decide +kernel
theorem d_Cu_init_50 : decode prog_2_method_1_code 50 = .ok (.new 22, 3) := by decide +kernel
theorem d_Cu_init_53 : decode prog_2_method_1_code 53 = .ok (.dup, 1) := by decide +kernel
theorem d_Cu_init_54 : decode prog_2_method_1_code 54 = .ok (.invokespecial 28, 3) := by decide +kernel
theorem d_Cu_init_57 : decode prog_2_method_1_code 57 = .ok (.aastore, 1) := by decide +kernel
theorem d_Cu_init_58 : decode prog_2_method_1_code 58 = .ok (.iinc 1 1, 3) := by decide +kernel
theorem d_Cu_init_61 : decode prog_2_method_1_code 61 = .ok (.goto (-22), 3) := by decide +kernel
theorem d_Cu_init_64 : decode prog_2_method_1_code 64 = .ok (.return_, 1) := by decide +kernel
theorem d_Cu_endOf_0 : decode prog_2_method_2_code 0 = .ok (.lload_n 0, 1) := by decide +kernel
theorem d_Cu_endOf_1 : decode prog_2_method_2_code 1 = .ok (.ldc2_w 29, 3) := by decide +kernel
theorem d_Cu_endOf_4 : decode prog_2_method_2_code 4 = .ok (.invokestatic 31, 3) := by decide +kernel
theorem d_Cu_endOf_7 : decode prog_2_method_2_code 7 = .ok (.l2i, 1) := by decide +kernel
theorem d_Cu_endOf_8 : decode prog_2_method_2_code 8 = .ok (.ireturn, 1) := by decide +kernel
theorem d_Cu_workOut_0 : decode prog_2_method_3_code 0 = .ok (.iconst 0, 1) := by decide +kernel
theorem d_Cu_workOut_1 : decode prog_2_method_3_code 1 = .ok (.istore 6, 2) := by decide +kernel
theorem d_Cu_workOut_3 : decode prog_2_method_3_code 3 = .ok (.iload 6, 2) := by decide +kernel
theorem d_Cu_workOut_5 : decode prog_2_method_3_code 5 = .ok (.iload 4, 2) := by decide +kernel
theorem d_Cu_workOut_7 : decode prog_2_method_3_code 7 = .ok (.if_icmp .ge 19, 3) := by decide +kernel
theorem d_Cu_workOut_10 : decode prog_2_method_3_code 10 = .ok (.aload_n 0, 1) := by decide +kernel
theorem d_Cu_workOut_11 : decode prog_2_method_3_code 11 = .ok (.getfield 24, 3) := by decide +kernel
theorem d_Cu_workOut_14 : decode prog_2_method_3_code 14 = .ok (.iload 6, 2) := by decide +kernel
theorem d_Cu_workOut_16 : decode prog_2_method_3_code 16 = .ok (.aaload, 1) := by decide +kernel
theorem d_Cu_workOut_17 : decode prog_2_method_3_code 17 = .ok (.invokevirtual 37, 3) := by decide +kernel
theorem d_Cu_workOut_20 : decode prog_2_method_3_code 20 = .ok (.iinc 6 1, 3) := by decide +kernel
theorem d_Cu_workOut_23 : decode prog_2_method_3_code 23 = .ok (.goto (-20), 3) := by decide +kernel
theorem d_Cu_workOut_26 : decode prog_2_method_3_code 26 = .ok (.aload_n 0, 1) := by decide +kernel
theorem d_Cu_workOut_27 : decode prog_2_method_3_code 27 = .ok (.getfield 9, 3) := by decide +kernel
theorem d_Cu_workOut_30 : decode prog_2_method_3_code 30 = .ok (.aload_n 1, 1) := by decide +kernel
theorem d_Cu_workOut_31 : decode prog_2_method_3_code 31 = .ok (.getfield 40, 3) := by decide +kernel
theorem d_Cu_workOut_34 : decode prog_2_method_3_code 34 = .ok (.lconst 0, 1) := by decide +kernel
theorem d_Cu_workOut_35 : decode prog_2_method_3_code 35 = .ok (.lastore, 1) := by decide +kernel
theorem d_Cu_workOut_36 : decode prog_2_method_3_code 36 = .ok (.aload_n 1, 1) := by decide +kernel
theorem d_Cu_workOut_37 : decode prog_2_method_3_code 37 = .ok (.getfield 40, 3) := by decide +kernel
theorem d_Cu_workOut_40 : decode prog_2_method_3_code 40 = .ok (.iconst 1, 1) := by decide +kernel
theorem d_Cu_workOut_41 : decode prog_2_method_3_code 41 = .ok (.isub, 1) := by decide +kernel
theorem d_Cu_workOut_42 : decode prog_2_method_3_code 42 = .ok (.istore 6, 2) := by decide +kernel
theorem d_Cu_workOut_44 : decode prog_2_method_3_code 44 = .ok (.iload 6, 2) := by decide +kernel
theorem d_Cu_workOut_46 : decode prog_2_method_3_code 46 = .ok (.ifCond .lt 159, 3) := by decide +kernel
theorem d_Cu_workOut_49 : decode prog_2_method_3_code 49 = .ok (.aload_n 0, 1) := by decide +kernel
theorem d_Cu_workOut_50 : decode prog_2_method_3_code 50 = .ok (.getfield 9, 3) := by decide +kernel
theorem d_Cu_workOut_53 : decode prog_2_method_3_code 53 = .ok (.iload 6, 2) := by decide +kernel
theorem d_Cu_workOut_55 : decode prog_2_method_3_code 55 = .ok (.iconst 1, 1) := by decide +kernel
theorem d_Cu_workOut_56 : decode prog_2_method_3_code 56 = .ok (.iadd, 1) := by decide +kernel
theorem d_Cu_workOut_57 : decode prog_2_method_3_code 57 = .ok (.laload, 1) := by decide +kernel
theorem d_Cu_workOut_58 : decode prog_2_method_3_code 58 = .ok (.ldc2_w 29, 3) := by decide +kernel
theorem d_Cu_workOut_61 : decode prog_2_method_3_code 61 = .ok (.lmul, 1) := by decide +kernel
theorem d_Cu_workOut_62 : decode prog_2_method_3_code 62 = .ok (.iload 6, 2) := by decide +kernel
theorem d_Cu_workOut_64 : decode prog_2_method_3_code 64 = .ok (.i2l, 1) := by decide +kernel
theorem d_Cu_workOut_65 : decode prog_2_method_3_code 65 = .ok (.ladd, 1) := by decide +kernel
theorem d_Cu_workOut_66 : decode prog_2_method_3_code 66 = .ok (.lstore 7, 2) := by decide +kernel
theorem d_Cu_workOut_68 : decode prog_2_method_3_code 68 = .ok (.aload_n 0, 1) := by decide +kernel
theorem d_Cu_workOut_69 : decode prog_2_method_3_code 69 = .ok (.getfield 19, 3) := by decide +kernel
theorem d_Cu_workOut_72 : decode prog_2_method_3_code 72 = .ok (.iload 6, 2) := by decide +kernel
theorem d_Cu_workOut_74 : decode prog_2_method_3_code 74 = .ok (.iconst (-1), 1) := by decide +kernel
theorem d_Cu_workOut_75 : decode prog_2_method_3_code 75 = .ok (.iastore, 1) := by decide +kernel
theorem d_Cu_workOut_76 : decode prog_2_method_3_code 76 = .ok (.iconst 0, 1) := by decide +kernel
theorem d_Cu_workOut_77 : decode prog_2_method_3_code 77 = .ok (.istore 9, 2) := by decide +kernel
theorem d_Cu_workOut_79 : decode prog_2_method_3_code 79 = .ok (.iload 9, 2) := by decide +kernel
theorem d_Cu_workOut_81 : decode prog_2_method_3_code 81 = .ok (.iload 4, 2) := by decide +kernel
theorem d_Cu_workOut_83 : decode prog_2_method_3_code 83 = .ok (.if_icmp .ge 89, 3) := by decide +kernel
theorem d_Cu_workOut_86 : decode prog_2_method_3_code 86 = .ok (.aload_n 0, 1) := by decide +kernel
theorem d_Cu_workOut_87 : decode prog_2_method_3_code 87 = .ok (.aload_n 1, 1) := by decide +kernel
theorem d_Cu_workOut_88 : decode prog_2_method_3_code 88 = .ok (.aload_n 0, 1) := by decide +kernel
theorem d_Cu_workOut_89 : decode prog_2_method_3_code 89 = .ok (.getfield 24, 3) := by decide +kernel
theorem d_Cu_workOut_92 : decode prog_2_method_3_code 92 = .ok (.iload 9, 2) := by decide +kernel
theorem d_Cu_workOut_94 : decode prog_2_method_3_code 94 = .ok (.aaload, 1) := by decide +kernel
theorem d_Cu_workOut_95 : decode prog_2_method_3_code 95 = .ok (.aload_n 3, 1) := by decide +kernel
theorem d_Cu_workOut_96 : decode prog_2_method_3_code 96 = .ok (.iload 9, 2) := by decide +kernel
theorem d_Cu_workOut_98 : decode prog_2_method_3_code 98 = .ok (.aaload, 1) := by decide +kernel
theorem d_Cu_workOut_99 : decode prog_2_method_3_code 99 = .ok (.iload 6, 2) := by decide +kernel
theorem d_Cu_workOut_101 : decode prog_2_method_3_code 101 = .ok (.iload 5, 2) := by decide +kernel
theorem d_Cu_workOut_103 : decode prog_2_method_3_code 103 = .ok (.invokevirtual 46, 3) := by decide +kernel
theorem d_Cu_workOut_106 : decode prog_2_method_3_code 106 = .ok (.aload_n 0, 1) := by decide +kernel
theorem d_Cu_workOut_107 : decode prog_2_method_3_code 107 = .ok (.getfield 24, 3) := by decide +kernel
theorem d_Cu_workOut_110 : decode prog_2_method_3_code 110 = .ok (.iload 9, 2) := by decide +kernel
theorem d_Cu_workOut_112 : decode prog_2_method_3_code 112 = .ok (.aaload, 1) := by decide +kernel
theorem d_Cu_workOut_113 : decode prog_2_method_3_code 113 = .ok (.aload_n 1, 1) := by decide +kernel
theorem d_Cu_workOut_114 : decode prog_2_method_3_code 114 = .ok (.getfield 50, 3) := by decide +kernel
theorem d_Cu_workOut_117 : decode prog_2_method_3_code 117 = .ok (.iload 9, 2) := by decide +kernel
theorem d_Cu_workOut_119 : decode prog_2_method_3_code 119 = .ok (.aaload, 1) := by decide +kernel
theorem d_Cu_workOut_120 : decode prog_2_method_3_code 120 = .ok (.iload 6, 2) := by decide +kernel
theorem d_Cu_workOut_122 : decode prog_2_method_3_code 122 = .ok (.iaload, 1) := by decide +kernel
theorem d_Cu_workOut_123 : decode prog_2_method_3_code 123 = .ok (.invokevirtual 54, 3) := by decide +kernel
theorem d_Cu_workOut_126 : decode prog_2_method_3_code 126 = .ok (.aload_n 0, 1) := by decide +kernel
theorem d_Cu_workOut_127 : decode prog_2_method_3_code 127 = .ok (.getfield 24, 3) := by decide +kernel
theorem d_Cu_workOut_130 : decode prog_2_method_3_code 130 = .ok (.iload 9, 2) := by decide +kernel
theorem d_Cu_workOut_132 : decode prog_2_method_3_code 132 = .ok (.aaload, 1) := by decide +kernel
theorem d_Cu_workOut_133 : decode prog_2_method_3_code 133 = .ok (.aload_n 3, 1) := by decide +kernel
theorem d_Cu_workOut_134 : decode prog_2_method_3_code 134 = .ok (.iload 9, 2) := by decide +kernel
theorem d_Cu_workOut_136 : decode prog_2_method_3_code 136 = .ok (.aaload, 1) := by decide +kernel
theorem d_Cu_workOut_137 : decode prog_2_method_3_code 137 = .ok (.iload 6, 2) := by decide +kernel
theorem d_Cu_workOut_139 : decode prog_2_method_3_code 139 = .ok (.iload_n 2, 1) := by decide +kernel
theorem d_Cu_workOut_140 : decode prog_2_method_3_code 140 = .ok (.invokestatic 58, 3) := by decide +kernel
theorem d_Cu_workOut_143 : decode prog_2_method_3_code 143 = .ok (.lstore 10, 2) := by decide +kernel
theorem d_Cu_workOut_145 : decode prog_2_method_3_code 145 = .ok (.lload 10, 2) := by decide +kernel
theorem d_Cu_workOut_147 : decode prog_2_method_3_code 147 = .ok (.lload 7, 2) := by decide +kernel
theorem d_Cu_workOut_149 : decode prog_2_method_3_code 149 = .ok (.lcmp, 1) := by decide +kernel
theorem d_Cu_workOut_150 : decode prog_2_method_3_code 150 = .ok (.ifCond .le 16, 3) := by decide +kernel
theorem d_Cu_workOut_153 : decode prog_2_method_3_code 153 = .ok (.lload 10, 2) := by decide +kernel
theorem d_Cu_workOut_155 : decode prog_2_method_3_code 155 = .ok (.lstore 7, 2) := by decide +kernel
theorem d_Cu_workOut_157 : decode prog_2_method_3_code 157 = .ok (.aload_n 0, 1) := by decide +kernel
theorem d_Cu_workOut_158 : decode prog_2_method_3_code 158 = .ok (.getfield 19, 3) := by decide +kernel
theorem d_Cu_workOut_161 : decode prog_2_method_3_code 161 = .ok (.iload 6, 2) := by decide +kernel
theorem d_Cu_workOut_163 : decode prog_2_method_3_code 163 = .ok (.iload 9, 2) := by decide +kernel
theorem d_Cu_workOut_165 : decode prog_2_method_3_code 165 = .ok (.iastore, 1) := by decide +kernel
theorem d_Cu_workOut_166 : decode prog_2_method_3_code 166 = .ok (.iinc 9 1, 3) := by decide +kernel
theorem d_Cu_workOut_169 : decode prog_2_method_3_code 169 = .ok (.goto (-90), 3) := by decide +kernel
theorem d_Cu_workOut_172 : decode prog_2_method_3_code 172 = .ok (.aload_n 0, 1) := by decide +kernel
theorem d_Cu_workOut_173 : decode prog_2_method_3_code 173 = .ok (.getfield 9, 3) := by decide +kernel
theorem d_Cu_workOut_176 : decode prog_2_method_3_code 176 = .ok (.iload 6, 2) := by decide +kernel
theorem d_Cu_workOut_178 : decode prog_2_method_3_code 178 = .ok (.lload 7, 2) := by decide +kernel
theorem d_Cu_workOut_180 : decode prog_2_method_3_code 180 = .ok (.ldc2_w 29, 3) := by decide +kernel
theorem d_Cu_workOut_183 : decode prog_2_method_3_code 183 = .ok (.invokestatic 62, 3) := by decide +kernel
theorem d_Cu_workOut_186 : decode prog_2_method_3_code 186 = .ok (.lastore, 1) := by decide +kernel
theorem d_Cu_workOut_187 : decode prog_2_method_3_code 187 = .ok (.aload_n 0, 1) := by decide +kernel
theorem d_Cu_workOut_188 : decode prog_2_method_3_code 188 = .ok (.getfield 15, 3) := by decide +kernel
theorem d_Cu_workOut_191 : decode prog_2_method_3_code 191 = .ok (.iload 6, 2) := by decide +kernel
theorem d_Cu_workOut_193 : decode prog_2_method_3_code 193 = .ok (.lload 7, 2) := by decide +kernel
theorem d_Cu_workOut_195 : decode prog_2_method_3_code 195 = .ok (.invokestatic 65, 3) := by decide +kernel
theorem d_Cu_workOut_198 : decode prog_2_method_3_code 198 = .ok (.iastore, 1) := by decide +kernel
theorem d_Cu_workOut_199 : decode prog_2_method_3_code 199 = .ok (.iinc 6 (-1), 3) := by decide +kernel
theorem d_Cu_workOut_202 : decode prog_2_method_3_code 202 = .ok (.goto (-158), 3) := by decide +kernel
theorem d_Cu_workOut_205 : decode prog_2_method_3_code 205 = .ok (.return_, 1) := by decide +kernel
theorem d_Cu_letEndIn_0 : decode prog_2_method_4_code 0 = .ok (.iload 4, 2) := by decide +kernel
theorem d_Cu_letEndIn_2 : decode prog_2_method_4_code 2 = .ok (.aload_n 3, 1) := by decide +kernel
theorem d_Cu_letEndIn_3 : decode prog_2_method_4_code 3 = .ok (.getfield 69, 3) := by decide +kernel
theorem d_Cu_letEndIn_6 : decode prog_2_method_4_code 6 = .ok (.iadd, 1) := by decide +kernel
theorem d_Cu_letEndIn_7 : decode prog_2_method_4_code 7 = .ok (.istore 6, 2) := by decide +kernel
theorem d_Cu_letEndIn_9 : decode prog_2_method_4_code 9 = .ok (.iload 6, 2) := by decide +kernel
theorem d_Cu_letEndIn_11 : decode prog_2_method_4_code 11 = .ok (.aload_n 1, 1) := by decide +kernel
theorem d_Cu_letEndIn_12 : decode prog_2_method_4_code 12 = .ok (.getfield 40, 3) := by decide +kernel
theorem d_Cu_letEndIn_15 : decode prog_2_method_4_code 15 = .ok (.if_icmp .gt 49, 3) := by decide +kernel
theorem d_Cu_letEndIn_18 : decode prog_2_method_4_code 18 = .ok (.aload_n 0, 1) := by decide +kernel
theorem d_Cu_letEndIn_19 : decode prog_2_method_4_code 19 = .ok (.getfield 9, 3) := by decide +kernel
theorem d_Cu_letEndIn_22 : decode prog_2_method_4_code 22 = .ok (.iload 6, 2) := by decide +kernel
theorem d_Cu_letEndIn_24 : decode prog_2_method_4_code 24 = .ok (.iload 5, 2) := by decide +kernel
theorem d_Cu_letEndIn_26 : decode prog_2_method_4_code 26 = .ok (.iadd, 1) := by decide +kernel
theorem d_Cu_letEndIn_27 : decode prog_2_method_4_code 27 = .ok (.aload_n 1, 1) := by decide +kernel
theorem d_Cu_letEndIn_28 : decode prog_2_method_4_code 28 = .ok (.getfield 40, 3) := by decide +kernel
theorem d_Cu_letEndIn_31 : decode prog_2_method_4_code 31 = .ok (.invokestatic 74, 3) := by decide +kernel
theorem d_Cu_letEndIn_34 : decode prog_2_method_4_code 34 = .ok (.laload, 1) := by decide +kernel
theorem d_Cu_letEndIn_35 : decode prog_2_method_4_code 35 = .ok (.lstore 7, 2) := by decide +kernel
theorem d_Cu_letEndIn_37 : decode prog_2_method_4_code 37 = .ok (.aload_n 2, 1) := by decide +kernel
theorem d_Cu_letEndIn_38 : decode prog_2_method_4_code 38 = .ok (.aload_n 3, 1) := by decide +kernel
theorem d_Cu_letEndIn_39 : decode prog_2_method_4_code 39 = .ok (.getfield 78, 3) := by decide +kernel
theorem d_Cu_letEndIn_42 : decode prog_2_method_4_code 42 = .ok (.iload 6, 2) := by decide +kernel
theorem d_Cu_letEndIn_44 : decode prog_2_method_4_code 44 = .ok (.i2l, 1) := by decide +kernel
theorem d_Cu_letEndIn_45 : decode prog_2_method_4_code 45 = .ok (.lmul, 1) := by decide +kernel
theorem d_Cu_letEndIn_46 : decode prog_2_method_4_code 46 = .ok (.ldc2_w 29, 3) := by decide +kernel
theorem d_Cu_letEndIn_49 : decode prog_2_method_4_code 49 = .ok (.lmul, 1) := by decide +kernel
theorem d_Cu_letEndIn_50 : decode prog_2_method_4_code 50 = .ok (.lload 7, 2) := by decide +kernel
theorem d_Cu_letEndIn_52 : decode prog_2_method_4_code 52 = .ok (.ladd, 1) := by decide +kernel
theorem d_Cu_letEndIn_53 : decode prog_2_method_4_code 53 = .ok (.ldc2_w 29, 3) := by decide +kernel
theorem d_Cu_letEndIn_56 : decode prog_2_method_4_code 56 = .ok (.lmul, 1) := by decide +kernel
theorem d_Cu_letEndIn_57 : decode prog_2_method_4_code 57 = .ok (.iload 6, 2) := by decide +kernel
theorem d_Cu_letEndIn_59 : decode prog_2_method_4_code 59 = .ok (.i2l, 1) := by decide +kernel
theorem d_Cu_letEndIn_60 : decode prog_2_method_4_code 60 = .ok (.ladd, 1) := by decide +kernel
theorem d_Cu_letEndIn_61 : decode prog_2_method_4_code 61 = .ok (.invokevirtual 82, 3) := by decide +kernel
theorem d_Cu_letEndIn_64 : decode prog_2_method_4_code 64 = .ok (.return_, 1) := by decide +kernel
theorem d_Cu_rankOfBest_0 : decode prog_2_method_5_code 0 = .ok (.aload_n 0, 1) := by decide +kernel
theorem d_Cu_rankOfBest_1 : decode prog_2_method_5_code 1 = .ok (.getfield 86, 3) := by decide +kernel
theorem d_Cu_rankOfBest_4 : decode prog_2_method_5_code 4 = .ok (.aload_n 0, 1) := by decide +kernel
theorem d_Cu_rankOfBest_5 : decode prog_2_method_5_code 5 = .ok (.getfield 89, 3) := by decide +kernel
theorem d_Cu_rankOfBest_8 : decode prog_2_method_5_code 8 = .ok (.if_icmp .lt 7, 3) := by decide +kernel
theorem d_Cu_rankOfBest_11 : decode prog_2_method_5_code 11 = .ok (.ldc2_w 92, 3) := by decide +kernel
theorem d_Cu_rankOfBest_14 : decode prog_2_method_5_code 14 = .ok (.lreturn, 1) := by decide +kernel
theorem d_Cu_rankOfBest_15 : decode prog_2_method_5_code 15 = .ok (.aload_n 1, 1) := by decide +kernel
theorem d_Cu_rankOfBest_16 : decode prog_2_method_5_code 16 = .ok (.getfield 94, 3) := by decide +kernel
theorem d_Cu_rankOfBest_19 : decode prog_2_method_5_code 19 = .ok (.iload_n 3, 1) := by decide +kernel
theorem d_Cu_rankOfBest_20 : decode prog_2_method_5_code 20 = .ok (.laload, 1) := by decide +kernel
theorem d_Cu_rankOfBest_21 : decode prog_2_method_5_code 21 = .ok (.aload_n 1, 1) := by decide +kernel
theorem d_Cu_rankOfBest_22 : decode prog_2_method_5_code 22 = .ok (.getfield 97, 3) := by decide +kernel
theorem d_Cu_rankOfBest_25 : decode prog_2_method_5_code 25 = .ok (.lsub, 1) := by decide +kernel
theorem d_Cu_rankOfBest_26 : decode prog_2_method_5_code 26 = .ok (.aload_n 1, 1) := by decide +kernel
theorem d_Cu_rankOfBest_27 : decode prog_2_method_5_code 27 = .ok (.getfield 78, 3) := by decide +kernel
theorem d_Cu_rankOfBest_30 : decode prog_2_method_5_code 30 = .ok (.iload_n 2, 1) := by decide +kernel
theorem d_Cu_rankOfBest_31 : decode prog_2_method_5_code 31 = .ok (.i2l, 1) := by decide +kernel
theorem d_Cu_rankOfBest_32 : decode prog_2_method_5_code 32 = .ok (.lmul, 1) := by decide +kernel
theorem d_Cu_rankOfBest_33 : decode prog_2_method_5_code 33 = .ok (.lsub, 1) := by decide +kernel
theorem d_Cu_rankOfBest_34 : decode prog_2_method_5_code 34 = .ok (.lstore 4, 2) := by decide +kernel
theorem d_Cu_rankOfBest_36 : decode prog_2_method_5_code 36 = .ok (.aload_n 0, 1) := by decide +kernel
theorem d_Cu_rankOfBest_37 : decode prog_2_method_5_code 37 = .ok (.getfield 100, 3) := by decide +kernel
theorem d_Cu_rankOfBest_40 : decode prog_2_method_5_code 40 = .ok (.aload_n 0, 1) := by decide +kernel
theorem d_Cu_rankOfBest_41 : decode prog_2_method_5_code 41 = .ok (.getfield 86, 3) := by decide +kernel
theorem d_Cu_rankOfBest_44 : decode prog_2_method_5_code 44 = .ok (.laload, 1) := by decide +kernel
theorem d_Cu_rankOfBest_45 : decode prog_2_method_5_code 45 = .ok (.lload 4, 2) := by decide +kernel
theorem d_Cu_rankOfBest_47 : decode prog_2_method_5_code 47 = .ok (.ldc2_w 29, 3) := by decide +kernel
theorem d_Cu_rankOfBest_50 : decode prog_2_method_5_code 50 = .ok (.lmul, 1) := by decide +kernel
theorem d_Cu_rankOfBest_51 : decode prog_2_method_5_code 51 = .ok (.lconst 1, 1) := by decide +kernel
theorem d_Cu_rankOfBest_52 : decode prog_2_method_5_code 52 = .ok (.lsub, 1) := by decide +kernel
theorem d_Cu_rankOfBest_53 : decode prog_2_method_5_code 53 = .ok (.ldc2_w 29, 3) := by decide +kernel
theorem d_Cu_rankOfBest_56 : decode prog_2_method_5_code 56 = .ok (.lmul, 1) := by decide +kernel
theorem d_Cu_rankOfBest_57 : decode prog_2_method_5_code 57 = .ok (.ladd, 1) := by decide +kernel
theorem d_Cu_rankOfBest_58 : decode prog_2_method_5_code 58 = .ok (.lreturn, 1) := by decide +kernel
theorem d_Cu_writeTo_0 : decode prog_2_method_6_code 0 = .ok (.iconst 0, 1) := by decide +kernel
theorem d_Cu_writeTo_1 : decode prog_2_method_6_code 1 = .ok (.istore 6, 2) := by decide +kernel
theorem d_Cu_writeTo_3 : decode prog_2_method_6_code 3 = .ok (.iconst 0, 1) := by decide +kernel
theorem d_Cu_writeTo_4 : decode prog_2_method_6_code 4 = .ok (.istore 7, 2) := by decide +kernel
theorem d_Cu_writeTo_6 : decode prog_2_method_6_code 6 = .ok (.iload 7, 2) := by decide +kernel
theorem d_Cu_writeTo_8 : decode prog_2_method_6_code 8 = .ok (.aload_n 2, 1) := by decide +kernel
theorem d_Cu_writeTo_9 : decode prog_2_method_6_code 9 = .ok (.getfield 40, 3) := by decide +kernel
theorem d_Cu_writeTo_12 : decode prog_2_method_6_code 12 = .ok (.if_icmp .ge 101, 3) := by decide +kernel
theorem d_Cu_writeTo_15 : decode prog_2_method_6_code 15 = .ok (.iload 7, 2) := by decide +kernel
theorem d_Cu_writeTo_17 : decode prog_2_method_6_code 17 = .ok (.iload 6, 2) := by decide +kernel
theorem d_Cu_writeTo_19 : decode prog_2_method_6_code 19 = .ok (.if_icmp .lt 25, 3) := by decide +kernel
theorem d_Cu_writeTo_22 : decode prog_2_method_6_code 22 = .ok (.aload_n 0, 1) := by decide +kernel
theorem d_Cu_writeTo_23 : decode prog_2_method_6_code 23 = .ok (.getfield 19, 3) := by decide +kernel
theorem d_Cu_writeTo_26 : decode prog_2_method_6_code 26 = .ok (.iload 7, 2) := by decide +kernel
theorem d_Cu_writeTo_28 : decode prog_2_method_6_code 28 = .ok (.iaload, 1) := by decide +kernel
theorem d_Cu_writeTo_29 : decode prog_2_method_6_code 29 = .ok (.iconst (-1), 1) := by decide +kernel
theorem d_Cu_writeTo_30 : decode prog_2_method_6_code 30 = .ok (.if_icmp .ne 14, 3) := by decide +kernel
theorem d_Cu_writeTo_33 : decode prog_2_method_6_code 33 = .ok (.aload_n 1, 1) := by decide +kernel
theorem d_Cu_writeTo_34 : decode prog_2_method_6_code 34 = .ok (.iload_n 3, 1) := by decide +kernel
theorem d_Cu_writeTo_35 : decode prog_2_method_6_code 35 = .ok (.iload 7, 2) := by decide +kernel
theorem d_Cu_writeTo_37 : decode prog_2_method_6_code 37 = .ok (.iconst 1, 1) := by decide +kernel
theorem d_Cu_writeTo_38 : decode prog_2_method_6_code 38 = .ok (.invokevirtual 103, 3) := by decide +kernel
theorem d_Cu_writeTo_41 : decode prog_2_method_6_code 41 = .ok (.goto 66, 3) := by decide +kernel
theorem d_Cu_writeTo_44 : decode prog_2_method_6_code 44 = .ok (.iload 7, 2) := by decide +kernel
theorem d_Cu_writeTo_46 : decode prog_2_method_6_code 46 = .ok (.iload 6, 2) := by decide +kernel
theorem d_Cu_writeTo_48 : decode prog_2_method_6_code 48 = .ok (.if_icmp .lt 59, 3) := by decide +kernel
theorem d_Cu_writeTo_51 : decode prog_2_method_6_code 51 = .ok (.aload_n 0, 1) := by decide +kernel
theorem d_Cu_writeTo_52 : decode prog_2_method_6_code 52 = .ok (.getfield 15, 3) := by decide +kernel
theorem d_Cu_writeTo_55 : decode prog_2_method_6_code 55 = .ok (.iload 7, 2) := by decide +kernel
theorem d_Cu_writeTo_57 : decode prog_2_method_6_code 57 = .ok (.iaload, 1) := by decide +kernel
theorem d_Cu_writeTo_58 : decode prog_2_method_6_code 58 = .ok (.iload 7, 2) := by decide +kernel
theorem d_Cu_writeTo_60 : decode prog_2_method_6_code 60 = .ok (.isub, 1) := by decide +kernel
theorem d_Cu_writeTo_61 : decode prog_2_method_6_code 61 = .ok (.istore 8, 2) := by decide +kernel
theorem d_Cu_writeTo_63 : decode prog_2_method_6_code 63 = .ok (.aload_n 1, 1) := by decide +kernel
theorem d_Cu_writeTo_64 : decode prog_2_method_6_code 64 = .ok (.iload_n 3, 1) := by decide +kernel
theorem d_Cu_writeTo_65 : decode prog_2_method_6_code 65 = .ok (.iload 7, 2) := by decide +kernel
theorem d_Cu_writeTo_67 : decode prog_2_method_6_code 67 = .ok (.iload 8, 2) := by decide +kernel
theorem d_Cu_writeTo_69 : decode prog_2_method_6_code 69 = .ok (.aload_n 0, 1) := by decide +kernel
theorem d_Cu_writeTo_70 : decode prog_2_method_6_code 70 = .ok (.getfield 19, 3) := by decide +kernel
theorem d_Cu_writeTo_73 : decode prog_2_method_6_code 73 = .ok (.iload 7, 2) := by decide +kernel
theorem d_Cu_writeTo_75 : decode prog_2_method_6_code 75 = .ok (.iaload, 1) := by decide +kernel
theorem d_Cu_writeTo_76 : decode prog_2_method_6_code 76 = .ok (.aload 4, 2) := by decide +kernel
theorem d_Cu_writeTo_78 : decode prog_2_method_6_code 78 = .ok (.aload_n 0, 1) := by decide +kernel
theorem d_Cu_writeTo_79 : decode prog_2_method_6_code 79 = .ok (.getfield 19, 3) := by decide +kernel
theorem d_Cu_writeTo_82 : decode prog_2_method_6_code 82 = .ok (.iload 7, 2) := by decide +kernel
theorem d_Cu_writeTo_84 : decode prog_2_method_6_code 84 = .ok (.iaload, 1) := by decide +kernel
theorem d_Cu_writeTo_85 : decode prog_2_method_6_code 85 = .ok (.aaload, 1) := by decide +kernel
theorem d_Cu_writeTo_86 : decode prog_2_method_6_code 86 = .ok (.iload 8, 2) := by decide +kernel
theorem d_Cu_writeTo_88 : decode prog_2_method_6_code 88 = .ok (.iload_n 3, 1) := by decide +kernel
theorem d_Cu_writeTo_89 : decode prog_2_method_6_code 89 = .ok (.invokevirtual 109, 3) := by decide +kernel
theorem d_Cu_writeTo_92 : decode prog_2_method_6_code 92 = .ok (.invokevirtual 113, 3) := by decide +kernel
theorem d_Cu_writeTo_95 : decode prog_2_method_6_code 95 = .ok (.aload_n 0, 1) := by decide +kernel
theorem d_Cu_writeTo_96 : decode prog_2_method_6_code 96 = .ok (.getfield 15, 3) := by decide +kernel
theorem d_Cu_writeTo_99 : decode prog_2_method_6_code 99 = .ok (.iload 7, 2) := by decide +kernel
theorem d_Cu_writeTo_101 : decode prog_2_method_6_code 101 = .ok (.iaload, 1) := by decide +kernel
theorem d_Cu_writeTo_102 : decode prog_2_method_6_code 102 = .ok (.iload 5, 2) := by decide +kernel
theorem d_Cu_writeTo_104 : decode prog_2_method_6_code 104 = .ok (.iadd, 1) := by decide +kernel
theorem d_Cu_writeTo_105 : decode prog_2_method_6_code 105 = .ok (.istore 6, 2) := by decide +kernel
theorem d_Cu_writeTo_107 : decode prog_2_method_6_code 107 = .ok (.iinc 7 1, 3) := by decide +kernel
theorem d_Cu_writeTo_110 : decode prog_2_method_6_code 110 = .ok (.goto (-104), 3) := by decide +kernel
theorem d_Cu_writeTo_113 : decode prog_2_method_6_code 113 = .ok (.return_, 1) := by decide +kernel
