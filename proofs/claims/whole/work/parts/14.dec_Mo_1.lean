theorem d_Mo_saw_43 : decode prog_8_method_15_code 43 = .ok (.aload_n 0, 1) := by decide +kernel
theorem d_Mo_saw_44 : decode prog_8_method_15_code 44 = .ok (.iconst 1, 1) := by decide +kernel
theorem d_Mo_saw_45 : decode prog_8_method_15_code 45 = .ok (.invokevirtual 118, 3) := by decide +kernel
theorem d_Mo_saw_48 : decode prog_8_method_15_code 48 = .ok (.ireturn, 1) := by decide +kernel
theorem d_Mo_limit_0 : decode prog_8_method_16_code 0 = .ok (.aload_n 0, 1) := by decide +kernel
theorem d_Mo_limit_1 : decode prog_8_method_16_code 1 = .ok (.iload_n 1, 1) := by decide +kernel
theorem d_Mo_limit_2 : decode prog_8_method_16_code 2 = .ok (.invokevirtual 127, 3) := by decide +kernel
theorem d_Mo_limit_5 : decode prog_8_method_16_code 5 = .ok (.ifCond .eq 5, 3) := by decide +kernel
theorem d_Mo_limit_8 : decode prog_8_method_16_code 8 = .ok (.iconst 0, 1) := by decide +kernel
theorem d_Mo_limit_9 : decode prog_8_method_16_code 9 = .ok (.ireturn, 1) := by decide +kernel
theorem d_Mo_limit_10 : decode prog_8_method_16_code 10 = .ok (.aload_n 0, 1) := by decide +kernel
theorem d_Mo_limit_11 : decode prog_8_method_16_code 11 = .ok (.lload_n 2, 1) := by decide +kernel
theorem d_Mo_limit_12 : decode prog_8_method_16_code 12 = .ok (.lconst 0, 1) := by decide +kernel
theorem d_Mo_limit_13 : decode prog_8_method_16_code 13 = .ok (.ldc2_w 146, 3) := by decide +kernel
theorem d_Mo_limit_16 : decode prog_8_method_16_code 16 = .ok (.invokestatic 112, 3) := by decide +kernel
theorem d_Mo_limit_19 : decode prog_8_method_16_code 19 = .ok (.ifCond .eq 7, 3) := by decide +kernel
theorem d_Mo_limit_22 : decode prog_8_method_16_code 22 = .ok (.iconst 0, 1) := by decide +kernel
theorem d_Mo_limit_23 : decode prog_8_method_16_code 23 = .ok (.goto 4, 3) := by decide +kernel
theorem d_Mo_limit_26 : decode prog_8_method_16_code 26 = .ok (.iconst 2, 1) := by decide +kernel
theorem d_Mo_limit_27 : decode prog_8_method_16_code 27 = .ok (.putfield 103, 3) := by decide +kernel
theorem d_Mo_limit_30 : decode prog_8_method_16_code 30 = .ok (.aload_n 0, 1) := by decide +kernel
theorem d_Mo_limit_31 : decode prog_8_method_16_code 31 = .ok (.getfield 103, 3) := by decide +kernel
theorem d_Mo_limit_34 : decode prog_8_method_16_code 34 = .ok (.ifCond .gt 14, 3) := by decide +kernel
theorem d_Mo_limit_37 : decode prog_8_method_16_code 37 = .ok (.aload_n 0, 1) := by decide +kernel
theorem d_Mo_limit_38 : decode prog_8_method_16_code 38 = .ok (.getfield 61, 3) := by decide +kernel
theorem d_Mo_limit_41 : decode prog_8_method_16_code 41 = .ok (.iload_n 1, 1) := by decide +kernel
theorem d_Mo_limit_42 : decode prog_8_method_16_code 42 = .ok (.laload, 1) := by decide +kernel
theorem d_Mo_limit_43 : decode prog_8_method_16_code 43 = .ok (.lload_n 2, 1) := by decide +kernel
theorem d_Mo_limit_44 : decode prog_8_method_16_code 44 = .ok (.lcmp, 1) := by decide +kernel
theorem d_Mo_limit_45 : decode prog_8_method_16_code 45 = .ok (.ifCond .ne 5, 3) := by decide +kernel
theorem d_Mo_limit_48 : decode prog_8_method_16_code 48 = .ok (.iconst 0, 1) := by decide +kernel
theorem d_Mo_limit_49 : decode prog_8_method_16_code 49 = .ok (.ireturn, 1) := by decide +kernel
theorem d_Mo_limit_50 : decode prog_8_method_16_code 50 = .ok (.aload_n 0, 1) := by decide +kernel
theorem d_Mo_limit_51 : decode prog_8_method_16_code 51 = .ok (.getfield 61, 3) := by decide +kernel
theorem d_Mo_limit_54 : decode prog_8_method_16_code 54 = .ok (.iload_n 1, 1) := by decide +kernel
theorem d_Mo_limit_55 : decode prog_8_method_16_code 55 = .ok (.lload_n 2, 1) := by decide +kernel
theorem d_Mo_limit_56 : decode prog_8_method_16_code 56 = .ok (.lastore, 1) := by decide +kernel
theorem d_Mo_limit_57 : decode prog_8_method_16_code 57 = .ok (.aload_n 0, 1) := by decide +kernel
theorem d_Mo_limit_58 : decode prog_8_method_16_code 58 = .ok (.iconst 1, 1) := by decide +kernel
theorem d_Mo_limit_59 : decode prog_8_method_16_code 59 = .ok (.invokevirtual 118, 3) := by decide +kernel
theorem d_Mo_limit_62 : decode prog_8_method_16_code 62 = .ok (.ireturn, 1) := by decide +kernel
theorem d_Mo_wish_0 : decode prog_8_method_17_code 0 = .ok (.aload_n 0, 1) := by decide +kernel
theorem d_Mo_wish_1 : decode prog_8_method_17_code 1 = .ok (.iload_n 1, 1) := by decide +kernel
theorem d_Mo_wish_2 : decode prog_8_method_17_code 2 = .ok (.invokevirtual 127, 3) := by decide +kernel
theorem d_Mo_wish_5 : decode prog_8_method_17_code 5 = .ok (.ifCond .eq 5, 3) := by decide +kernel
theorem d_Mo_wish_8 : decode prog_8_method_17_code 8 = .ok (.iconst 0, 1) := by decide +kernel
theorem d_Mo_wish_9 : decode prog_8_method_17_code 9 = .ok (.ireturn, 1) := by decide +kernel
theorem d_Mo_wish_10 : decode prog_8_method_17_code 10 = .ok (.aload_n 0, 1) := by decide +kernel
theorem d_Mo_wish_11 : decode prog_8_method_17_code 11 = .ok (.iload_n 2, 1) := by decide +kernel
theorem d_Mo_wish_12 : decode prog_8_method_17_code 12 = .ok (.i2l, 1) := by decide +kernel
theorem d_Mo_wish_13 : decode prog_8_method_17_code 13 = .ok (.lconst 0, 1) := by decide +kernel
theorem d_Mo_wish_14 : decode prog_8_method_17_code 14 = .ok (.ldc2_w 148, 3) := by decide +kernel
theorem d_Mo_wish_17 : decode prog_8_method_17_code 17 = .ok (.invokestatic 112, 3) := by decide +kernel
theorem d_Mo_wish_20 : decode prog_8_method_17_code 20 = .ok (.ifCond .eq 18, 3) := by decide +kernel
theorem d_Mo_wish_23 : decode prog_8_method_17_code 23 = .ok (.lload_n 3, 1) := by decide +kernel
theorem d_Mo_wish_24 : decode prog_8_method_17_code 24 = .ok (.lconst 0, 1) := by decide +kernel
theorem d_Mo_wish_25 : decode prog_8_method_17_code 25 = .ok (.ldc2_w 116, 3) := by decide +kernel
theorem d_Mo_wish_28 : decode prog_8_method_17_code 28 = .ok (.invokestatic 112, 3) := by decide +kernel
theorem d_Mo_wish_31 : decode prog_8_method_17_code 31 = .ok (.ifCond .eq 7, 3) := by decide +kernel
theorem d_Mo_wish_34 : decode prog_8_method_17_code 34 = .ok (.iconst 0, 1) := by decide +kernel
theorem d_Mo_wish_35 : decode prog_8_method_17_code 35 = .ok (.goto 4, 3) := by decide +kernel
theorem d_Mo_wish_38 : decode prog_8_method_17_code 38 = .ok (.iconst 2, 1) := by decide +kernel
theorem d_Mo_wish_39 : decode prog_8_method_17_code 39 = .ok (.putfield 103, 3) := by decide +kernel
theorem d_Mo_wish_42 : decode prog_8_method_17_code 42 = .ok (.aload_n 0, 1) := by decide +kernel
theorem d_Mo_wish_43 : decode prog_8_method_17_code 43 = .ok (.getfield 103, 3) := by decide +kernel
theorem d_Mo_wish_46 : decode prog_8_method_17_code 46 = .ok (.ifCond .gt 19, 3) := by decide +kernel
theorem d_Mo_wish_49 : decode prog_8_method_17_code 49 = .ok (.aload_n 0, 1) := by decide +kernel
theorem d_Mo_wish_50 : decode prog_8_method_17_code 50 = .ok (.getfield 64, 3) := by decide +kernel
theorem d_Mo_wish_53 : decode prog_8_method_17_code 53 = .ok (.bipush 7, 2) := by decide +kernel
theorem d_Mo_wish_55 : decode prog_8_method_17_code 55 = .ok (.iload_n 1, 1) := by decide +kernel
theorem d_Mo_wish_56 : decode prog_8_method_17_code 56 = .ok (.imul, 1) := by decide +kernel
theorem d_Mo_wish_57 : decode prog_8_method_17_code 57 = .ok (.iload_n 2, 1) := by decide +kernel
theorem d_Mo_wish_58 : decode prog_8_method_17_code 58 = .ok (.iadd, 1) := by decide +kernel
theorem d_Mo_wish_59 : decode prog_8_method_17_code 59 = .ok (.laload, 1) := by decide +kernel
theorem d_Mo_wish_60 : decode prog_8_method_17_code 60 = .ok (.lload_n 3, 1) := by decide +kernel
theorem d_Mo_wish_61 : decode prog_8_method_17_code 61 = .ok (.lcmp, 1) := by decide +kernel
theorem d_Mo_wish_62 : decode prog_8_method_17_code 62 = .ok (.ifCond .ne 5, 3) := by decide +kernel
theorem d_Mo_wish_65 : decode prog_8_method_17_code 65 = .ok (.iconst 0, 1) := by decide +kernel
theorem d_Mo_wish_66 : decode prog_8_method_17_code 66 = .ok (.ireturn, 1) := by decide +kernel
theorem d_Mo_wish_67 : decode prog_8_method_17_code 67 = .ok (.aload_n 0, 1) := by decide +kernel
theorem d_Mo_wish_68 : decode prog_8_method_17_code 68 = .ok (.getfield 64, 3) := by decide +kernel
theorem d_Mo_wish_71 : decode prog_8_method_17_code 71 = .ok (.bipush 7, 2) := by decide +kernel
theorem d_Mo_wish_73 : decode prog_8_method_17_code 73 = .ok (.iload_n 1, 1) := by decide +kernel
theorem d_Mo_wish_74 : decode prog_8_method_17_code 74 = .ok (.imul, 1) := by decide +kernel
theorem d_Mo_wish_75 : decode prog_8_method_17_code 75 = .ok (.iload_n 2, 1) := by decide +kernel
theorem d_Mo_wish_76 : decode prog_8_method_17_code 76 = .ok (.iadd, 1) := by decide +kernel
theorem d_Mo_wish_77 : decode prog_8_method_17_code 77 = .ok (.lload_n 3, 1) := by decide +kernel
theorem d_Mo_wish_78 : decode prog_8_method_17_code 78 = .ok (.lastore, 1) := by decide +kernel
theorem d_Mo_wish_79 : decode prog_8_method_17_code 79 = .ok (.aload_n 0, 1) := by decide +kernel
theorem d_Mo_wish_80 : decode prog_8_method_17_code 80 = .ok (.iconst 1, 1) := by decide +kernel
theorem d_Mo_wish_81 : decode prog_8_method_17_code 81 = .ok (.invokevirtual 118, 3) := by decide +kernel
theorem d_Mo_wish_84 : decode prog_8_method_17_code 84 = .ok (.ireturn, 1) := by decide +kernel
theorem d_Mo_may_0 : decode prog_8_method_18_code 0 = .ok (.iload_n 2, 1) := by decide +kernel
theorem d_Mo_may_1 : decode prog_8_method_18_code 1 = .ok (.aload_n 0, 1) := by decide +kernel
theorem d_Mo_may_2 : decode prog_8_method_18_code 2 = .ok (.getfield 98, 3) := by decide +kernel
theorem d_Mo_may_5 : decode prog_8_method_18_code 5 = .ok (.imul, 1) := by decide +kernel
theorem d_Mo_may_6 : decode prog_8_method_18_code 6 = .ok (.istore 5, 2) := by decide +kernel
theorem d_Mo_may_8 : decode prog_8_method_18_code 8 = .ok (.iload_n 3, 1) := by decide +kernel
theorem d_Mo_may_9 : decode prog_8_method_18_code 9 = .ok (.aload_n 0, 1) := by decide +kernel
theorem d_Mo_may_10 : decode prog_8_method_18_code 10 = .ok (.getfield 98, 3) := by decide +kernel
theorem d_Mo_may_13 : decode prog_8_method_18_code 13 = .ok (.imul, 1) := by decide +kernel
theorem d_Mo_may_14 : decode prog_8_method_18_code 14 = .ok (.istore 6, 2) := by decide +kernel
theorem d_Mo_may_16 : decode prog_8_method_18_code 16 = .ok (.iload 6, 2) := by decide +kernel
theorem d_Mo_may_18 : decode prog_8_method_18_code 18 = .ok (.iload 5, 2) := by decide +kernel
theorem d_Mo_may_20 : decode prog_8_method_18_code 20 = .ok (.isub, 1) := by decide +kernel
theorem d_Mo_may_21 : decode prog_8_method_18_code 21 = .ok (.aload_n 0, 1) := by decide +kernel
theorem d_Mo_may_22 : decode prog_8_method_18_code 22 = .ok (.getfield 42, 3) := by decide +kernel
theorem d_Mo_may_25 : decode prog_8_method_18_code 25 = .ok (.iload 4, 2) := by decide +kernel
theorem d_Mo_may_27 : decode prog_8_method_18_code 27 = .ok (.iaload, 1) := by decide +kernel
theorem d_Mo_may_28 : decode prog_8_method_18_code 28 = .ok (.if_icmp .lt 18, 3) := by decide +kernel
theorem d_Mo_may_31 : decode prog_8_method_18_code 31 = .ok (.iload 6, 2) := by decide +kernel
theorem d_Mo_may_33 : decode prog_8_method_18_code 33 = .ok (.iload 5, 2) := by decide +kernel
theorem d_Mo_may_35 : decode prog_8_method_18_code 35 = .ok (.isub, 1) := by decide +kernel
theorem d_Mo_may_36 : decode prog_8_method_18_code 36 = .ok (.aload_n 0, 1) := by decide +kernel
theorem d_Mo_may_37 : decode prog_8_method_18_code 37 = .ok (.getfield 45, 3) := by decide +kernel
theorem d_Mo_may_40 : decode prog_8_method_18_code 40 = .ok (.iload 4, 2) := by decide +kernel
theorem d_Mo_may_42 : decode prog_8_method_18_code 42 = .ok (.iaload, 1) := by decide +kernel
theorem d_Mo_may_43 : decode prog_8_method_18_code 43 = .ok (.if_icmp .le 5, 3) := by decide +kernel
theorem d_Mo_may_46 : decode prog_8_method_18_code 46 = .ok (.iconst 0, 1) := by decide +kernel
theorem d_Mo_may_47 : decode prog_8_method_18_code 47 = .ok (.ireturn, 1) := by decide +kernel
theorem d_Mo_may_48 : decode prog_8_method_18_code 48 = .ok (.iload_n 2, 1) := by decide +kernel
theorem d_Mo_may_49 : decode prog_8_method_18_code 49 = .ok (.iconst 1, 1) := by decide +kernel
theorem d_Mo_may_50 : decode prog_8_method_18_code 50 = .ok (.iadd, 1) := by decide +kernel
theorem d_Mo_may_51 : decode prog_8_method_18_code 51 = .ok (.istore 7, 2) := by decide +kernel
theorem d_Mo_may_53 : decode prog_8_method_18_code 53 = .ok (.iload 7, 2) := by decide +kernel
theorem d_Mo_may_55 : decode prog_8_method_18_code 55 = .ok (.iload_n 3, 1) := by decide +kernel
theorem d_Mo_may_56 : decode prog_8_method_18_code 56 = .ok (.if_icmp .ge 26, 3) := by decide +kernel
theorem d_Mo_may_59 : decode prog_8_method_18_code 59 = .ok (.aload_n 0, 1) := by decide +kernel
theorem d_Mo_may_60 : decode prog_8_method_18_code 60 = .ok (.getfield 38, 3) := by decide +kernel
theorem d_Mo_may_63 : decode prog_8_method_18_code 63 = .ok (.bipush 81, 2) := by decide +kernel
theorem d_Mo_may_65 : decode prog_8_method_18_code 65 = .ok (.iload_n 1, 1) := by decide +kernel
theorem d_Mo_may_66 : decode prog_8_method_18_code 66 = .ok (.imul, 1) := by decide +kernel
theorem d_Mo_may_67 : decode prog_8_method_18_code 67 = .ok (.iload 7, 2) := by decide +kernel
theorem d_Mo_may_69 : decode prog_8_method_18_code 69 = .ok (.iadd, 1) := by decide +kernel
theorem d_Mo_may_70 : decode prog_8_method_18_code 70 = .ok (.baload, 1) := by decide +kernel
theorem d_Mo_may_71 : decode prog_8_method_18_code 71 = .ok (.ifCond .eq 5, 3) := by decide +kernel
theorem d_Mo_may_74 : decode prog_8_method_18_code 74 = .ok (.iconst 0, 1) := by decide +kernel
theorem d_Mo_may_75 : decode prog_8_method_18_code 75 = .ok (.ireturn, 1) := by decide +kernel
theorem d_Mo_may_76 : decode prog_8_method_18_code 76 = .ok (.iinc 7 1, 3) := by decide +kernel
theorem d_Mo_may_79 : decode prog_8_method_18_code 79 = .ok (.goto (-26), 3) := by decide +kernel
theorem d_Mo_may_82 : decode prog_8_method_18_code 82 = .ok (.bipush 20, 2) := by decide +kernel
theorem d_Mo_may_84 : decode prog_8_method_18_code 84 = .ok (.iload_n 1, 1) := by decide +kernel
theorem d_Mo_may_85 : decode prog_8_method_18_code 85 = .ok (.imul, 1) := by decide +kernel
theorem d_Mo_may_86 : decode prog_8_method_18_code 86 = .ok (.istore 7, 2) := by decide +kernel
theorem d_Mo_may_88 : decode prog_8_method_18_code 88 = .ok (.iload 7, 2) := by decide +kernel
theorem d_Mo_may_90 : decode prog_8_method_18_code 90 = .ok (.bipush 20, 2) := by decide +kernel
theorem d_Mo_may_92 : decode prog_8_method_18_code 92 = .ok (.iload_n 1, 1) := by decide +kernel
theorem d_Mo_may_93 : decode prog_8_method_18_code 93 = .ok (.imul, 1) := by decide +kernel
theorem d_Mo_may_94 : decode prog_8_method_18_code 94 = .ok (.aload_n 0, 1) := by decide +kernel
theorem d_Mo_may_95 : decode prog_8_method_18_code 95 = .ok (.getfield 26, 3) := by decide +kernel
theorem d_Mo_may_98 : decode prog_8_method_18_code 98 = .ok (.iload_n 1, 1) := by decide +kernel
theorem d_Mo_may_99 : decode prog_8_method_18_code 99 = .ok (.iaload, 1) := by decide +kernel
theorem d_Mo_may_100 : decode prog_8_method_18_code 100 = .ok (.iadd, 1) := by decide +kernel
theorem d_Mo_may_101 : decode prog_8_method_18_code 101 = .ok (.if_icmp .ge 56, 3) := by decide +kernel
theorem d_Mo_may_104 : decode prog_8_method_18_code 104 = .ok (.aload_n 0, 1) := by decide +kernel
theorem d_Mo_may_105 : decode prog_8_method_18_code 105 = .ok (.getfield 58, 3) := by decide +kernel
theorem d_Mo_may_108 : decode prog_8_method_18_code 108 = .ok (.bipush 8, 2) := by decide +kernel
theorem d_Mo_may_110 : decode prog_8_method_18_code 110 = .ok (.iload 4, 2) := by decide +kernel
theorem d_Mo_may_112 : decode prog_8_method_18_code 112 = .ok (.imul, 1) := by decide +kernel
theorem d_Mo_may_113 : decode prog_8_method_18_code 113 = .ok (.aload_n 0, 1) := by decide +kernel
theorem d_Mo_may_114 : decode prog_8_method_18_code 114 = .ok (.getfield 35, 3) := by decide +kernel
theorem d_Mo_may_117 : decode prog_8_method_18_code 117 = .ok (.iload 7, 2) := by decide +kernel
theorem d_Mo_may_119 : decode prog_8_method_18_code 119 = .ok (.iaload, 1) := by decide +kernel
theorem d_Mo_may_120 : decode prog_8_method_18_code 120 = .ok (.iadd, 1) := by decide +kernel
theorem d_Mo_may_121 : decode prog_8_method_18_code 121 = .ok (.baload, 1) := by decide +kernel
theorem d_Mo_may_122 : decode prog_8_method_18_code 122 = .ok (.ifCond .eq 29, 3) := by decide +kernel
theorem d_Mo_may_125 : decode prog_8_method_18_code 125 = .ok (.aload_n 0, 1) := by decide +kernel
theorem d_Mo_may_126 : decode prog_8_method_18_code 126 = .ok (.getfield 29, 3) := by decide +kernel
theorem d_Mo_may_129 : decode prog_8_method_18_code 129 = .ok (.iload 7, 2) := by decide +kernel
theorem d_Mo_may_131 : decode prog_8_method_18_code 131 = .ok (.iaload, 1) := by decide +kernel
theorem d_Mo_may_132 : decode prog_8_method_18_code 132 = .ok (.iload 6, 2) := by decide +kernel
theorem d_Mo_may_134 : decode prog_8_method_18_code 134 = .ok (.if_icmp .ge 17, 3) := by decide +kernel
theorem d_Mo_may_137 : decode prog_8_method_18_code 137 = .ok (.aload_n 0, 1) := by decide +kernel
theorem d_Mo_may_138 : decode prog_8_method_18_code 138 = .ok (.getfield 32, 3) := by decide +kernel
theorem d_Mo_may_141 : decode prog_8_method_18_code 141 = .ok (.iload 7, 2) := by decide +kernel
theorem d_Mo_may_143 : decode prog_8_method_18_code 143 = .ok (.iaload, 1) := by decide +kernel
theorem d_Mo_may_144 : decode prog_8_method_18_code 144 = .ok (.iload 5, 2) := by decide +kernel
theorem d_Mo_may_146 : decode prog_8_method_18_code 146 = .ok (.if_icmp .le 5, 3) := by decide +kernel
theorem d_Mo_may_149 : decode prog_8_method_18_code 149 = .ok (.iconst 0, 1) := by decide +kernel
theorem d_Mo_may_150 : decode prog_8_method_18_code 150 = .ok (.ireturn, 1) := by decide +kernel
theorem d_Mo_may_151 : decode prog_8_method_18_code 151 = .ok (.iinc 7 1, 3) := by decide +kernel
theorem d_Mo_may_154 : decode prog_8_method_18_code 154 = .ok (.goto (-66), 3) := by decide +kernel
theorem d_Mo_may_157 : decode prog_8_method_18_code 157 = .ok (.bipush 60, 2) := by decide +kernel
theorem d_Mo_may_159 : decode prog_8_method_18_code 159 = .ok (.iload_n 1, 1) := by decide +kernel
theorem d_Mo_may_160 : decode prog_8_method_18_code 160 = .ok (.imul, 1) := by decide +kernel
theorem d_Mo_may_161 : decode prog_8_method_18_code 161 = .ok (.istore 7, 2) := by decide +kernel
theorem d_Mo_may_163 : decode prog_8_method_18_code 163 = .ok (.aload_n 0, 1) := by decide +kernel
theorem d_Mo_may_164 : decode prog_8_method_18_code 164 = .ok (.getfield 17, 3) := by decide +kernel
theorem d_Mo_may_167 : decode prog_8_method_18_code 167 = .ok (.iload 7, 2) := by decide +kernel
theorem d_Mo_may_169 : decode prog_8_method_18_code 169 = .ok (.iaload, 1) := by decide +kernel
theorem d_Mo_may_170 : decode prog_8_method_18_code 170 = .ok (.iload 6, 2) := by decide +kernel
theorem d_Mo_may_172 : decode prog_8_method_18_code 172 = .ok (.if_icmp .ge 9, 3) := by decide +kernel
theorem d_Mo_may_175 : decode prog_8_method_18_code 175 = .ok (.iinc 7 1, 3) := by decide +kernel
theorem d_Mo_may_178 : decode prog_8_method_18_code 178 = .ok (.goto (-15), 3) := by decide +kernel
theorem d_Mo_may_181 : decode prog_8_method_18_code 181 = .ok (.iload 7, 2) := by decide +kernel
theorem d_Mo_may_183 : decode prog_8_method_18_code 183 = .ok (.istore 8, 2) := by decide +kernel
theorem d_Mo_may_185 : decode prog_8_method_18_code 185 = .ok (.aload_n 0, 1) := by decide +kernel
theorem d_Mo_may_186 : decode prog_8_method_18_code 186 = .ok (.getfield 17, 3) := by decide +kernel
theorem d_Mo_may_189 : decode prog_8_method_18_code 189 = .ok (.iload 8, 2) := by decide +kernel
theorem d_Mo_may_191 : decode prog_8_method_18_code 191 = .ok (.iaload, 1) := by decide +kernel
theorem d_Mo_may_192 : decode prog_8_method_18_code 192 = .ok (.iload 5, 2) := by decide +kernel
theorem d_Mo_may_194 : decode prog_8_method_18_code 194 = .ok (.if_icmp .le 9, 3) := by decide +kernel
theorem d_Mo_may_197 : decode prog_8_method_18_code 197 = .ok (.iinc 8 (-1), 3) := by decide +kernel
theorem d_Mo_may_200 : decode prog_8_method_18_code 200 = .ok (.goto (-15), 3) := by decide +kernel
theorem d_Mo_may_203 : decode prog_8_method_18_code 203 = .ok (.iconst 0, 1) := by decide +kernel
theorem d_Mo_may_204 : decode prog_8_method_18_code 204 = .ok (.istore 9, 2) := by decide +kernel
theorem d_Mo_may_206 : decode prog_8_method_18_code 206 = .ok (.iload 8, 2) := by decide +kernel
theorem d_Mo_may_208 : decode prog_8_method_18_code 208 = .ok (.istore 10, 2) := by decide +kernel
theorem d_Mo_may_210 : decode prog_8_method_18_code 210 = .ok (.iload 10, 2) := by decide +kernel
theorem d_Mo_may_212 : decode prog_8_method_18_code 212 = .ok (.iload 7, 2) := by decide +kernel
theorem d_Mo_may_214 : decode prog_8_method_18_code 214 = .ok (.if_icmp .gt 35, 3) := by decide +kernel
theorem d_Mo_may_217 : decode prog_8_method_18_code 217 = .ok (.aload_n 0, 1) := by decide +kernel
theorem d_Mo_may_218 : decode prog_8_method_18_code 218 = .ok (.getfield 23, 3) := by decide +kernel
theorem d_Mo_may_221 : decode prog_8_method_18_code 221 = .ok (.iload 10, 2) := by decide +kernel
theorem d_Mo_may_223 : decode prog_8_method_18_code 223 = .ok (.iaload, 1) := by decide +kernel
theorem d_Mo_may_224 : decode prog_8_method_18_code 224 = .ok (.iload 9, 2) := by decide +kernel
theorem d_Mo_may_226 : decode prog_8_method_18_code 226 = .ok (.if_icmp .le 13, 3) := by decide +kernel
theorem d_Mo_may_229 : decode prog_8_method_18_code 229 = .ok (.aload_n 0, 1) := by decide +kernel
theorem d_Mo_may_230 : decode prog_8_method_18_code 230 = .ok (.getfield 23, 3) := by decide +kernel
theorem d_Mo_may_233 : decode prog_8_method_18_code 233 = .ok (.iload 10, 2) := by decide +kernel
theorem d_Mo_may_235 : decode prog_8_method_18_code 235 = .ok (.iaload, 1) := by decide +kernel
theorem d_Mo_may_236 : decode prog_8_method_18_code 236 = .ok (.goto 5, 3) := by decide +kernel
theorem d_Mo_may_239 : decode prog_8_method_18_code 239 = .ok (.iload 9, 2) := by decide +kernel
theorem d_Mo_may_241 : decode prog_8_method_18_code 241 = .ok (.istore 9, 2) := by decide +kernel
theorem d_Mo_may_243 : decode prog_8_method_18_code 243 = .ok (.iinc 10 1, 3) := by decide +kernel
theorem d_Mo_may_246 : decode prog_8_method_18_code 246 = .ok (.goto (-36), 3) := by decide +kernel
theorem d_Mo_may_249 : decode prog_8_method_18_code 249 = .ok (.aload_n 0, 1) := by decide +kernel
theorem d_Mo_may_250 : decode prog_8_method_18_code 250 = .ok (.getfield 20, 3) := by decide +kernel
theorem d_Mo_may_253 : decode prog_8_method_18_code 253 = .ok (.iload 7, 2) := by decide +kernel
theorem d_Mo_may_255 : decode prog_8_method_18_code 255 = .ok (.iaload, 1) := by decide +kernel
theorem d_Mo_may_256 : decode prog_8_method_18_code 256 = .ok (.aload_n 0, 1) := by decide +kernel
theorem d_Mo_may_257 : decode prog_8_method_18_code 257 = .ok (.getfield 138, 3) := by decide +kernel
theorem d_Mo_may_260 : decode prog_8_method_18_code 260 = .ok (.isub, 1) := by decide +kernel
theorem d_Mo_may_261 : decode prog_8_method_18_code 261 = .ok (.aload_n 0, 1) := by decide +kernel
theorem d_Mo_may_262 : decode prog_8_method_18_code 262 = .ok (.getfield 48, 3) := by decide +kernel
theorem d_Mo_may_265 : decode prog_8_method_18_code 265 = .ok (.iload 4, 2) := by decide +kernel
theorem d_Mo_may_267 : decode prog_8_method_18_code 267 = .ok (.iaload, 1) := by decide +kernel
theorem d_Mo_may_268 : decode prog_8_method_18_code 268 = .ok (.if_icmp .lt 24, 3) := by decide +kernel
theorem d_Mo_may_271 : decode prog_8_method_18_code 271 = .ok (.iload 9, 2) := by decide +kernel
theorem d_Mo_may_273 : decode prog_8_method_18_code 273 = .ok (.aload_n 0, 1) := by decide +kernel
theorem d_Mo_may_274 : decode prog_8_method_18_code 274 = .ok (.getfield 138, 3) := by decide +kernel
theorem d_Mo_may_277 : decode prog_8_method_18_code 277 = .ok (.iadd, 1) := by decide +kernel
theorem d_Mo_may_278 : decode prog_8_method_18_code 278 = .ok (.aload_n 0, 1) := by decide +kernel
theorem d_Mo_may_279 : decode prog_8_method_18_code 279 = .ok (.getfield 51, 3) := by decide +kernel
theorem d_Mo_may_282 : decode prog_8_method_18_code 282 = .ok (.iload 4, 2) := by decide +kernel
theorem d_Mo_may_284 : decode prog_8_method_18_code 284 = .ok (.iaload, 1) := by decide +kernel
theorem d_Mo_may_285 : decode prog_8_method_18_code 285 = .ok (.if_icmp .gt 7, 3) := by decide +kernel
theorem d_Mo_may_288 : decode prog_8_method_18_code 288 = .ok (.iconst 1, 1) := by decide +kernel
theorem d_Mo_may_289 : decode prog_8_method_18_code 289 = .ok (.goto 4, 3) := by decide +kernel
theorem d_Mo_may_292 : decode prog_8_method_18_code 292 = .ok (.iconst 0, 1) := by decide +kernel
theorem d_Mo_may_293 : decode prog_8_method_18_code 293 = .ok (.ireturn, 1) := by decide +kernel
theorem d_Mo_worthOf_0 : decode prog_8_method_19_code 0 = .ok (.aload_n 0, 1) := by decide +kernel
theorem d_Mo_worthOf_1 : decode prog_8_method_19_code 1 = .ok (.getfield 54, 3) := by decide +kernel
theorem d_Mo_worthOf_4 : decode prog_8_method_19_code 4 = .ok (.iload_n 3, 1) := by decide +kernel
theorem d_Mo_worthOf_5 : decode prog_8_method_19_code 5 = .ok (.laload, 1) := by decide +kernel
theorem d_Mo_worthOf_6 : decode prog_8_method_19_code 6 = .ok (.iload_n 2, 1) := by decide +kernel
theorem d_Mo_worthOf_7 : decode prog_8_method_19_code 7 = .ok (.i2l, 1) := by decide +kernel
theorem d_Mo_worthOf_8 : decode prog_8_method_19_code 8 = .ok (.lmul, 1) := by decide +kernel
theorem d_Mo_worthOf_9 : decode prog_8_method_19_code 9 = .ok (.aload_n 0, 1) := by decide +kernel
theorem d_Mo_worthOf_10 : decode prog_8_method_19_code 10 = .ok (.getfield 64, 3) := by decide +kernel
theorem d_Mo_worthOf_13 : decode prog_8_method_19_code 13 = .ok (.bipush 7, 2) := by decide +kernel
theorem d_Mo_worthOf_15 : decode prog_8_method_19_code 15 = .ok (.iload_n 3, 1) := by decide +kernel
theorem d_Mo_worthOf_16 : decode prog_8_method_19_code 16 = .ok (.imul, 1) := by decide +kernel
theorem d_Mo_worthOf_17 : decode prog_8_method_19_code 17 = .ok (.iload_n 1, 1) := by decide +kernel
theorem d_Mo_worthOf_18 : decode prog_8_method_19_code 18 = .ok (.iadd, 1) := by decide +kernel
theorem d_Mo_worthOf_19 : decode prog_8_method_19_code 19 = .ok (.laload, 1) := by decide +kernel
theorem d_Mo_worthOf_20 : decode prog_8_method_19_code 20 = .ok (.ladd, 1) := by decide +kernel
theorem d_Mo_worthOf_21 : decode prog_8_method_19_code 21 = .ok (.lreturn, 1) := by decide +kernel
theorem d_Mo_behind_0 : decode prog_8_method_20_code 0 = .ok (.iload_n 2, 1) := by decide +kernel
theorem d_Mo_behind_1 : decode prog_8_method_20_code 1 = .ok (.iload_n 1, 1) := by decide +kernel
theorem d_Mo_behind_2 : decode prog_8_method_20_code 2 = .ok (.if_icmp .ne 7, 3) := by decide +kernel
theorem d_Mo_behind_5 : decode prog_8_method_20_code 5 = .ok (.iload_n 1, 1) := by decide +kernel
theorem d_Mo_behind_6 : decode prog_8_method_20_code 6 = .ok (.goto 23, 3) := by decide +kernel
theorem d_Mo_behind_9 : decode prog_8_method_20_code 9 = .ok (.iload_n 2, 1) := by decide +kernel
theorem d_Mo_behind_10 : decode prog_8_method_20_code 10 = .ok (.aload_n 0, 1) := by decide +kernel
theorem d_Mo_behind_11 : decode prog_8_method_20_code 11 = .ok (.getfield 143, 3) := by decide +kernel
theorem d_Mo_behind_14 : decode prog_8_method_20_code 14 = .ok (.iadd, 1) := by decide +kernel
theorem d_Mo_behind_15 : decode prog_8_method_20_code 15 = .ok (.iload_n 1, 1) := by decide +kernel
theorem d_Mo_behind_16 : decode prog_8_method_20_code 16 = .ok (.if_icmp .ge 12, 3) := by decide +kernel
theorem d_Mo_behind_19 : decode prog_8_method_20_code 19 = .ok (.iload_n 2, 1) := by decide +kernel
theorem d_Mo_behind_20 : decode prog_8_method_20_code 20 = .ok (.aload_n 0, 1) := by decide +kernel
theorem d_Mo_behind_21 : decode prog_8_method_20_code 21 = .ok (.getfield 143, 3) := by decide +kernel
theorem d_Mo_behind_24 : decode prog_8_method_20_code 24 = .ok (.iadd, 1) := by decide +kernel
theorem d_Mo_behind_25 : decode prog_8_method_20_code 25 = .ok (.goto 4, 3) := by decide +kernel
theorem d_Mo_behind_28 : decode prog_8_method_20_code 28 = .ok (.iload_n 1, 1) := by decide +kernel
theorem d_Mo_behind_29 : decode prog_8_method_20_code 29 = .ok (.ireturn, 1) := by decide +kernel
theorem d_Mo_reckon_0 : decode prog_8_method_21_code 0 = .ok (.aload_n 0, 1) := by decide +kernel
theorem d_Mo_reckon_1 : decode prog_8_method_21_code 1 = .ok (.iload_n 1, 1) := by decide +kernel
theorem d_Mo_reckon_2 : decode prog_8_method_21_code 2 = .ok (.invokevirtual 131, 3) := by decide +kernel
theorem d_Mo_reckon_5 : decode prog_8_method_21_code 5 = .ok (.istore_n 2, 1) := by decide +kernel
theorem d_Mo_reckon_6 : decode prog_8_method_21_code 6 = .ok (.aload_n 0, 1) := by decide +kernel
theorem d_Mo_reckon_7 : decode prog_8_method_21_code 7 = .ok (.getfield 91, 3) := by decide +kernel
theorem d_Mo_reckon_10 : decode prog_8_method_21_code 10 = .ok (.iload_n 2, 1) := by decide +kernel
theorem d_Mo_reckon_11 : decode prog_8_method_21_code 11 = .ok (.lconst 0, 1) := by decide +kernel
theorem d_Mo_reckon_12 : decode prog_8_method_21_code 12 = .ok (.lastore, 1) := by decide +kernel
theorem d_Mo_reckon_13 : decode prog_8_method_21_code 13 = .ok (.aload_n 0, 1) := by decide +kernel
theorem d_Mo_reckon_14 : decode prog_8_method_21_code 14 = .ok (.getfield 94, 3) := by decide +kernel
theorem d_Mo_reckon_17 : decode prog_8_method_21_code 17 = .ok (.iload_n 2, 1) := by decide +kernel
theorem d_Mo_reckon_18 : decode prog_8_method_21_code 18 = .ok (.iconst 0, 1) := by decide +kernel
theorem d_Mo_reckon_19 : decode prog_8_method_21_code 19 = .ok (.iastore, 1) := by decide +kernel
theorem d_Mo_reckon_20 : decode prog_8_method_21_code 20 = .ok (.iload_n 2, 1) := by decide +kernel
theorem d_Mo_reckon_21 : decode prog_8_method_21_code 21 = .ok (.iconst 1, 1) := by decide +kernel
theorem d_Mo_reckon_22 : decode prog_8_method_21_code 22 = .ok (.isub, 1) := by decide +kernel
theorem d_Mo_reckon_23 : decode prog_8_method_21_code 23 = .ok (.istore_n 3, 1) := by decide +kernel
theorem d_Mo_reckon_24 : decode prog_8_method_21_code 24 = .ok (.iload_n 3, 1) := by decide +kernel
theorem d_Mo_reckon_25 : decode prog_8_method_21_code 25 = .ok (.ifCond .lt 188, 3) := by decide +kernel
theorem d_Mo_reckon_28 : decode prog_8_method_21_code 28 = .ok (.aload_n 0, 1) := by decide +kernel
theorem d_Mo_reckon_29 : decode prog_8_method_21_code 29 = .ok (.getfield 91, 3) := by decide +kernel
theorem d_Mo_reckon_32 : decode prog_8_method_21_code 32 = .ok (.iload_n 3, 1) := by decide +kernel
theorem d_Mo_reckon_33 : decode prog_8_method_21_code 33 = .ok (.aload_n 0, 1) := by decide +kernel
theorem d_Mo_reckon_34 : decode prog_8_method_21_code 34 = .ok (.getfield 91, 3) := by decide +kernel
theorem d_Mo_reckon_37 : decode prog_8_method_21_code 37 = .ok (.iload_n 3, 1) := by decide +kernel
theorem d_Mo_reckon_38 : decode prog_8_method_21_code 38 = .ok (.iconst 1, 1) := by decide +kernel
theorem d_Mo_reckon_39 : decode prog_8_method_21_code 39 = .ok (.iadd, 1) := by decide +kernel
theorem d_Mo_reckon_40 : decode prog_8_method_21_code 40 = .ok (.laload, 1) := by decide +kernel
theorem d_Mo_reckon_41 : decode prog_8_method_21_code 41 = .ok (.lastore, 1) := by decide +kernel
theorem d_Mo_reckon_42 : decode prog_8_method_21_code 42 = .ok (.aload_n 0, 1) := by decide +kernel
theorem d_Mo_reckon_43 : decode prog_8_method_21_code 43 = .ok (.getfield 94, 3) := by decide +kernel
theorem d_Mo_reckon_46 : decode prog_8_method_21_code 46 = .ok (.iload_n 3, 1) := by decide +kernel
theorem d_Mo_reckon_47 : decode prog_8_method_21_code 47 = .ok (.aload_n 0, 1) := by decide +kernel
theorem d_Mo_reckon_48 : decode prog_8_method_21_code 48 = .ok (.getfield 94, 3) := by decide +kernel
theorem d_Mo_reckon_51 : decode prog_8_method_21_code 51 = .ok (.iload_n 3, 1) := by decide +kernel
theorem d_Mo_reckon_52 : decode prog_8_method_21_code 52 = .ok (.iconst 1, 1) := by decide +kernel
theorem d_Mo_reckon_53 : decode prog_8_method_21_code 53 = .ok (.iadd, 1) := by decide +kernel
theorem d_Mo_reckon_54 : decode prog_8_method_21_code 54 = .ok (.iaload, 1) := by decide +kernel
theorem d_Mo_reckon_55 : decode prog_8_method_21_code 55 = .ok (.iastore, 1) := by decide +kernel
theorem d_Mo_reckon_56 : decode prog_8_method_21_code 56 = .ok (.iload_n 3, 1) := by decide +kernel
theorem d_Mo_reckon_57 : decode prog_8_method_21_code 57 = .ok (.iconst 1, 1) := by decide +kernel
theorem d_Mo_reckon_58 : decode prog_8_method_21_code 58 = .ok (.iadd, 1) := by decide +kernel
theorem d_Mo_reckon_59 : decode prog_8_method_21_code 59 = .ok (.istore 4, 2) := by decide +kernel
theorem d_Mo_reckon_61 : decode prog_8_method_21_code 61 = .ok (.iload 4, 2) := by decide +kernel
theorem d_Mo_reckon_63 : decode prog_8_method_21_code 63 = .ok (.iload_n 2, 1) := by decide +kernel
theorem d_Mo_reckon_64 : decode prog_8_method_21_code 64 = .ok (.if_icmp .gt 143, 3) := by decide +kernel
theorem d_Mo_reckon_67 : decode prog_8_method_21_code 67 = .ok (.iconst 0, 1) := by decide +kernel
theorem d_Mo_reckon_68 : decode prog_8_method_21_code 68 = .ok (.istore 5, 2) := by decide +kernel
theorem d_Mo_reckon_70 : decode prog_8_method_21_code 70 = .ok (.iload 5, 2) := by decide +kernel
theorem d_Mo_reckon_72 : decode prog_8_method_21_code 72 = .ok (.aload_n 0, 1) := by decide +kernel
theorem d_Mo_reckon_73 : decode prog_8_method_21_code 73 = .ok (.getfield 124, 3) := by decide +kernel
theorem d_Mo_reckon_76 : decode prog_8_method_21_code 76 = .ok (.if_icmp .ge 125, 3) := by decide +kernel
theorem d_Mo_reckon_79 : decode prog_8_method_21_code 79 = .ok (.aload_n 0, 1) := by decide +kernel
theorem d_Mo_reckon_80 : decode prog_8_method_21_code 80 = .ok (.iload_n 1, 1) := by decide +kernel
theorem d_Mo_reckon_81 : decode prog_8_method_21_code 81 = .ok (.iload_n 3, 1) := by decide +kernel
theorem d_Mo_reckon_82 : decode prog_8_method_21_code 82 = .ok (.iload 4, 2) := by decide +kernel
theorem d_Mo_reckon_84 : decode prog_8_method_21_code 84 = .ok (.iload 5, 2) := by decide +kernel
theorem d_Mo_reckon_86 : decode prog_8_method_21_code 86 = .ok (.invokevirtual 150, 3) := by decide +kernel
theorem d_Mo_reckon_89 : decode prog_8_method_21_code 89 = .ok (.ifCond .eq 106, 3) := by decide +kernel
theorem d_Mo_reckon_92 : decode prog_8_method_21_code 92 = .ok (.aload_n 0, 1) := by decide +kernel
theorem d_Mo_reckon_93 : decode prog_8_method_21_code 93 = .ok (.iload_n 2, 1) := by decide +kernel
theorem d_Mo_reckon_94 : decode prog_8_method_21_code 94 = .ok (.iload 4, 2) := by decide +kernel
theorem d_Mo_reckon_96 : decode prog_8_method_21_code 96 = .ok (.invokevirtual 154, 3) := by decide +kernel
theorem d_Mo_reckon_99 : decode prog_8_method_21_code 99 = .ok (.istore 6, 2) := by decide +kernel
theorem d_Mo_reckon_101 : decode prog_8_method_21_code 101 = .ok (.aload_n 0, 1) := by decide +kernel
theorem d_Mo_reckon_102 : decode prog_8_method_21_code 102 = .ok (.getfield 91, 3) := by decide +kernel
theorem d_Mo_reckon_105 : decode prog_8_method_21_code 105 = .ok (.iload 6, 2) := by decide +kernel
theorem d_Mo_reckon_107 : decode prog_8_method_21_code 107 = .ok (.laload, 1) := by decide +kernel
theorem d_Mo_reckon_108 : decode prog_8_method_21_code 108 = .ok (.aload_n 0, 1) := by decide +kernel
theorem d_Mo_reckon_109 : decode prog_8_method_21_code 109 = .ok (.iload_n 1, 1) := by decide +kernel
theorem d_Mo_reckon_110 : decode prog_8_method_21_code 110 = .ok (.iload 4, 2) := by decide +kernel
theorem d_Mo_reckon_112 : decode prog_8_method_21_code 112 = .ok (.iload_n 3, 1) := by decide +kernel
theorem d_Mo_reckon_113 : decode prog_8_method_21_code 113 = .ok (.isub, 1) := by decide +kernel
theorem d_Mo_reckon_114 : decode prog_8_method_21_code 114 = .ok (.iload 5, 2) := by decide +kernel
theorem d_Mo_reckon_116 : decode prog_8_method_21_code 116 = .ok (.invokevirtual 158, 3) := by decide +kernel
theorem d_Mo_reckon_119 : decode prog_8_method_21_code 119 = .ok (.ladd, 1) := by decide +kernel
theorem d_Mo_reckon_120 : decode prog_8_method_21_code 120 = .ok (.aload_n 0, 1) := by decide +kernel
theorem d_Mo_reckon_121 : decode prog_8_method_21_code 121 = .ok (.getfield 67, 3) := by decide +kernel
theorem d_Mo_reckon_124 : decode prog_8_method_21_code 124 = .ok (.iload 5, 2) := by decide +kernel
theorem d_Mo_reckon_126 : decode prog_8_method_21_code 126 = .ok (.laload, 1) := by decide +kernel
theorem d_Mo_reckon_127 : decode prog_8_method_21_code 127 = .ok (.lsub, 1) := by decide +kernel
theorem d_Mo_reckon_128 : decode prog_8_method_21_code 128 = .ok (.lstore 7, 2) := by decide +kernel
theorem d_Mo_reckon_130 : decode prog_8_method_21_code 130 = .ok (.lload 7, 2) := by decide +kernel
theorem d_Mo_reckon_132 : decode prog_8_method_21_code 132 = .ok (.aload_n 0, 1) := by decide +kernel
theorem d_Mo_reckon_133 : decode prog_8_method_21_code 133 = .ok (.getfield 91, 3) := by decide +kernel
theorem d_Mo_reckon_136 : decode prog_8_method_21_code 136 = .ok (.iload_n 3, 1) := by decide +kernel
theorem d_Mo_reckon_137 : decode prog_8_method_21_code 137 = .ok (.laload, 1) := by decide +kernel
theorem d_Mo_reckon_138 : decode prog_8_method_21_code 138 = .ok (.lcmp, 1) := by decide +kernel
theorem d_Mo_reckon_139 : decode prog_8_method_21_code 139 = .ok (.ifCond .gt 33, 3) := by decide +kernel
theorem d_Mo_reckon_142 : decode prog_8_method_21_code 142 = .ok (.lload 7, 2) := by decide +kernel
theorem d_Mo_reckon_144 : decode prog_8_method_21_code 144 = .ok (.aload_n 0, 1) := by decide +kernel
theorem d_Mo_reckon_145 : decode prog_8_method_21_code 145 = .ok (.getfield 91, 3) := by decide +kernel
theorem d_Mo_reckon_148 : decode prog_8_method_21_code 148 = .ok (.iload_n 3, 1) := by decide +kernel
theorem d_Mo_reckon_149 : decode prog_8_method_21_code 149 = .ok (.laload, 1) := by decide +kernel
theorem d_Mo_reckon_150 : decode prog_8_method_21_code 150 = .ok (.lcmp, 1) := by decide +kernel
theorem d_Mo_reckon_151 : decode prog_8_method_21_code 151 = .ok (.ifCond .ne 44, 3) := by decide +kernel
theorem d_Mo_reckon_154 : decode prog_8_method_21_code 154 = .ok (.aload_n 0, 1) := by decide +kernel
theorem d_Mo_reckon_155 : decode prog_8_method_21_code 155 = .ok (.getfield 94, 3) := by decide +kernel
theorem d_Mo_reckon_158 : decode prog_8_method_21_code 158 = .ok (.iload 6, 2) := by decide +kernel
theorem d_Mo_reckon_160 : decode prog_8_method_21_code 160 = .ok (.iaload, 1) := by decide +kernel
theorem d_Mo_reckon_161 : decode prog_8_method_21_code 161 = .ok (.iconst 1, 1) := by decide +kernel
theorem d_Mo_reckon_162 : decode prog_8_method_21_code 162 = .ok (.iadd, 1) := by decide +kernel
theorem d_Mo_reckon_163 : decode prog_8_method_21_code 163 = .ok (.aload_n 0, 1) := by decide +kernel
theorem d_Mo_reckon_164 : decode prog_8_method_21_code 164 = .ok (.getfield 94, 3) := by decide +kernel
theorem d_Mo_reckon_167 : decode prog_8_method_21_code 167 = .ok (.iload_n 3, 1) := by decide +kernel
theorem d_Mo_reckon_168 : decode prog_8_method_21_code 168 = .ok (.iaload, 1) := by decide +kernel
theorem d_Mo_reckon_169 : decode prog_8_method_21_code 169 = .ok (.if_icmp .ge 26, 3) := by decide +kernel
theorem d_Mo_reckon_172 : decode prog_8_method_21_code 172 = .ok (.aload_n 0, 1) := by decide +kernel
theorem d_Mo_reckon_173 : decode prog_8_method_21_code 173 = .ok (.getfield 91, 3) := by decide +kernel
theorem d_Mo_reckon_176 : decode prog_8_method_21_code 176 = .ok (.iload_n 3, 1) := by decide +kernel
theorem d_Mo_reckon_177 : decode prog_8_method_21_code 177 = .ok (.lload 7, 2) := by decide +kernel
theorem d_Mo_reckon_179 : decode prog_8_method_21_code 179 = .ok (.lastore, 1) := by decide +kernel
theorem d_Mo_reckon_180 : decode prog_8_method_21_code 180 = .ok (.aload_n 0, 1) := by decide +kernel
theorem d_Mo_reckon_181 : decode prog_8_method_21_code 181 = .ok (.getfield 94, 3) := by decide +kernel
theorem d_Mo_reckon_184 : decode prog_8_method_21_code 184 = .ok (.iload_n 3, 1) := by decide +kernel
theorem d_Mo_reckon_185 : decode prog_8_method_21_code 185 = .ok (.aload_n 0, 1) := by decide +kernel
theorem d_Mo_reckon_186 : decode prog_8_method_21_code 186 = .ok (.getfield 94, 3) := by decide +kernel
theorem d_Mo_reckon_189 : decode prog_8_method_21_code 189 = .ok (.iload 6, 2) := by decide +kernel
theorem d_Mo_reckon_191 : decode prog_8_method_21_code 191 = .ok (.iaload, 1) := by decide +kernel
theorem d_Mo_reckon_192 : decode prog_8_method_21_code 192 = .ok (.iconst 1, 1) := by decide +kernel
theorem d_Mo_reckon_193 : decode prog_8_method_21_code 193 = .ok (.iadd, 1) := by decide +kernel
theorem d_Mo_reckon_194 : decode prog_8_method_21_code 194 = .ok (.iastore, 1) := by decide +kernel
theorem d_Mo_reckon_195 : decode prog_8_method_21_code 195 = .ok (.iinc 5 1, 3) := by decide +kernel
theorem d_Mo_reckon_198 : decode prog_8_method_21_code 198 = .ok (.goto (-128), 3) := by decide +kernel
theorem d_Mo_reckon_201 : decode prog_8_method_21_code 201 = .ok (.iinc 4 1, 3) := by decide +kernel
theorem d_Mo_reckon_204 : decode prog_8_method_21_code 204 = .ok (.goto (-143), 3) := by decide +kernel
theorem d_Mo_reckon_207 : decode prog_8_method_21_code 207 = .ok (.iinc 3 (-1), 3) := by decide +kernel
theorem d_Mo_reckon_210 : decode prog_8_method_21_code 210 = .ok (.goto (-186), 3) := by decide +kernel
theorem d_Mo_reckon_213 : decode prog_8_method_21_code 213 = .ok (.return_, 1) := by decide +kernel
theorem d_Mo_goOn_0 : decode prog_8_method_22_code 0 = .ok (.iload_n 3, 1) := by decide +kernel
theorem d_Mo_goOn_1 : decode prog_8_method_22_code 1 = .ok (.istore 4, 2) := by decide +kernel
theorem d_Mo_goOn_3 : decode prog_8_method_22_code 3 = .ok (.iload 4, 2) := by decide +kernel
theorem d_Mo_goOn_5 : decode prog_8_method_22_code 5 = .ok (.iload_n 2, 1) := by decide +kernel
theorem d_Mo_goOn_6 : decode prog_8_method_22_code 6 = .ok (.if_icmp .le 127, 3) := by decide +kernel
theorem d_Mo_goOn_9 : decode prog_8_method_22_code 9 = .ok (.iconst 0, 1) := by decide +kernel
theorem d_Mo_goOn_10 : decode prog_8_method_22_code 10 = .ok (.istore 5, 2) := by decide +kernel
theorem d_Mo_goOn_12 : decode prog_8_method_22_code 12 = .ok (.iload 5, 2) := by decide +kernel
theorem d_Mo_goOn_14 : decode prog_8_method_22_code 14 = .ok (.aload_n 0, 1) := by decide +kernel
theorem d_Mo_goOn_15 : decode prog_8_method_22_code 15 = .ok (.getfield 124, 3) := by decide +kernel
theorem d_Mo_goOn_18 : decode prog_8_method_22_code 18 = .ok (.if_icmp .ge 109, 3) := by decide +kernel
theorem d_Mo_goOn_21 : decode prog_8_method_22_code 21 = .ok (.aload_n 0, 1) := by decide +kernel
theorem d_Mo_goOn_22 : decode prog_8_method_22_code 22 = .ok (.iload_n 3, 1) := by decide +kernel
theorem d_Mo_goOn_23 : decode prog_8_method_22_code 23 = .ok (.iload 4, 2) := by decide +kernel
theorem d_Mo_goOn_25 : decode prog_8_method_22_code 25 = .ok (.invokevirtual 154, 3) := by decide +kernel
theorem d_Mo_goOn_28 : decode prog_8_method_22_code 28 = .ok (.istore 6, 2) := by decide +kernel
theorem d_Mo_goOn_30 : decode prog_8_method_22_code 30 = .ok (.aload_n 0, 1) := by decide +kernel
theorem d_Mo_goOn_31 : decode prog_8_method_22_code 31 = .ok (.getfield 94, 3) := by decide +kernel
theorem d_Mo_goOn_34 : decode prog_8_method_22_code 34 = .ok (.iload 6, 2) := by decide +kernel
theorem d_Mo_goOn_36 : decode prog_8_method_22_code 36 = .ok (.iaload, 1) := by decide +kernel
theorem d_Mo_goOn_37 : decode prog_8_method_22_code 37 = .ok (.iconst 1, 1) := by decide +kernel
theorem d_Mo_goOn_38 : decode prog_8_method_22_code 38 = .ok (.iadd, 1) := by decide +kernel
theorem d_Mo_goOn_39 : decode prog_8_method_22_code 39 = .ok (.aload_n 0, 1) := by decide +kernel
theorem d_Mo_goOn_40 : decode prog_8_method_22_code 40 = .ok (.getfield 94, 3) := by decide +kernel
theorem d_Mo_goOn_43 : decode prog_8_method_22_code 43 = .ok (.iload_n 2, 1) := by decide +kernel
theorem d_Mo_goOn_44 : decode prog_8_method_22_code 44 = .ok (.iaload, 1) := by decide +kernel
theorem d_Mo_goOn_45 : decode prog_8_method_22_code 45 = .ok (.if_icmp .ne 44, 3) := by decide +kernel
theorem d_Mo_goOn_48 : decode prog_8_method_22_code 48 = .ok (.aload_n 0, 1) := by decide +kernel
theorem d_Mo_goOn_49 : decode prog_8_method_22_code 49 = .ok (.getfield 91, 3) := by decide +kernel
theorem d_Mo_goOn_52 : decode prog_8_method_22_code 52 = .ok (.iload 6, 2) := by decide +kernel
theorem d_Mo_goOn_54 : decode prog_8_method_22_code 54 = .ok (.laload, 1) := by decide +kernel
theorem d_Mo_goOn_55 : decode prog_8_method_22_code 55 = .ok (.aload_n 0, 1) := by decide +kernel
theorem d_Mo_goOn_56 : decode prog_8_method_22_code 56 = .ok (.iload_n 1, 1) := by decide +kernel
theorem d_Mo_goOn_57 : decode prog_8_method_22_code 57 = .ok (.iload 4, 2) := by decide +kernel
theorem d_Mo_goOn_59 : decode prog_8_method_22_code 59 = .ok (.iload_n 2, 1) := by decide +kernel
theorem d_Mo_goOn_60 : decode prog_8_method_22_code 60 = .ok (.isub, 1) := by decide +kernel
theorem d_Mo_goOn_61 : decode prog_8_method_22_code 61 = .ok (.iload 5, 2) := by decide +kernel
theorem d_Mo_goOn_63 : decode prog_8_method_22_code 63 = .ok (.invokevirtual 158, 3) := by decide +kernel
theorem d_Mo_goOn_66 : decode prog_8_method_22_code 66 = .ok (.ladd, 1) := by decide +kernel
theorem d_Mo_goOn_67 : decode prog_8_method_22_code 67 = .ok (.aload_n 0, 1) := by decide +kernel
theorem d_Mo_goOn_68 : decode prog_8_method_22_code 68 = .ok (.getfield 67, 3) := by decide +kernel
theorem d_Mo_goOn_71 : decode prog_8_method_22_code 71 = .ok (.iload 5, 2) := by decide +kernel
theorem d_Mo_goOn_73 : decode prog_8_method_22_code 73 = .ok (.laload, 1) := by decide +kernel
theorem d_Mo_goOn_74 : decode prog_8_method_22_code 74 = .ok (.lsub, 1) := by decide +kernel
theorem d_Mo_goOn_75 : decode prog_8_method_22_code 75 = .ok (.aload_n 0, 1) := by decide +kernel
theorem d_Mo_goOn_76 : decode prog_8_method_22_code 76 = .ok (.getfield 91, 3) := by decide +kernel
theorem d_Mo_goOn_79 : decode prog_8_method_22_code 79 = .ok (.iload_n 2, 1) := by decide +kernel
theorem d_Mo_goOn_80 : decode prog_8_method_22_code 80 = .ok (.laload, 1) := by decide +kernel
theorem d_Mo_goOn_81 : decode prog_8_method_22_code 81 = .ok (.lcmp, 1) := by decide +kernel
theorem d_Mo_goOn_82 : decode prog_8_method_22_code 82 = .ok (.ifCond .ne 7, 3) := by decide +kernel
theorem d_Mo_goOn_85 : decode prog_8_method_22_code 85 = .ok (.iconst 1, 1) := by decide +kernel
theorem d_Mo_goOn_86 : decode prog_8_method_22_code 86 = .ok (.goto 4, 3) := by decide +kernel
theorem d_Mo_goOn_89 : decode prog_8_method_22_code 89 = .ok (.iconst 0, 1) := by decide +kernel
theorem d_Mo_goOn_90 : decode prog_8_method_22_code 90 = .ok (.istore 7, 2) := by decide +kernel
theorem d_Mo_goOn_92 : decode prog_8_method_22_code 92 = .ok (.iload 7, 2) := by decide +kernel
theorem d_Mo_goOn_94 : decode prog_8_method_22_code 94 = .ok (.ifCond .eq 27, 3) := by decide +kernel
theorem d_Mo_goOn_97 : decode prog_8_method_22_code 97 = .ok (.aload_n 0, 1) := by decide +kernel
theorem d_Mo_goOn_98 : decode prog_8_method_22_code 98 = .ok (.iload_n 1, 1) := by decide +kernel
theorem d_Mo_goOn_99 : decode prog_8_method_22_code 99 = .ok (.iload_n 2, 1) := by decide +kernel
theorem d_Mo_goOn_100 : decode prog_8_method_22_code 100 = .ok (.iload 4, 2) := by decide +kernel
theorem d_Mo_goOn_102 : decode prog_8_method_22_code 102 = .ok (.iload 5, 2) := by decide +kernel
theorem d_Mo_goOn_104 : decode prog_8_method_22_code 104 = .ok (.invokevirtual 150, 3) := by decide +kernel
theorem d_Mo_goOn_107 : decode prog_8_method_22_code 107 = .ok (.ifCond .eq 14, 3) := by decide +kernel
theorem d_Mo_goOn_110 : decode prog_8_method_22_code 110 = .ok (.bipush 8, 2) := by decide +kernel
theorem d_Mo_goOn_112 : decode prog_8_method_22_code 112 = .ok (.iload 4, 2) := by decide +kernel
theorem d_Mo_goOn_114 : decode prog_8_method_22_code 114 = .ok (.iload_n 2, 1) := by decide +kernel
theorem d_Mo_goOn_115 : decode prog_8_method_22_code 115 = .ok (.isub, 1) := by decide +kernel
theorem d_Mo_goOn_116 : decode prog_8_method_22_code 116 = .ok (.imul, 1) := by decide +kernel
theorem d_Mo_goOn_117 : decode prog_8_method_22_code 117 = .ok (.iload 5, 2) := by decide +kernel
theorem d_Mo_goOn_119 : decode prog_8_method_22_code 119 = .ok (.iadd, 1) := by decide +kernel
theorem d_Mo_goOn_120 : decode prog_8_method_22_code 120 = .ok (.ireturn, 1) := by decide +kernel
theorem d_Mo_goOn_121 : decode prog_8_method_22_code 121 = .ok (.iinc 5 1, 3) := by decide +kernel
theorem d_Mo_goOn_124 : decode prog_8_method_22_code 124 = .ok (.goto (-112), 3) := by decide +kernel
theorem d_Mo_goOn_127 : decode prog_8_method_22_code 127 = .ok (.iinc 4 (-1), 3) := by decide +kernel
theorem d_Mo_goOn_130 : decode prog_8_method_22_code 130 = .ok (.goto (-127), 3) := by decide +kernel
theorem d_Mo_goOn_133 : decode prog_8_method_22_code 133 = .ok (.iconst 0, 1) := by decide +kernel
theorem d_Mo_goOn_134 : decode prog_8_method_22_code 134 = .ok (.ireturn, 1) := by decide +kernel
theorem d_Mo_mark_0 : decode prog_8_method_23_code 0 = .ok (.iload_n 2, 1) := by decide +kernel
theorem d_Mo_mark_1 : decode prog_8_method_23_code 1 = .ok (.istore 5, 2) := by decide +kernel
theorem d_Mo_mark_3 : decode prog_8_method_23_code 3 = .ok (.iload 5, 2) := by decide +kernel
theorem d_Mo_mark_5 : decode prog_8_method_23_code 5 = .ok (.iload_n 3, 1) := by decide +kernel
theorem d_Mo_mark_6 : decode prog_8_method_23_code 6 = .ok (.if_icmp .ge 23, 3) := by decide +kernel
theorem d_Mo_mark_9 : decode prog_8_method_23_code 9 = .ok (.aload_n 0, 1) := by decide +kernel
theorem d_Mo_mark_10 : decode prog_8_method_23_code 10 = .ok (.getfield 73, 3) := by decide +kernel
theorem d_Mo_mark_13 : decode prog_8_method_23_code 13 = .ok (.bipush 81, 2) := by decide +kernel
theorem d_Mo_mark_15 : decode prog_8_method_23_code 15 = .ok (.iload_n 1, 1) := by decide +kernel
theorem d_Mo_mark_16 : decode prog_8_method_23_code 16 = .ok (.imul, 1) := by decide +kernel
theorem d_Mo_mark_17 : decode prog_8_method_23_code 17 = .ok (.iload 5, 2) := by decide +kernel
theorem d_Mo_mark_19 : decode prog_8_method_23_code 19 = .ok (.iadd, 1) := by decide +kernel
theorem d_Mo_mark_20 : decode prog_8_method_23_code 20 = .ok (.iload 4, 2) := by decide +kernel
theorem d_Mo_mark_22 : decode prog_8_method_23_code 22 = .ok (.iastore, 1) := by decide +kernel
theorem d_Mo_mark_23 : decode prog_8_method_23_code 23 = .ok (.iinc 5 1, 3) := by decide +kernel
theorem d_Mo_mark_26 : decode prog_8_method_23_code 26 = .ok (.goto (-23), 3) := by decide +kernel
theorem d_Mo_mark_29 : decode prog_8_method_23_code 29 = .ok (.return_, 1) := by decide +kernel
theorem d_Mo_walk_0 : decode prog_8_method_24_code 0 = .ok (.aload_n 0, 1) := by decide +kernel
theorem d_Mo_walk_1 : decode prog_8_method_24_code 1 = .ok (.iload_n 1, 1) := by decide +kernel
theorem d_Mo_walk_2 : decode prog_8_method_24_code 2 = .ok (.invokevirtual 131, 3) := by decide +kernel
theorem d_Mo_walk_5 : decode prog_8_method_24_code 5 = .ok (.istore_n 2, 1) := by decide +kernel
theorem d_Mo_walk_6 : decode prog_8_method_24_code 6 = .ok (.iconst 0, 1) := by decide +kernel
theorem d_Mo_walk_7 : decode prog_8_method_24_code 7 = .ok (.istore_n 3, 1) := by decide +kernel
theorem d_Mo_walk_8 : decode prog_8_method_24_code 8 = .ok (.iload_n 3, 1) := by decide +kernel
theorem d_Mo_walk_9 : decode prog_8_method_24_code 9 = .ok (.iload_n 2, 1) := by decide +kernel
theorem d_Mo_walk_10 : decode prog_8_method_24_code 10 = .ok (.if_icmp .ge 121, 3) := by decide +kernel
theorem d_Mo_walk_13 : decode prog_8_method_24_code 13 = .ok (.aload_n 0, 1) := by decide +kernel
theorem d_Mo_walk_14 : decode prog_8_method_24_code 14 = .ok (.iload_n 1, 1) := by decide +kernel
theorem d_Mo_walk_15 : decode prog_8_method_24_code 15 = .ok (.iload_n 3, 1) := by decide +kernel
theorem d_Mo_walk_16 : decode prog_8_method_24_code 16 = .ok (.iload_n 2, 1) := by decide +kernel
theorem d_Mo_walk_17 : decode prog_8_method_24_code 17 = .ok (.invokevirtual 162, 3) := by decide +kernel
theorem d_Mo_walk_20 : decode prog_8_method_24_code 20 = .ok (.istore 4, 2) := by decide +kernel
theorem d_Mo_walk_22 : decode prog_8_method_24_code 22 = .ok (.iload 4, 2) := by decide +kernel
theorem d_Mo_walk_24 : decode prog_8_method_24_code 24 = .ok (.ifCond .ne 19, 3) := by decide +kernel
theorem d_Mo_walk_27 : decode prog_8_method_24_code 27 = .ok (.aload_n 0, 1) := by decide +kernel
theorem d_Mo_walk_28 : decode prog_8_method_24_code 28 = .ok (.iload_n 1, 1) := by decide +kernel
theorem d_Mo_walk_29 : decode prog_8_method_24_code 29 = .ok (.iload_n 3, 1) := by decide +kernel
theorem d_Mo_walk_30 : decode prog_8_method_24_code 30 = .ok (.iload_n 3, 1) := by decide +kernel
theorem d_Mo_walk_31 : decode prog_8_method_24_code 31 = .ok (.iconst 1, 1) := by decide +kernel
theorem d_Mo_walk_32 : decode prog_8_method_24_code 32 = .ok (.iadd, 1) := by decide +kernel
theorem d_Mo_walk_33 : decode prog_8_method_24_code 33 = .ok (.iconst 2, 1) := by decide +kernel
theorem d_Mo_walk_34 : decode prog_8_method_24_code 34 = .ok (.invokevirtual 166, 3) := by decide +kernel
theorem d_Mo_walk_37 : decode prog_8_method_24_code 37 = .ok (.iinc 3 1, 3) := by decide +kernel
theorem d_Mo_walk_40 : decode prog_8_method_24_code 40 = .ok (.goto 88, 3) := by decide +kernel
theorem d_Mo_walk_43 : decode prog_8_method_24_code 43 = .ok (.iload_n 3, 1) := by decide +kernel
theorem d_Mo_walk_44 : decode prog_8_method_24_code 44 = .ok (.iload 4, 2) := by decide +kernel
theorem d_Mo_walk_46 : decode prog_8_method_24_code 46 = .ok (.bipush 8, 2) := by decide +kernel
theorem d_Mo_walk_48 : decode prog_8_method_24_code 48 = .ok (.idiv, 1) := by decide +kernel
theorem d_Mo_walk_49 : decode prog_8_method_24_code 49 = .ok (.iadd, 1) := by decide +kernel
theorem d_Mo_walk_50 : decode prog_8_method_24_code 50 = .ok (.istore 5, 2) := by decide +kernel
theorem d_Mo_walk_52 : decode prog_8_method_24_code 52 = .ok (.aload_n 0, 1) := by decide +kernel
theorem d_Mo_walk_53 : decode prog_8_method_24_code 53 = .ok (.iload_n 1, 1) := by decide +kernel
theorem d_Mo_walk_54 : decode prog_8_method_24_code 54 = .ok (.iload_n 3, 1) := by decide +kernel
theorem d_Mo_walk_55 : decode prog_8_method_24_code 55 = .ok (.iload 5, 2) := by decide +kernel
theorem d_Mo_walk_57 : decode prog_8_method_24_code 57 = .ok (.iconst 4, 1) := by decide +kernel
theorem d_Mo_walk_58 : decode prog_8_method_24_code 58 = .ok (.invokevirtual 166, 3) := by decide +kernel
theorem d_Mo_walk_61 : decode prog_8_method_24_code 61 = .ok (.aload_n 0, 1) := by decide +kernel
theorem d_Mo_walk_62 : decode prog_8_method_24_code 62 = .ok (.getfield 73, 3) := by decide +kernel
theorem d_Mo_walk_65 : decode prog_8_method_24_code 65 = .ok (.bipush 81, 2) := by decide +kernel
theorem d_Mo_walk_67 : decode prog_8_method_24_code 67 = .ok (.iload_n 1, 1) := by decide +kernel
theorem d_Mo_walk_68 : decode prog_8_method_24_code 68 = .ok (.imul, 1) := by decide +kernel
theorem d_Mo_walk_69 : decode prog_8_method_24_code 69 = .ok (.iload_n 3, 1) := by decide +kernel
theorem d_Mo_walk_70 : decode prog_8_method_24_code 70 = .ok (.iadd, 1) := by decide +kernel
theorem d_Mo_walk_71 : decode prog_8_method_24_code 71 = .ok (.iconst 1, 1) := by decide +kernel
theorem d_Mo_walk_72 : decode prog_8_method_24_code 72 = .ok (.iastore, 1) := by decide +kernel
theorem d_Mo_walk_73 : decode prog_8_method_24_code 73 = .ok (.aload_n 0, 1) := by decide +kernel
theorem d_Mo_walk_74 : decode prog_8_method_24_code 74 = .ok (.getfield 76, 3) := by decide +kernel
theorem d_Mo_walk_77 : decode prog_8_method_24_code 77 = .ok (.bipush 81, 2) := by decide +kernel
theorem d_Mo_walk_79 : decode prog_8_method_24_code 79 = .ok (.iload_n 1, 1) := by decide +kernel
theorem d_Mo_walk_80 : decode prog_8_method_24_code 80 = .ok (.imul, 1) := by decide +kernel
theorem d_Mo_walk_81 : decode prog_8_method_24_code 81 = .ok (.iload_n 3, 1) := by decide +kernel
theorem d_Mo_walk_82 : decode prog_8_method_24_code 82 = .ok (.iadd, 1) := by decide +kernel
theorem d_Mo_walk_83 : decode prog_8_method_24_code 83 = .ok (.iload 4, 2) := by decide +kernel
theorem d_Mo_walk_85 : decode prog_8_method_24_code 85 = .ok (.bipush 8, 2) := by decide +kernel
theorem d_Mo_walk_87 : decode prog_8_method_24_code 87 = .ok (.idiv, 1) := by decide +kernel
theorem d_Mo_walk_88 : decode prog_8_method_24_code 88 = .ok (.iastore, 1) := by decide +kernel
theorem d_Mo_walk_89 : decode prog_8_method_24_code 89 = .ok (.aload_n 0, 1) := by decide +kernel
theorem d_Mo_walk_90 : decode prog_8_method_24_code 90 = .ok (.getfield 79, 3) := by decide +kernel
theorem d_Mo_walk_93 : decode prog_8_method_24_code 93 = .ok (.bipush 81, 2) := by decide +kernel
theorem d_Mo_walk_95 : decode prog_8_method_24_code 95 = .ok (.iload_n 1, 1) := by decide +kernel
theorem d_Mo_walk_96 : decode prog_8_method_24_code 96 = .ok (.imul, 1) := by decide +kernel
theorem d_Mo_walk_97 : decode prog_8_method_24_code 97 = .ok (.iload_n 3, 1) := by decide +kernel
theorem d_Mo_walk_98 : decode prog_8_method_24_code 98 = .ok (.iadd, 1) := by decide +kernel
theorem d_Mo_walk_99 : decode prog_8_method_24_code 99 = .ok (.iload 4, 2) := by decide +kernel
theorem d_Mo_walk_101 : decode prog_8_method_24_code 101 = .ok (.bipush 8, 2) := by decide +kernel
theorem d_Mo_walk_103 : decode prog_8_method_24_code 103 = .ok (.irem, 1) := by decide +kernel
theorem d_Mo_walk_104 : decode prog_8_method_24_code 104 = .ok (.iastore, 1) := by decide +kernel
theorem d_Mo_walk_105 : decode prog_8_method_24_code 105 = .ok (.aload_n 0, 1) := by decide +kernel
theorem d_Mo_walk_106 : decode prog_8_method_24_code 106 = .ok (.iload_n 1, 1) := by decide +kernel
theorem d_Mo_walk_107 : decode prog_8_method_24_code 107 = .ok (.iload 5, 2) := by decide +kernel
theorem d_Mo_walk_109 : decode prog_8_method_24_code 109 = .ok (.aload_n 0, 1) := by decide +kernel
theorem d_Mo_walk_110 : decode prog_8_method_24_code 110 = .ok (.iload_n 2, 1) := by decide +kernel
theorem d_Mo_walk_111 : decode prog_8_method_24_code 111 = .ok (.iload 5, 2) := by decide +kernel
theorem d_Mo_walk_113 : decode prog_8_method_24_code 113 = .ok (.invokevirtual 154, 3) := by decide +kernel
theorem d_Mo_walk_116 : decode prog_8_method_24_code 116 = .ok (.iconst 3, 1) := by decide +kernel
theorem d_Mo_walk_117 : decode prog_8_method_24_code 117 = .ok (.invokevirtual 166, 3) := by decide +kernel
theorem d_Mo_walk_120 : decode prog_8_method_24_code 120 = .ok (.aload_n 0, 1) := by decide +kernel
theorem d_Mo_walk_121 : decode prog_8_method_24_code 121 = .ok (.iload_n 2, 1) := by decide +kernel
theorem d_Mo_walk_122 : decode prog_8_method_24_code 122 = .ok (.iload 5, 2) := by decide +kernel
theorem d_Mo_walk_124 : decode prog_8_method_24_code 124 = .ok (.invokevirtual 154, 3) := by decide +kernel
theorem d_Mo_walk_127 : decode prog_8_method_24_code 127 = .ok (.istore_n 3, 1) := by decide +kernel
theorem d_Mo_walk_128 : decode prog_8_method_24_code 128 = .ok (.goto (-120), 3) := by decide +kernel
theorem d_Mo_walk_131 : decode prog_8_method_24_code 131 = .ok (.return_, 1) := by decide +kernel
theorem d_Mo_plan_0 : decode prog_8_method_25_code 0 = .ok (.lconst 0, 1) := by decide +kernel
theorem d_Mo_plan_1 : decode prog_8_method_25_code 1 = .ok (.lstore_n 1, 1) := by decide +kernel
theorem d_Mo_plan_2 : decode prog_8_method_25_code 2 = .ok (.iconst 0, 1) := by decide +kernel
theorem d_Mo_plan_3 : decode prog_8_method_25_code 3 = .ok (.istore_n 3, 1) := by decide +kernel
theorem d_Mo_plan_4 : decode prog_8_method_25_code 4 = .ok (.iload_n 3, 1) := by decide +kernel
theorem d_Mo_plan_5 : decode prog_8_method_25_code 5 = .ok (.aload_n 0, 1) := by decide +kernel
theorem d_Mo_plan_6 : decode prog_8_method_25_code 6 = .ok (.getfield 7, 3) := by decide +kernel
theorem d_Mo_plan_9 : decode prog_8_method_25_code 9 = .ok (.if_icmp .ge 28, 3) := by decide +kernel
theorem d_Mo_plan_12 : decode prog_8_method_25_code 12 = .ok (.aload_n 0, 1) := by decide +kernel
theorem d_Mo_plan_13 : decode prog_8_method_25_code 13 = .ok (.iload_n 3, 1) := by decide +kernel
theorem d_Mo_plan_14 : decode prog_8_method_25_code 14 = .ok (.invokevirtual 170, 3) := by decide +kernel
theorem d_Mo_plan_17 : decode prog_8_method_25_code 17 = .ok (.lload_n 1, 1) := by decide +kernel
theorem d_Mo_plan_18 : decode prog_8_method_25_code 18 = .ok (.aload_n 0, 1) := by decide +kernel
theorem d_Mo_plan_19 : decode prog_8_method_25_code 19 = .ok (.getfield 91, 3) := by decide +kernel
theorem d_Mo_plan_22 : decode prog_8_method_25_code 22 = .ok (.iconst 0, 1) := by decide +kernel
theorem d_Mo_plan_23 : decode prog_8_method_25_code 23 = .ok (.laload, 1) := by decide +kernel
theorem d_Mo_plan_24 : decode prog_8_method_25_code 24 = .ok (.ladd, 1) := by decide +kernel
theorem d_Mo_plan_25 : decode prog_8_method_25_code 25 = .ok (.lstore_n 1, 1) := by decide +kernel
theorem d_Mo_plan_26 : decode prog_8_method_25_code 26 = .ok (.aload_n 0, 1) := by decide +kernel
theorem d_Mo_plan_27 : decode prog_8_method_25_code 27 = .ok (.iload_n 3, 1) := by decide +kernel
theorem d_Mo_plan_28 : decode prog_8_method_25_code 28 = .ok (.invokevirtual 174, 3) := by decide +kernel
theorem d_Mo_plan_31 : decode prog_8_method_25_code 31 = .ok (.iinc 3 1, 3) := by decide +kernel
theorem d_Mo_plan_34 : decode prog_8_method_25_code 34 = .ok (.goto (-30), 3) := by decide +kernel
theorem d_Mo_plan_37 : decode prog_8_method_25_code 37 = .ok (.lload_n 1, 1) := by decide +kernel
theorem d_Mo_plan_38 : decode prog_8_method_25_code 38 = .ok (.lreturn, 1) := by decide +kernel
theorem d_Mo_countOf_0 : decode prog_8_method_26_code 0 = .ok (.iconst 0, 1) := by decide +kernel
theorem d_Mo_countOf_1 : decode prog_8_method_26_code 1 = .ok (.istore_n 2, 1) := by decide +kernel
theorem d_Mo_countOf_2 : decode prog_8_method_26_code 2 = .ok (.iconst 0, 1) := by decide +kernel
theorem d_Mo_countOf_3 : decode prog_8_method_26_code 3 = .ok (.istore_n 3, 1) := by decide +kernel
theorem d_Mo_countOf_4 : decode prog_8_method_26_code 4 = .ok (.iload_n 3, 1) := by decide +kernel
theorem d_Mo_countOf_5 : decode prog_8_method_26_code 5 = .ok (.aload_n 0, 1) := by decide +kernel
theorem d_Mo_countOf_6 : decode prog_8_method_26_code 6 = .ok (.getfield 7, 3) := by decide +kernel
theorem d_Mo_countOf_9 : decode prog_8_method_26_code 9 = .ok (.if_icmp .ge 68, 3) := by decide +kernel
theorem d_Mo_countOf_12 : decode prog_8_method_26_code 12 = .ok (.iconst 0, 1) := by decide +kernel
theorem d_Mo_countOf_13 : decode prog_8_method_26_code 13 = .ok (.istore 4, 2) := by decide +kernel
theorem d_Mo_countOf_15 : decode prog_8_method_26_code 15 = .ok (.iload 4, 2) := by decide +kernel
theorem d_Mo_countOf_17 : decode prog_8_method_26_code 17 = .ok (.aload_n 0, 1) := by decide +kernel
theorem d_Mo_countOf_18 : decode prog_8_method_26_code 18 = .ok (.iload_n 3, 1) := by decide +kernel
theorem d_Mo_countOf_19 : decode prog_8_method_26_code 19 = .ok (.invokevirtual 131, 3) := by decide +kernel
theorem d_Mo_countOf_22 : decode prog_8_method_26_code 22 = .ok (.if_icmp .ge 49, 3) := by decide +kernel
theorem d_Mo_countOf_25 : decode prog_8_method_26_code 25 = .ok (.aload_n 0, 1) := by decide +kernel
theorem d_Mo_countOf_26 : decode prog_8_method_26_code 26 = .ok (.getfield 73, 3) := by decide +kernel
theorem d_Mo_countOf_29 : decode prog_8_method_26_code 29 = .ok (.bipush 81, 2) := by decide +kernel
theorem d_Mo_countOf_31 : decode prog_8_method_26_code 31 = .ok (.iload_n 3, 1) := by decide +kernel
theorem d_Mo_countOf_32 : decode prog_8_method_26_code 32 = .ok (.imul, 1) := by decide +kernel
theorem d_Mo_countOf_33 : decode prog_8_method_26_code 33 = .ok (.iload 4, 2) := by decide +kernel
theorem d_Mo_countOf_35 : decode prog_8_method_26_code 35 = .ok (.iadd, 1) := by decide +kernel
theorem d_Mo_countOf_36 : decode prog_8_method_26_code 36 = .ok (.iaload, 1) := by decide +kernel
theorem d_Mo_countOf_37 : decode prog_8_method_26_code 37 = .ok (.iconst 1, 1) := by decide +kernel
theorem d_Mo_countOf_38 : decode prog_8_method_26_code 38 = .ok (.if_icmp .ne 25, 3) := by decide +kernel
theorem d_Mo_countOf_41 : decode prog_8_method_26_code 41 = .ok (.aload_n 0, 1) := by decide +kernel
theorem d_Mo_countOf_42 : decode prog_8_method_26_code 42 = .ok (.getfield 79, 3) := by decide +kernel
theorem d_Mo_countOf_45 : decode prog_8_method_26_code 45 = .ok (.bipush 81, 2) := by decide +kernel
theorem d_Mo_countOf_47 : decode prog_8_method_26_code 47 = .ok (.iload_n 3, 1) := by decide +kernel
theorem d_Mo_countOf_48 : decode prog_8_method_26_code 48 = .ok (.imul, 1) := by decide +kernel
theorem d_Mo_countOf_49 : decode prog_8_method_26_code 49 = .ok (.iload 4, 2) := by decide +kernel
theorem d_Mo_countOf_51 : decode prog_8_method_26_code 51 = .ok (.iadd, 1) := by decide +kernel
theorem d_Mo_countOf_52 : decode prog_8_method_26_code 52 = .ok (.iaload, 1) := by decide +kernel
theorem d_Mo_countOf_53 : decode prog_8_method_26_code 53 = .ok (.iload_n 1, 1) := by decide +kernel
theorem d_Mo_countOf_54 : decode prog_8_method_26_code 54 = .ok (.if_icmp .ne 9, 3) := by decide +kernel
theorem d_Mo_countOf_57 : decode prog_8_method_26_code 57 = .ok (.iload_n 2, 1) := by decide +kernel
theorem d_Mo_countOf_58 : decode prog_8_method_26_code 58 = .ok (.iconst 1, 1) := by decide +kernel
theorem d_Mo_countOf_59 : decode prog_8_method_26_code 59 = .ok (.iadd, 1) := by decide +kernel
theorem d_Mo_countOf_60 : decode prog_8_method_26_code 60 = .ok (.goto 4, 3) := by decide +kernel
theorem d_Mo_countOf_63 : decode prog_8_method_26_code 63 = .ok (.iload_n 2, 1) := by decide +kernel
theorem d_Mo_countOf_64 : decode prog_8_method_26_code 64 = .ok (.istore_n 2, 1) := by decide +kernel
theorem d_Mo_countOf_65 : decode prog_8_method_26_code 65 = .ok (.iinc 4 1, 3) := by decide +kernel
theorem d_Mo_countOf_68 : decode prog_8_method_26_code 68 = .ok (.goto (-53), 3) := by decide +kernel
theorem d_Mo_countOf_71 : decode prog_8_method_26_code 71 = .ok (.iinc 3 1, 3) := by decide +kernel
theorem d_Mo_countOf_74 : decode prog_8_method_26_code 74 = .ok (.goto (-70), 3) := by decide +kernel
theorem d_Mo_countOf_77 : decode prog_8_method_26_code 77 = .ok (.iload_n 2, 1) := by decide +kernel
theorem d_Mo_countOf_78 : decode prog_8_method_26_code 78 = .ok (.ireturn, 1) := by decide +kernel
theorem d_Mo_trueWorth_0 : decode prog_8_method_27_code 0 = .ok (.lconst 0, 1) := by decide +kernel
theorem d_Mo_trueWorth_1 : decode prog_8_method_27_code 1 = .ok (.lstore_n 1, 1) := by decide +kernel
theorem d_Mo_trueWorth_2 : decode prog_8_method_27_code 2 = .ok (.iconst 0, 1) := by decide +kernel
theorem d_Mo_trueWorth_3 : decode prog_8_method_27_code 3 = .ok (.istore_n 3, 1) := by decide +kernel
theorem d_Mo_trueWorth_4 : decode prog_8_method_27_code 4 = .ok (.iload_n 3, 1) := by decide +kernel
theorem d_Mo_trueWorth_5 : decode prog_8_method_27_code 5 = .ok (.aload_n 0, 1) := by decide +kernel
theorem d_Mo_trueWorth_6 : decode prog_8_method_27_code 6 = .ok (.getfield 7, 3) := by decide +kernel
theorem d_Mo_trueWorth_9 : decode prog_8_method_27_code 9 = .ok (.if_icmp .ge 74, 3) := by decide +kernel
theorem d_Mo_trueWorth_12 : decode prog_8_method_27_code 12 = .ok (.iconst 0, 1) := by decide +kernel
theorem d_Mo_trueWorth_13 : decode prog_8_method_27_code 13 = .ok (.istore 4, 2) := by decide +kernel
theorem d_Mo_trueWorth_15 : decode prog_8_method_27_code 15 = .ok (.iload 4, 2) := by decide +kernel
theorem d_Mo_trueWorth_17 : decode prog_8_method_27_code 17 = .ok (.aload_n 0, 1) := by decide +kernel
theorem d_Mo_trueWorth_18 : decode prog_8_method_27_code 18 = .ok (.iload_n 3, 1) := by decide +kernel
theorem d_Mo_trueWorth_19 : decode prog_8_method_27_code 19 = .ok (.invokevirtual 131, 3) := by decide +kernel
theorem d_Mo_trueWorth_22 : decode prog_8_method_27_code 22 = .ok (.if_icmp .ge 55, 3) := by decide +kernel
theorem d_Mo_trueWorth_25 : decode prog_8_method_27_code 25 = .ok (.bipush 81, 2) := by decide +kernel
theorem d_Mo_trueWorth_27 : decode prog_8_method_27_code 27 = .ok (.iload_n 3, 1) := by decide +kernel
theorem d_Mo_trueWorth_28 : decode prog_8_method_27_code 28 = .ok (.imul, 1) := by decide +kernel
theorem d_Mo_trueWorth_29 : decode prog_8_method_27_code 29 = .ok (.iload 4, 2) := by decide +kernel
theorem d_Mo_trueWorth_31 : decode prog_8_method_27_code 31 = .ok (.iadd, 1) := by decide +kernel
theorem d_Mo_trueWorth_32 : decode prog_8_method_27_code 32 = .ok (.istore 5, 2) := by decide +kernel
theorem d_Mo_trueWorth_34 : decode prog_8_method_27_code 34 = .ok (.aload_n 0, 1) := by decide +kernel
theorem d_Mo_trueWorth_35 : decode prog_8_method_27_code 35 = .ok (.getfield 73, 3) := by decide +kernel
theorem d_Mo_trueWorth_38 : decode prog_8_method_27_code 38 = .ok (.iload 5, 2) := by decide +kernel
theorem d_Mo_trueWorth_40 : decode prog_8_method_27_code 40 = .ok (.iaload, 1) := by decide +kernel
theorem d_Mo_trueWorth_41 : decode prog_8_method_27_code 41 = .ok (.iconst 1, 1) := by decide +kernel
theorem d_Mo_trueWorth_42 : decode prog_8_method_27_code 42 = .ok (.if_icmp .ne 27, 3) := by decide +kernel
theorem d_Mo_trueWorth_45 : decode prog_8_method_27_code 45 = .ok (.lload_n 1, 1) := by decide +kernel
theorem d_Mo_trueWorth_46 : decode prog_8_method_27_code 46 = .ok (.aload_n 0, 1) := by decide +kernel
theorem d_Mo_trueWorth_47 : decode prog_8_method_27_code 47 = .ok (.iload_n 3, 1) := by decide +kernel
theorem d_Mo_trueWorth_48 : decode prog_8_method_27_code 48 = .ok (.aload_n 0, 1) := by decide +kernel
theorem d_Mo_trueWorth_49 : decode prog_8_method_27_code 49 = .ok (.getfield 76, 3) := by decide +kernel
