theorem d_Mo_fuel_26 : decode prog_8_method_44_code 26 = .ok (.goto 20, 3) := by decide +kernel
theorem d_Mo_fuel_29 : decode prog_8_method_44_code 29 = .ok (.iload_n 2, 1) := by decide +kernel
theorem d_Mo_fuel_30 : decode prog_8_method_44_code 30 = .ok (.i2l, 1) := by decide +kernel
theorem d_Mo_fuel_31 : decode prog_8_method_44_code 31 = .ok (.lconst 0, 1) := by decide +kernel
theorem d_Mo_fuel_32 : decode prog_8_method_44_code 32 = .ok (.ldc2_w 237, 3) := by decide +kernel
theorem d_Mo_fuel_35 : decode prog_8_method_44_code 35 = .ok (.invokestatic 112, 3) := by decide +kernel
theorem d_Mo_fuel_38 : decode prog_8_method_44_code 38 = .ok (.ifCond .eq 7, 3) := by decide +kernel
theorem d_Mo_fuel_41 : decode prog_8_method_44_code 41 = .ok (.iconst 0, 1) := by decide +kernel
theorem d_Mo_fuel_42 : decode prog_8_method_44_code 42 = .ok (.goto 4, 3) := by decide +kernel
theorem d_Mo_fuel_45 : decode prog_8_method_44_code 45 = .ok (.iconst 3, 1) := by decide +kernel
theorem d_Mo_fuel_46 : decode prog_8_method_44_code 46 = .ok (.putfield 103, 3) := by decide +kernel
theorem d_Mo_fuel_49 : decode prog_8_method_44_code 49 = .ok (.aload_n 0, 1) := by decide +kernel
theorem d_Mo_fuel_50 : decode prog_8_method_44_code 50 = .ok (.getfield 103, 3) := by decide +kernel
theorem d_Mo_fuel_53 : decode prog_8_method_44_code 53 = .ok (.ifCond .gt 8, 3) := by decide +kernel
theorem d_Mo_fuel_56 : decode prog_8_method_44_code 56 = .ok (.iload_n 1, 1) := by decide +kernel
theorem d_Mo_fuel_57 : decode prog_8_method_44_code 57 = .ok (.iconst (-1), 1) := by decide +kernel
theorem d_Mo_fuel_58 : decode prog_8_method_44_code 58 = .ok (.if_icmp .ne 16, 3) := by decide +kernel
theorem d_Mo_fuel_61 : decode prog_8_method_44_code 61 = .ok (.aload_n 0, 1) := by decide +kernel
theorem d_Mo_fuel_62 : decode prog_8_method_44_code 62 = .ok (.getfield 103, 3) := by decide +kernel
theorem d_Mo_fuel_65 : decode prog_8_method_44_code 65 = .ok (.ifCond .le 7, 3) := by decide +kernel
theorem d_Mo_fuel_68 : decode prog_8_method_44_code 68 = .ok (.iconst 0, 1) := by decide +kernel
theorem d_Mo_fuel_69 : decode prog_8_method_44_code 69 = .ok (.goto 4, 3) := by decide +kernel
theorem d_Mo_fuel_72 : decode prog_8_method_44_code 72 = .ok (.iload_n 3, 1) := by decide +kernel
theorem d_Mo_fuel_73 : decode prog_8_method_44_code 73 = .ok (.ireturn, 1) := by decide +kernel
theorem d_Mo_fuel_74 : decode prog_8_method_44_code 74 = .ok (.iconst 0, 1) := by decide +kernel
theorem d_Mo_fuel_75 : decode prog_8_method_44_code 75 = .ok (.istore 4, 2) := by decide +kernel
theorem d_Mo_fuel_77 : decode prog_8_method_44_code 77 = .ok (.iconst 0, 1) := by decide +kernel
theorem d_Mo_fuel_78 : decode prog_8_method_44_code 78 = .ok (.istore 5, 2) := by decide +kernel
theorem d_Mo_fuel_80 : decode prog_8_method_44_code 80 = .ok (.iload 5, 2) := by decide +kernel
theorem d_Mo_fuel_82 : decode prog_8_method_44_code 82 = .ok (.iload_n 1, 1) := by decide +kernel
theorem d_Mo_fuel_83 : decode prog_8_method_44_code 83 = .ok (.if_icmp .gt 29, 3) := by decide +kernel
theorem d_Mo_fuel_86 : decode prog_8_method_44_code 86 = .ok (.aload_n 0, 1) := by decide +kernel
theorem d_Mo_fuel_87 : decode prog_8_method_44_code 87 = .ok (.iload 4, 2) := by decide +kernel
theorem d_Mo_fuel_89 : decode prog_8_method_44_code 89 = .ok (.invokevirtual 231, 3) := by decide +kernel
theorem d_Mo_fuel_92 : decode prog_8_method_44_code 92 = .ok (.ifCond .eq 10, 3) := by decide +kernel
theorem d_Mo_fuel_95 : decode prog_8_method_44_code 95 = .ok (.iload 5, 2) := by decide +kernel
theorem d_Mo_fuel_97 : decode prog_8_method_44_code 97 = .ok (.iconst 1, 1) := by decide +kernel
theorem d_Mo_fuel_98 : decode prog_8_method_44_code 98 = .ok (.iadd, 1) := by decide +kernel
theorem d_Mo_fuel_99 : decode prog_8_method_44_code 99 = .ok (.goto 5, 3) := by decide +kernel
theorem d_Mo_fuel_102 : decode prog_8_method_44_code 102 = .ok (.iload 5, 2) := by decide +kernel
theorem d_Mo_fuel_104 : decode prog_8_method_44_code 104 = .ok (.istore 5, 2) := by decide +kernel
theorem d_Mo_fuel_106 : decode prog_8_method_44_code 106 = .ok (.iinc 4 1, 3) := by decide +kernel
theorem d_Mo_fuel_109 : decode prog_8_method_44_code 109 = .ok (.goto (-29), 3) := by decide +kernel
theorem d_Mo_fuel_112 : decode prog_8_method_44_code 112 = .ok (.iinc 4 (-1), 3) := by decide +kernel
theorem d_Mo_fuel_115 : decode prog_8_method_44_code 115 = .ok (.iconst 1, 1) := by decide +kernel
theorem d_Mo_fuel_116 : decode prog_8_method_44_code 116 = .ok (.istore 6, 2) := by decide +kernel
theorem d_Mo_fuel_118 : decode prog_8_method_44_code 118 = .ok (.aload_n 0, 1) := by decide +kernel
theorem d_Mo_fuel_119 : decode prog_8_method_44_code 119 = .ok (.iload 4, 2) := by decide +kernel
theorem d_Mo_fuel_121 : decode prog_8_method_44_code 121 = .ok (.iload 6, 2) := by decide +kernel
theorem d_Mo_fuel_123 : decode prog_8_method_44_code 123 = .ok (.iadd, 1) := by decide +kernel
theorem d_Mo_fuel_124 : decode prog_8_method_44_code 124 = .ok (.invokevirtual 228, 3) := by decide +kernel
theorem d_Mo_fuel_127 : decode prog_8_method_44_code 127 = .ok (.ifCond .eq 25, 3) := by decide +kernel
theorem d_Mo_fuel_130 : decode prog_8_method_44_code 130 = .ok (.iload 4, 2) := by decide +kernel
theorem d_Mo_fuel_132 : decode prog_8_method_44_code 132 = .ok (.iload 6, 2) := by decide +kernel
theorem d_Mo_fuel_134 : decode prog_8_method_44_code 134 = .ok (.iadd, 1) := by decide +kernel
theorem d_Mo_fuel_135 : decode prog_8_method_44_code 135 = .ok (.bipush 81, 2) := by decide +kernel
theorem d_Mo_fuel_137 : decode prog_8_method_44_code 137 = .ok (.idiv, 1) := by decide +kernel
theorem d_Mo_fuel_138 : decode prog_8_method_44_code 138 = .ok (.iload 4, 2) := by decide +kernel
theorem d_Mo_fuel_140 : decode prog_8_method_44_code 140 = .ok (.bipush 81, 2) := by decide +kernel
theorem d_Mo_fuel_142 : decode prog_8_method_44_code 142 = .ok (.idiv, 1) := by decide +kernel
theorem d_Mo_fuel_143 : decode prog_8_method_44_code 143 = .ok (.if_icmp .ne 9, 3) := by decide +kernel
theorem d_Mo_fuel_146 : decode prog_8_method_44_code 146 = .ok (.iinc 6 1, 3) := by decide +kernel
theorem d_Mo_fuel_149 : decode prog_8_method_44_code 149 = .ok (.goto (-31), 3) := by decide +kernel
theorem d_Mo_fuel_152 : decode prog_8_method_44_code 152 = .ok (.iload_n 2, 1) := by decide +kernel
theorem d_Mo_fuel_153 : decode prog_8_method_44_code 153 = .ok (.ifCond .ne 11, 3) := by decide +kernel
theorem d_Mo_fuel_156 : decode prog_8_method_44_code 156 = .ok (.iload 4, 2) := by decide +kernel
theorem d_Mo_fuel_158 : decode prog_8_method_44_code 158 = .ok (.bipush 81, 2) := by decide +kernel
theorem d_Mo_fuel_160 : decode prog_8_method_44_code 160 = .ok (.idiv, 1) := by decide +kernel
theorem d_Mo_fuel_161 : decode prog_8_method_44_code 161 = .ok (.goto 18, 3) := by decide +kernel
theorem d_Mo_fuel_164 : decode prog_8_method_44_code 164 = .ok (.iload_n 2, 1) := by decide +kernel
theorem d_Mo_fuel_165 : decode prog_8_method_44_code 165 = .ok (.iconst 1, 1) := by decide +kernel
theorem d_Mo_fuel_166 : decode prog_8_method_44_code 166 = .ok (.if_icmp .ne 11, 3) := by decide +kernel
theorem d_Mo_fuel_169 : decode prog_8_method_44_code 169 = .ok (.iload 4, 2) := by decide +kernel
theorem d_Mo_fuel_171 : decode prog_8_method_44_code 171 = .ok (.bipush 81, 2) := by decide +kernel
theorem d_Mo_fuel_173 : decode prog_8_method_44_code 173 = .ok (.irem, 1) := by decide +kernel
theorem d_Mo_fuel_174 : decode prog_8_method_44_code 174 = .ok (.goto 5, 3) := by decide +kernel
theorem d_Mo_fuel_177 : decode prog_8_method_44_code 177 = .ok (.iload 6, 2) := by decide +kernel
theorem d_Mo_fuel_179 : decode prog_8_method_44_code 179 = .ok (.ireturn, 1) := by decide +kernel
theorem d_Mo_bound_0 : decode prog_8_method_45_code 0 = .ok (.aload_n 0, 1) := by decide +kernel
theorem d_Mo_bound_1 : decode prog_8_method_45_code 1 = .ok (.invokevirtual 220, 3) := by decide +kernel
theorem d_Mo_bound_4 : decode prog_8_method_45_code 4 = .ok (.ifCond .eq 7, 3) := by decide +kernel
theorem d_Mo_bound_7 : decode prog_8_method_45_code 7 = .ok (.lconst 0, 1) := by decide +kernel
theorem d_Mo_bound_8 : decode prog_8_method_45_code 8 = .ok (.goto 7, 3) := by decide +kernel
theorem d_Mo_bound_11 : decode prog_8_method_45_code 11 = .ok (.aload_n 0, 1) := by decide +kernel
theorem d_Mo_bound_12 : decode prog_8_method_45_code 12 = .ok (.getfield 184, 3) := by decide +kernel
theorem d_Mo_bound_15 : decode prog_8_method_45_code 15 = .ok (.lreturn, 1) := by decide +kernel
theorem d_Mo_price_0 : decode prog_8_method_46_code 0 = .ok (.aload_n 0, 1) := by decide +kernel
theorem d_Mo_price_1 : decode prog_8_method_46_code 1 = .ok (.invokevirtual 220, 3) := by decide +kernel
theorem d_Mo_price_4 : decode prog_8_method_46_code 4 = .ok (.ifCond .eq 5, 3) := by decide +kernel
theorem d_Mo_price_7 : decode prog_8_method_46_code 7 = .ok (.lconst 0, 1) := by decide +kernel
theorem d_Mo_price_8 : decode prog_8_method_46_code 8 = .ok (.lreturn, 1) := by decide +kernel
theorem d_Mo_price_9 : decode prog_8_method_46_code 9 = .ok (.aload_n 0, 1) := by decide +kernel
theorem d_Mo_price_10 : decode prog_8_method_46_code 10 = .ok (.iload_n 1, 1) := by decide +kernel
theorem d_Mo_price_11 : decode prog_8_method_46_code 11 = .ok (.ifCond .lt 20, 3) := by decide +kernel
theorem d_Mo_price_14 : decode prog_8_method_46_code 14 = .ok (.iload_n 1, 1) := by decide +kernel
theorem d_Mo_price_15 : decode prog_8_method_46_code 15 = .ok (.aload_n 0, 1) := by decide +kernel
theorem d_Mo_price_16 : decode prog_8_method_46_code 16 = .ok (.getfield 124, 3) := by decide +kernel
theorem d_Mo_price_19 : decode prog_8_method_46_code 19 = .ok (.if_icmp .ge 12, 3) := by decide +kernel
theorem d_Mo_price_22 : decode prog_8_method_46_code 22 = .ok (.iload_n 2, 1) := by decide +kernel
theorem d_Mo_price_23 : decode prog_8_method_46_code 23 = .ok (.ifCond .lt 8, 3) := by decide +kernel
theorem d_Mo_price_26 : decode prog_8_method_46_code 26 = .ok (.iload_n 2, 1) := by decide +kernel
theorem d_Mo_price_27 : decode prog_8_method_46_code 27 = .ok (.iconst 2, 1) := by decide +kernel
theorem d_Mo_price_28 : decode prog_8_method_46_code 28 = .ok (.if_icmp .le 7, 3) := by decide +kernel
theorem d_Mo_price_31 : decode prog_8_method_46_code 31 = .ok (.iconst 2, 1) := by decide +kernel
theorem d_Mo_price_32 : decode prog_8_method_46_code 32 = .ok (.goto 4, 3) := by decide +kernel
theorem d_Mo_price_35 : decode prog_8_method_46_code 35 = .ok (.iconst 0, 1) := by decide +kernel
theorem d_Mo_price_36 : decode prog_8_method_46_code 36 = .ok (.putfield 103, 3) := by decide +kernel
theorem d_Mo_price_39 : decode prog_8_method_46_code 39 = .ok (.aload_n 0, 1) := by decide +kernel
theorem d_Mo_price_40 : decode prog_8_method_46_code 40 = .ok (.getfield 103, 3) := by decide +kernel
theorem d_Mo_price_43 : decode prog_8_method_46_code 43 = .ok (.ifCond .le 7, 3) := by decide +kernel
theorem d_Mo_price_46 : decode prog_8_method_46_code 46 = .ok (.lconst 0, 1) := by decide +kernel
theorem d_Mo_price_47 : decode prog_8_method_46_code 47 = .ok (.goto 36, 3) := by decide +kernel
theorem d_Mo_price_50 : decode prog_8_method_46_code 50 = .ok (.iload_n 2, 1) := by decide +kernel
theorem d_Mo_price_51 : decode prog_8_method_46_code 51 = .ok (.ifCond .ne 12, 3) := by decide +kernel
theorem d_Mo_price_54 : decode prog_8_method_46_code 54 = .ok (.aload_n 0, 1) := by decide +kernel
theorem d_Mo_price_55 : decode prog_8_method_46_code 55 = .ok (.getfield 70, 3) := by decide +kernel
theorem d_Mo_price_58 : decode prog_8_method_46_code 58 = .ok (.iload_n 1, 1) := by decide +kernel
theorem d_Mo_price_59 : decode prog_8_method_46_code 59 = .ok (.laload, 1) := by decide +kernel
theorem d_Mo_price_60 : decode prog_8_method_46_code 60 = .ok (.goto 23, 3) := by decide +kernel
theorem d_Mo_price_63 : decode prog_8_method_46_code 63 = .ok (.iload_n 2, 1) := by decide +kernel
theorem d_Mo_price_64 : decode prog_8_method_46_code 64 = .ok (.iconst 1, 1) := by decide +kernel
theorem d_Mo_price_65 : decode prog_8_method_46_code 65 = .ok (.if_icmp .ne 12, 3) := by decide +kernel
theorem d_Mo_price_68 : decode prog_8_method_46_code 68 = .ok (.aload_n 0, 1) := by decide +kernel
theorem d_Mo_price_69 : decode prog_8_method_46_code 69 = .ok (.iload_n 1, 1) := by decide +kernel
theorem d_Mo_price_70 : decode prog_8_method_46_code 70 = .ok (.invokevirtual 177, 3) := by decide +kernel
theorem d_Mo_price_73 : decode prog_8_method_46_code 73 = .ok (.i2l, 1) := by decide +kernel
theorem d_Mo_price_74 : decode prog_8_method_46_code 74 = .ok (.goto 9, 3) := by decide +kernel
theorem d_Mo_price_77 : decode prog_8_method_46_code 77 = .ok (.aload_n 0, 1) := by decide +kernel
theorem d_Mo_price_78 : decode prog_8_method_46_code 78 = .ok (.getfield 61, 3) := by decide +kernel
theorem d_Mo_price_81 : decode prog_8_method_46_code 81 = .ok (.iload_n 1, 1) := by decide +kernel
theorem d_Mo_price_82 : decode prog_8_method_46_code 82 = .ok (.laload, 1) := by decide +kernel
theorem d_Mo_price_83 : decode prog_8_method_46_code 83 = .ok (.lreturn, 1) := by decide +kernel
theorem d_Mo_override_0 : decode prog_8_method_47_code 0 = .ok (.aload_n 0, 1) := by decide +kernel
theorem d_Mo_override_1 : decode prog_8_method_47_code 1 = .ok (.invokevirtual 220, 3) := by decide +kernel
theorem d_Mo_override_4 : decode prog_8_method_47_code 4 = .ok (.ifCond .eq 5, 3) := by decide +kernel
theorem d_Mo_override_7 : decode prog_8_method_47_code 7 = .ok (.iconst 0, 1) := by decide +kernel
theorem d_Mo_override_8 : decode prog_8_method_47_code 8 = .ok (.ireturn, 1) := by decide +kernel
theorem d_Mo_override_9 : decode prog_8_method_47_code 9 = .ok (.aload_n 0, 1) := by decide +kernel
theorem d_Mo_override_10 : decode prog_8_method_47_code 10 = .ok (.aload_n 0, 1) := by decide +kernel
theorem d_Mo_override_11 : decode prog_8_method_47_code 11 = .ok (.iload_n 1, 1) := by decide +kernel
theorem d_Mo_override_12 : decode prog_8_method_47_code 12 = .ok (.invokevirtual 135, 3) := by decide +kernel
theorem d_Mo_override_15 : decode prog_8_method_47_code 15 = .ok (.ifCond .eq 27, 3) := by decide +kernel
theorem d_Mo_override_18 : decode prog_8_method_47_code 18 = .ok (.aload_n 0, 1) := by decide +kernel
theorem d_Mo_override_19 : decode prog_8_method_47_code 19 = .ok (.getfield 38, 3) := by decide +kernel
theorem d_Mo_override_22 : decode prog_8_method_47_code 22 = .ok (.bipush 81, 2) := by decide +kernel
theorem d_Mo_override_24 : decode prog_8_method_47_code 24 = .ok (.aload_n 0, 1) := by decide +kernel
theorem d_Mo_override_25 : decode prog_8_method_47_code 25 = .ok (.getfield 7, 3) := by decide +kernel
theorem d_Mo_override_28 : decode prog_8_method_47_code 28 = .ok (.iconst 1, 1) := by decide +kernel
theorem d_Mo_override_29 : decode prog_8_method_47_code 29 = .ok (.isub, 1) := by decide +kernel
theorem d_Mo_override_30 : decode prog_8_method_47_code 30 = .ok (.imul, 1) := by decide +kernel
theorem d_Mo_override_31 : decode prog_8_method_47_code 31 = .ok (.iload_n 1, 1) := by decide +kernel
theorem d_Mo_override_32 : decode prog_8_method_47_code 32 = .ok (.aload_n 0, 1) := by decide +kernel
theorem d_Mo_override_33 : decode prog_8_method_47_code 33 = .ok (.getfield 98, 3) := by decide +kernel
theorem d_Mo_override_36 : decode prog_8_method_47_code 36 = .ok (.idiv, 1) := by decide +kernel
theorem d_Mo_override_37 : decode prog_8_method_47_code 37 = .ok (.iadd, 1) := by decide +kernel
theorem d_Mo_override_38 : decode prog_8_method_47_code 38 = .ok (.baload, 1) := by decide +kernel
theorem d_Mo_override_39 : decode prog_8_method_47_code 39 = .ok (.ifCond .eq 7, 3) := by decide +kernel
theorem d_Mo_override_42 : decode prog_8_method_47_code 42 = .ok (.iconst 2, 1) := by decide +kernel
theorem d_Mo_override_43 : decode prog_8_method_47_code 43 = .ok (.goto 4, 3) := by decide +kernel
theorem d_Mo_override_46 : decode prog_8_method_47_code 46 = .ok (.iconst 0, 1) := by decide +kernel
theorem d_Mo_override_47 : decode prog_8_method_47_code 47 = .ok (.putfield 103, 3) := by decide +kernel
theorem d_Mo_override_50 : decode prog_8_method_47_code 50 = .ok (.aload_n 0, 1) := by decide +kernel
theorem d_Mo_override_51 : decode prog_8_method_47_code 51 = .ok (.getfield 103, 3) := by decide +kernel
theorem d_Mo_override_54 : decode prog_8_method_47_code 54 = .ok (.ifCond .le 5, 3) := by decide +kernel
theorem d_Mo_override_57 : decode prog_8_method_47_code 57 = .ok (.iconst 0, 1) := by decide +kernel
theorem d_Mo_override_58 : decode prog_8_method_47_code 58 = .ok (.ireturn, 1) := by decide +kernel
theorem d_Mo_override_59 : decode prog_8_method_47_code 59 = .ok (.aload_n 0, 1) := by decide +kernel
theorem d_Mo_override_60 : decode prog_8_method_47_code 60 = .ok (.invokevirtual 199, 3) := by decide +kernel
theorem d_Mo_override_63 : decode prog_8_method_47_code 63 = .ok (.lstore_n 2, 1) := by decide +kernel
theorem d_Mo_override_64 : decode prog_8_method_47_code 64 = .ok (.aload_n 0, 1) := by decide +kernel
theorem d_Mo_override_65 : decode prog_8_method_47_code 65 = .ok (.getfield 38, 3) := by decide +kernel
theorem d_Mo_override_68 : decode prog_8_method_47_code 68 = .ok (.bipush 81, 2) := by decide +kernel
theorem d_Mo_override_70 : decode prog_8_method_47_code 70 = .ok (.aload_n 0, 1) := by decide +kernel
theorem d_Mo_override_71 : decode prog_8_method_47_code 71 = .ok (.getfield 7, 3) := by decide +kernel
theorem d_Mo_override_74 : decode prog_8_method_47_code 74 = .ok (.iconst 1, 1) := by decide +kernel
theorem d_Mo_override_75 : decode prog_8_method_47_code 75 = .ok (.isub, 1) := by decide +kernel
theorem d_Mo_override_76 : decode prog_8_method_47_code 76 = .ok (.imul, 1) := by decide +kernel
theorem d_Mo_override_77 : decode prog_8_method_47_code 77 = .ok (.iload_n 1, 1) := by decide +kernel
theorem d_Mo_override_78 : decode prog_8_method_47_code 78 = .ok (.aload_n 0, 1) := by decide +kernel
theorem d_Mo_override_79 : decode prog_8_method_47_code 79 = .ok (.getfield 98, 3) := by decide +kernel
theorem d_Mo_override_82 : decode prog_8_method_47_code 82 = .ok (.idiv, 1) := by decide +kernel
theorem d_Mo_override_83 : decode prog_8_method_47_code 83 = .ok (.iadd, 1) := by decide +kernel
theorem d_Mo_override_84 : decode prog_8_method_47_code 84 = .ok (.iconst 1, 1) := by decide +kernel
theorem d_Mo_override_85 : decode prog_8_method_47_code 85 = .ok (.bastore, 1) := by decide +kernel
theorem d_Mo_override_86 : decode prog_8_method_47_code 86 = .ok (.aload_n 0, 1) := by decide +kernel
theorem d_Mo_override_87 : decode prog_8_method_47_code 87 = .ok (.getfield 188, 3) := by decide +kernel
theorem d_Mo_override_90 : decode prog_8_method_47_code 90 = .ok (.ifCond .ne 12, 3) := by decide +kernel
theorem d_Mo_override_93 : decode prog_8_method_47_code 93 = .ok (.aload_n 0, 1) := by decide +kernel
theorem d_Mo_override_94 : decode prog_8_method_47_code 94 = .ok (.invokevirtual 239, 3) := by decide +kernel
theorem d_Mo_override_97 : decode prog_8_method_47_code 97 = .ok (.istore 4, 2) := by decide +kernel
theorem d_Mo_override_99 : decode prog_8_method_47_code 99 = .ok (.goto 13, 3) := by decide +kernel
theorem d_Mo_override_102 : decode prog_8_method_47_code 102 = .ok (.aload_n 0, 1) := by decide +kernel
theorem d_Mo_override_103 : decode prog_8_method_47_code 103 = .ok (.aload_n 0, 1) := by decide +kernel
theorem d_Mo_override_104 : decode prog_8_method_47_code 104 = .ok (.getfield 188, 3) := by decide +kernel
theorem d_Mo_override_107 : decode prog_8_method_47_code 107 = .ok (.invokevirtual 217, 3) := by decide +kernel
theorem d_Mo_override_110 : decode prog_8_method_47_code 110 = .ok (.istore 4, 2) := by decide +kernel
theorem d_Mo_override_112 : decode prog_8_method_47_code 112 = .ok (.lload_n 2, 1) := by decide +kernel
theorem d_Mo_override_113 : decode prog_8_method_47_code 113 = .ok (.aload_n 0, 1) := by decide +kernel
theorem d_Mo_override_114 : decode prog_8_method_47_code 114 = .ok (.invokevirtual 199, 3) := by decide +kernel
theorem d_Mo_override_117 : decode prog_8_method_47_code 117 = .ok (.lsub, 1) := by decide +kernel
theorem d_Mo_override_118 : decode prog_8_method_47_code 118 = .ok (.l2i, 1) := by decide +kernel
theorem d_Mo_override_119 : decode prog_8_method_47_code 119 = .ok (.ireturn, 1) := by decide +kernel
theorem d_Mo_greatest_0 : decode prog_8_method_48_code 0 = .ok (.aload_n 0, 1) := by decide +kernel
theorem d_Mo_greatest_1 : decode prog_8_method_48_code 1 = .ok (.invokevirtual 220, 3) := by decide +kernel
theorem d_Mo_greatest_4 : decode prog_8_method_48_code 4 = .ok (.ifCond .ne 19, 3) := by decide +kernel
theorem d_Mo_greatest_7 : decode prog_8_method_48_code 7 = .ok (.aload_n 0, 1) := by decide +kernel
theorem d_Mo_greatest_8 : decode prog_8_method_48_code 8 = .ok (.invokevirtual 199, 3) := by decide +kernel
theorem d_Mo_greatest_11 : decode prog_8_method_48_code 11 = .ok (.aload_n 0, 1) := by decide +kernel
theorem d_Mo_greatest_12 : decode prog_8_method_48_code 12 = .ok (.getfield 184, 3) := by decide +kernel
theorem d_Mo_greatest_15 : decode prog_8_method_48_code 15 = .ok (.lcmp, 1) := by decide +kernel
theorem d_Mo_greatest_16 : decode prog_8_method_48_code 16 = .ok (.ifCond .ne 7, 3) := by decide +kernel
theorem d_Mo_greatest_19 : decode prog_8_method_48_code 19 = .ok (.iconst 1, 1) := by decide +kernel
theorem d_Mo_greatest_20 : decode prog_8_method_48_code 20 = .ok (.goto 4, 3) := by decide +kernel
theorem d_Mo_greatest_23 : decode prog_8_method_48_code 23 = .ok (.iconst 0, 1) := by decide +kernel
theorem d_Mo_greatest_24 : decode prog_8_method_48_code 24 = .ok (.ireturn, 1) := by decide +kernel
